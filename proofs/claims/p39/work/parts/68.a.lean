/-! ===== the class: its face ===== -/
noncomputable def g_73 (n : Nat) : Nat → Nat → Sg → PO
  | 0, _, l => (.inl 0, l)
  | d + 1, j, l => (if l 311 j = (5 : Int32) then g_73 n d (j + 1)  l else (.inr 2, l))
theorem lg_73 {l : Sg} {P : MO → Sg → Prop} {n : Nat}(hl : n ≤ 60) (hCI : CI l n)  : ∀ (d j : Nat), j + d = n → Rk (Qn P) (g_73 n d j  l) → Ws false 73 (mMc 73) (mMs 73) 2 [(1, .int (i32 j)), (0, .ref 0)] [] l P := by
  intro d
  induction d with
  | zero =>
    intro j hj k
    obtain rfl : n = j := by omega
    rw [g_73] at k
    refine zPs (pc1 := 4) (l1 := [(1, .int (i32 n)), (0, .ref 0)]) (st1 := [.ref 0, .int (i32 n)]) 2 rfl rfl rfl ?_
    refine zGetI (F := 292) (I := 19) (v := i32 n) rfl rfl icCalls hCI.1 ?_
    refine nCge (a := n) (b := n) (by omega) (by omega) rfl (fun h1 => ?_) (fun h1 => absurd (Nat.le_refl _) h1)
    refine zRv rfl rfl ?_
    exact k
  | succ d ih =>
    intro j hj k
    have hjl : j < n := by omega
    rw [g_73] at k
    refine zPs (pc1 := 4) (l1 := [(1, .int (i32 j)), (0, .ref 0)]) (st1 := [.ref 0, .int (i32 j)]) 2 rfl rfl rfl ?_
    refine zGetI (F := 292) (I := 19) (v := i32 n) rfl rfl icCalls hCI.1 ?_
    refine nCge (a := j) (b := n) (by omega) (by omega) rfl (fun h1 => absurd h1 (by omega)) (fun h1 => ?_)
    refine zPs (pc1 := 11) (l1 := [(1, .int (i32 j)), (0, .ref 0)]) (st1 := [.ref 0]) 1 rfl rfl rfl ?_
    refine zGetR (r := 2) rfl rfl ⟨by decide, rfl, by decide, rfl⟩ ?_
    refine zPs (pc1 := 15) (l1 := [(1, .int (i32 j)), (0, .ref 0)]) (st1 := [.int (i32 j), .ref 2]) 1 rfl rfl rfl ?_
    refine zAal (n := j) rfl rfl (irL (by omega)) ?_
    refine zGetI (F := 311) (I := j) (v := l 311 j) rfl rfl (icL (j := 1) (by omega) rfl) rfl ?_
    refine zPs (pc1 := 20) (l1 := [(1, .int (i32 j)), (0, .ref 0)]) (st1 := [.int (5 : Int32), .int (l 311 j)]) 1 rfl rfl rfl ?_
    refine zCe rfl (fun h2 => ?_) (fun h2 => ?_)
    · replace k := ite_t h2 k
      refine zPs (pc1 := 37) (l1 := [(1, .int (i32 j + (1 : Int32))), (0, .ref 0)]) (st1 := []) 1 rfl rfl rfl ?_
      refine zTo (ml' := [(1, .int (i32 (j + 1))), (0, .ref 0)]) (st' := []) (by rw [show (i32 j + (1 : Int32)) = i32 (j + 1) from i32_add j 1]) rfl ?_
      refine zPs (pc1 := 2) (l1 := [(1, .int (i32 (j + 1))), (0, .ref 0)]) (st1 := []) 1 rfl rfl rfl ?_
      refine zMl (ml' := [(1, .int (i32 (j + 1))), (0, .ref 0)]) ⟨rfl, rfl, trivial⟩ rfl rfl ?_
      exact ih (j + 1) (by omega) k
    · replace k := ite_f h2 k
      refine zT rfl rfl rfl ?_
      exact k
theorem g_73_eq {n : Nat} {l : Sg} : ∀ d j, j + d = n → g_73 n d j l = if ∀ k, k < n → j ≤ k → l 311 k = 5 then ((.inl 0, l) : PO) else (.inr 2, l)
  | 0, j, h => by
    rw [g_73, if_pos (fun k h1 h2 => by omega)]
  | d + 1, j, h => by
    rw [g_73]
    by_cases h5 : l 311 j = 5
    · rw [if_pos h5, g_73_eq d (j + 1) (by omega)]
      by_cases q : ∀ k, k < n → j + 1 ≤ k → l 311 k = 5
      · rw [if_pos q, if_pos]
        intro k h1 h2
        by_cases e : k = j
        · rw [e]; exact h5
        · exact q k h1 (by omega)
      · rw [if_neg q, if_neg]
        intro q2
        exact q (fun k h1 h2 => q2 k h1 (by omega))
    · rw [if_neg h5, if_neg]
      intro q
      exact h5 (q j (by omega) (Nat.le_refl j))
theorem e_73 {l : Sg} {P : MO → Sg → Prop} {n : Nat} (hl : n ≤ 60) (hCI : CI l n) (k1 : quiet l n → P (.inl none) l) (k0 : ¬ quiet l n → P (.inr 2) l) : Es false 73 [.ref 0] l P := by
  have k : Rk (Qn P) (g_73 n n 0 l) := by
    rw [g_73_eq n 0 (by omega)]
    by_cases q : quiet l n
    · rw [if_pos (fun k h _ => q k h)]; exact k1 q
    · rw [if_neg (fun q2 => q (fun k h => q2 k h (Nat.zero_le k)))]; exact k0 q
  refine Es.of ?_
  refine zPs (pc1 := 2) (l1 := [(1, .int (0 : Int32)), (0, .ref 0)]) (st1 := []) 2 rfl rfl rfl ?_
  refine zMl (ml' := [(1, .int (i32 0)), (0, .ref 0)]) ⟨rfl, rfl, trivial⟩ rfl rfl ?_
  exact lg_73 hl hCI n 0   (by omega) k
def hs (mi x : Nat) : Bool := (lk2 hanL mi x).isSome
def han (mi x : Nat) : Int32 := match lk2 hanL mi x with
  | some v => v.2.2.2.1
  | none => 0
/-- what a wrapper answers, of a method that answers nothing; of one that answers a number, into out
-/
def wv (mi : Nat) (r : PO) : Int32 × Sg := match r.1 with
  | .inl _ => (0, r.2)
  | .inr x => (han mi x, r.2)
def wo (mi : Nat) (r : PO) : Int32 × Sg := match r.1 with
  | .inl v => (0, up2 r.2 332 0 v)
  | .inr x => (han mi x, r.2)
theorem hs_ex {mi rc rs nx x : Nat} {ml : ML} {rest : List Value} {P : MO → Sg → Prop} {l : Sg} (h : hs mi x = true) (k : P (.inl (some (.int (han mi x)))) l) : KcH mi rc rs nx ml rest P (.inr x) l := by
  unfold hs at h
  unfold han at k
  cases hq : lk2 hanL mi x with
  | none => rw [hq] at h; cases h
  | some v => rw [hq] at k; exact ⟨v, hq, k⟩
theorem hs_exI {mi rc rs nx x : Nat} {ml : ML} {rest : List Value} {P : MO → Sg → Prop} {l : Sg} (h : hs mi x = true) (k : P (.inl (some (.int (han mi x)))) l) : Rk (Qp (KcH mi rc rs nx ml rest P)) ((.inr x, l) : PO) := hs_ex (rc := rc) (rs := rs) (nx := nx) (ml := ml) (rest := rest) h k
theorem hs_exV {mi rc rs nx x : Nat} {ml : ML} {rest : List Value} {P : MO → Sg → Prop} {l : Sg} (h : hs mi x = true) (k : P (.inl (some (.int (han mi x)))) l) : Rk (Qn (KcH mi rc rs nx ml rest P)) ((.inr x, l) : PO) := hs_ex (rc := rc) (rs := rs) (nx := nx) (ml := ml) (rest := rest) h k
theorem kHI {mi rc rs nx : Nat} {v : Int32} {ml : ML} {rest : List Value} {P : MO → Sg → Prop} {l : Sg} (h : Ws false mi rc rs nx ml (.int v :: rest) l P) : Rk (Qp (KcH mi rc rs nx ml rest P)) ((.inl v, l) : PO) := h
theorem kHV {mi rc rs nx : Nat} {v : Int32} {ml : ML} {rest : List Value} {P : MO → Sg → Prop} {l : Sg} (h : Ws false mi rc rs nx ml rest l P) : Rk (Qn (KcH mi rc rs nx ml rest P)) ((.inl v, l) : PO) := h
noncomputable def f_31 (n : Nat) (x0 : Int32) (x1 : Int32) (x2 : Int32) (l : Sg) : PO := (if isN x0 then (if isT x2 then (if (1 : Int32) ≤ x1 ∧ x1 ≤ (60 : Int32) then (if quiet l n then (bnd (f_25 x0.toNatClampNeg (1 : Int32) x2 (-1 : Int32) l) fun l7 => (.inl 0, (up2 l7 433 x0.toNatClampNeg x1))) else (.inr 2, l)) else (.inr 1, l)) else (.inr 0, l)) else (.inr 0, l))
theorem e_31 {l : Sg} {P : MO → Sg → Prop} {n : Nat} {x0 : Int32} {x1 : Int32} {x2 : Int32} (hl : n ≤ 60) (hCI : CI l n)  (k : Rk (Qn P) (f_31 n x0 x1 x2 l)) : Es false 31 [.ref 0, .int x0, .int x1, .int x2] l P := by
  unfold f_31 at k
  refine Es.of ?_
  refine zPs (pc1 := 2) (l1 := [(0, .ref 0), (1, .int x0), (2, .int x1), (3, .int x2)]) (st1 := [.int x0, .ref 0]) 2 rfl rfl rfl ?_
  refine zCv (mj := 67) (k := 0) (n := 1) rfl rfl rfl rfl (by decide) rfl rfl rfl rfl rfl rfl ?_
  refine e_67 (fun h1 => ?_) (fun h1 => ?_)
  · replace k := ite_t h1 k
    have h2 := isN_lt h1
    refine kV ?_
    refine zPs (pc1 := 7) (l1 := [(0, .ref 0), (1, .int x0), (2, .int x1), (3, .int x2)]) (st1 := [.int x2, .ref 0]) 2 rfl rfl rfl ?_
    refine zCv (mj := 68) (k := 0) (n := 1) rfl rfl rfl rfl (by decide) rfl rfl rfl rfl rfl rfl ?_
    refine e_68 (fun h3 => ?_) (fun h3 => ?_)
    · replace k := ite_t h3 k
      refine kV ?_
      refine zPs (pc1 := 15) (l1 := [(0, .ref 0), (1, .int x0), (2, .int x1), (3, .int x2)]) (st1 := [.int (60 : Int32), .int (1 : Int32), .int x1, .ref 0]) 4 rfl rfl rfl ?_
      refine zCv (mj := 71) (k := 0) (n := 3) rfl rfl rfl rfl (by decide) rfl rfl rfl rfl rfl rfl ?_
      refine e_71 (fun h4 => ?_) (fun h4 => ?_)
      · replace k := ite_t h4 k
        have h5 := rng_le (b := 60) (by decide) (Int32.le_trans (by decide) h4.1) h4.2
        refine kV ?_
        refine zPs (pc1 := 19) (l1 := [(0, .ref 0), (1, .int x0), (2, .int x1), (3, .int x2)]) (st1 := [.ref 0]) 1 rfl rfl rfl ?_
        refine zCv (mj := 73) (k := 0) (n := 0) rfl rfl rfl rfl (by decide) rfl rfl rfl rfl rfl rfl ?_
        refine e_73 hl hCI (fun h6 => ?_) (fun h6 => ?_)
        · replace k := ite_t h6 k
          refine kV ?_
          refine zPs (pc1 := 23) (l1 := [(0, .ref 0), (1, .int x0), (2, .int x1), (3, .int x2)]) (st1 := [.ref 0]) 1 rfl rfl rfl ?_
          refine zGetR (r := 1) rfl rfl ⟨by decide, rfl, by decide, rfl⟩ ?_
          refine zPs (pc1 := 27) (l1 := [(0, .ref 0), (1, .int x0), (2, .int x1), (3, .int x2)]) (st1 := [.int x0, .ref 1]) 1 rfl rfl rfl ?_
          refine zAalE (n := x0.toNatClampNeg) h2.2 rfl rfl (irN h2.1) ?_
          refine zPs (pc1 := 35) (l1 := [(4, .ref (46 + 4 * x0.toNatClampNeg)), (0, .ref 0), (1, .int x0), (2, .int x1), (3, .int x2)]) (st1 := [.int (-1 : Int32), .int x2, .int (1 : Int32), .ref (46 + 4 * x0.toNatClampNeg)]) 5 rfl rfl rfl ?_
          refine zCv (mj := 25) (k := (46 + 4 * x0.toNatClampNeg)) (n := 3) rfl rfl rfl rfl (by have := h2.1; omega) (tagK_node h2.1) rfl rfl rfl rfl rfl ?_
          refine e_25 h2.1 ?_
          refine kV ?_
          have hCI7 : CI (f_25 x0.toNatClampNeg (1 : Int32) x2 (-1 : Int32) l) n := ci_25 hCI
          replace k := bnd_i k
          generalize f_25 x0.toNatClampNeg (1 : Int32) x2 (-1 : Int32) l = l7 at k hCI7 ⊢
          refine zPs (pc1 := 41) (l1 := [(4, .ref (46 + 4 * x0.toNatClampNeg)), (0, .ref 0), (1, .int x0), (2, .int x1), (3, .int x2)]) (st1 := [.int x1, .ref (46 + 4 * x0.toNatClampNeg)]) 2 rfl rfl rfl ?_
          refine zPutI (F := 433) (I := x0.toNatClampNeg) rfl rfl (icN (j := 3) h2.1 rfl) rfl ?_
          refine zRv rfl rfl ?_
          exact k
        · replace k := ite_f h6 k
          refine kX ?_
          exact k
      · replace k := ite_f h4 k
        refine kX ?_
        exact k
    · replace k := ite_f h3 k
      refine kX ?_
      exact k
  · replace k := ite_f h1 k
    refine kX ?_
    exact k
theorem x_31 {n : Nat} {x0 x1 x2 : Int32} {l : Sg} (x : Nat) (h : (f_31 n x0 x1 x2 l).1 = .inr x) : x < 3 := by
  unfold f_31 at h
  try simp only [bnd, bnd2] at h
  repeat' split at h
  all_goals first | (cases h; decide) | cases h
noncomputable def f_32 (n : Nat) (x0 : Int32) (l : Sg) : PO := (if isN x0 then (if quiet l n then (bnd (f_25 x0.toNatClampNeg (2 : Int32) (-1 : Int32) (-1 : Int32) l) fun l4 => (.inl 0, l4)) else (.inr 2, l)) else (.inr 0, l))
theorem e_32 {l : Sg} {P : MO → Sg → Prop} {n : Nat} {x0 : Int32} (hl : n ≤ 60) (hCI : CI l n)  (k : Rk (Qn P) (f_32 n x0 l)) : Es false 32 [.ref 0, .int x0] l P := by
  unfold f_32 at k
  refine Es.of ?_
  refine zPs (pc1 := 2) (l1 := [(0, .ref 0), (1, .int x0)]) (st1 := [.int x0, .ref 0]) 2 rfl rfl rfl ?_
  refine zCv (mj := 67) (k := 0) (n := 1) rfl rfl rfl rfl (by decide) rfl rfl rfl rfl rfl rfl ?_
  refine e_67 (fun h1 => ?_) (fun h1 => ?_)
  · replace k := ite_t h1 k
    have h2 := isN_lt h1
    refine kV ?_
    refine zPs (pc1 := 6) (l1 := [(0, .ref 0), (1, .int x0)]) (st1 := [.ref 0]) 1 rfl rfl rfl ?_
    refine zCv (mj := 73) (k := 0) (n := 0) rfl rfl rfl rfl (by decide) rfl rfl rfl rfl rfl rfl ?_
    refine e_73 hl hCI (fun h3 => ?_) (fun h3 => ?_)
    · replace k := ite_t h3 k
      refine kV ?_
      refine zPs (pc1 := 10) (l1 := [(0, .ref 0), (1, .int x0)]) (st1 := [.ref 0]) 1 rfl rfl rfl ?_
      refine zGetR (r := 1) rfl rfl ⟨by decide, rfl, by decide, rfl⟩ ?_
      refine zPs (pc1 := 14) (l1 := [(0, .ref 0), (1, .int x0)]) (st1 := [.int x0, .ref 1]) 1 rfl rfl rfl ?_
      refine zAalE (n := x0.toNatClampNeg) h2.2 rfl rfl (irN h2.1) ?_
      refine zPs (pc1 := 18) (l1 := [(0, .ref 0), (1, .int x0)]) (st1 := [.int (-1 : Int32), .int (-1 : Int32), .int (2 : Int32), .ref (46 + 4 * x0.toNatClampNeg)]) 3 rfl rfl rfl ?_
      refine zCv (mj := 25) (k := (46 + 4 * x0.toNatClampNeg)) (n := 3) rfl rfl rfl rfl (by have := h2.1; omega) (tagK_node h2.1) rfl rfl rfl rfl rfl ?_
      refine e_25 h2.1 ?_
      refine kV ?_
      have hCI4 : CI (f_25 x0.toNatClampNeg (2 : Int32) (-1 : Int32) (-1 : Int32) l) n := ci_25 hCI
      replace k := bnd_i k
      generalize f_25 x0.toNatClampNeg (2 : Int32) (-1 : Int32) (-1 : Int32) l = l4 at k hCI4 ⊢
      refine zRv rfl rfl ?_
      exact k
    · replace k := ite_f h3 k
      refine kX ?_
      exact k
  · replace k := ite_f h1 k
    refine kX ?_
    exact k
theorem x_32 {n : Nat} {x0 : Int32} {l : Sg} (x : Nat) (h : (f_32 n x0 l).1 = .inr x) : x < 3 := by
  unfold f_32 at h
  try simp only [bnd, bnd2] at h
  repeat' split at h
  all_goals first | (cases h; decide) | cases h
noncomputable def f_33 (n : Nat) (x0 : Int32) (x1 : Int32) (x2 : Int32) (l : Sg) : PO := (if isN x0 then (if isT x2 then (if (10 ≤ x1 ∧ x1 ≤ 19) ∨ ((100 ≤ x1 ∧ x1 ≤ 199) ∨ (1000 ≤ x1 ∧ x1 ≤ 1999)) then (if quiet l n then (if l 296 x0.toNatClampNeg = (2 : Int32) then (bnd2 (f_9 x0.toNatClampNeg x1 x2 l) fun v7 l7 => (if ¬ v7 = 0 then (.inl (l7 306 x0.toNatClampNeg), l7) else (.inr 2, l7))) else (.inr 2, l)) else (.inr 2, l)) else (.inr 1, l)) else (.inr 0, l)) else (.inr 0, l))
theorem e_33 {l : Sg} {P : MO → Sg → Prop} {n : Nat} {x0 : Int32} {x1 : Int32} {x2 : Int32} (hl : n ≤ 60) (hCI : CI l n)  (k : Rk (Qp P) (f_33 n x0 x1 x2 l)) : Es false 33 [.ref 0, .int x0, .int x1, .int x2] l P := by
  unfold f_33 at k
  refine Es.of ?_
  refine zPs (pc1 := 2) (l1 := [(0, .ref 0), (1, .int x0), (2, .int x1), (3, .int x2)]) (st1 := [.int x0, .ref 0]) 2 rfl rfl rfl ?_
  refine zCv (mj := 67) (k := 0) (n := 1) rfl rfl rfl rfl (by decide) rfl rfl rfl rfl rfl rfl ?_
  refine e_67 (fun h1 => ?_) (fun h1 => ?_)
  · replace k := ite_t h1 k
    have h2 := isN_lt h1
    refine kV ?_
    refine zPs (pc1 := 7) (l1 := [(0, .ref 0), (1, .int x0), (2, .int x1), (3, .int x2)]) (st1 := [.int x2, .ref 0]) 2 rfl rfl rfl ?_
    refine zCv (mj := 68) (k := 0) (n := 1) rfl rfl rfl rfl (by decide) rfl rfl rfl rfl rfl rfl ?_
    refine e_68 (fun h3 => ?_) (fun h3 => ?_)
    · replace k := ite_t h3 k
      refine kV ?_
      refine zPs (pc1 := 12) (l1 := [(0, .ref 0), (1, .int x0), (2, .int x1), (3, .int x2)]) (st1 := [.int x1, .ref 0]) 2 rfl rfl rfl ?_
      refine zCv (mj := 72) (k := 0) (n := 1) rfl rfl rfl rfl (by decide) rfl rfl rfl rfl rfl rfl ?_
      refine e_72 (fun h4 => ?_) (fun h4 => ?_)
      · replace k := ite_t h4 k
        refine kV ?_
        refine zPs (pc1 := 16) (l1 := [(0, .ref 0), (1, .int x0), (2, .int x1), (3, .int x2)]) (st1 := [.ref 0]) 1 rfl rfl rfl ?_
        refine zCv (mj := 73) (k := 0) (n := 0) rfl rfl rfl rfl (by decide) rfl rfl rfl rfl rfl rfl ?_
        refine e_73 hl hCI (fun h5 => ?_) (fun h5 => ?_)
        · replace k := ite_t h5 k
          refine kV ?_
          refine zPs (pc1 := 20) (l1 := [(0, .ref 0), (1, .int x0), (2, .int x1), (3, .int x2)]) (st1 := [.ref 0]) 1 rfl rfl rfl ?_
          refine zGetR (r := 1) rfl rfl ⟨by decide, rfl, by decide, rfl⟩ ?_
          refine zPs (pc1 := 24) (l1 := [(0, .ref 0), (1, .int x0), (2, .int x1), (3, .int x2)]) (st1 := [.int x0, .ref 1]) 1 rfl rfl rfl ?_
          refine zAalE (n := x0.toNatClampNeg) h2.2 rfl rfl (irN h2.1) ?_
          refine zPs (pc1 := 29) (l1 := [(4, .ref (46 + 4 * x0.toNatClampNeg)), (0, .ref 0), (1, .int x0), (2, .int x1), (3, .int x2)]) (st1 := [.ref (46 + 4 * x0.toNatClampNeg)]) 2 rfl rfl rfl ?_
          refine zGetI (F := 296) (I := x0.toNatClampNeg) (v := l 296 x0.toNatClampNeg) rfl rfl (icN (j := 0) h2.1 rfl) rfl ?_
          refine zPs (pc1 := 33) (l1 := [(4, .ref (46 + 4 * x0.toNatClampNeg)), (0, .ref 0), (1, .int x0), (2, .int x1), (3, .int x2)]) (st1 := [.int (2 : Int32), .int (l 296 x0.toNatClampNeg)]) 1 rfl rfl rfl ?_
          refine zCe rfl (fun h6 => ?_) (fun h6 => ?_)
          · replace k := ite_t h6 k
            refine zPs (pc1 := 48) (l1 := [(4, .ref (46 + 4 * x0.toNatClampNeg)), (0, .ref 0), (1, .int x0), (2, .int x1), (3, .int x2)]) (st1 := [.ref (46 + 4 * x0.toNatClampNeg)]) 1 rfl rfl rfl ?_
            refine zGetR (r := (47 + 4 * x0.toNatClampNeg)) rfl rfl (irKs h2.1) ?_
            refine zPs (pc1 := 53) (l1 := [(4, .ref (46 + 4 * x0.toNatClampNeg)), (0, .ref 0), (1, .int x0), (2, .int x1), (3, .int x2)]) (st1 := [.int x2, .int x1, .ref (47 + 4 * x0.toNatClampNeg)]) 2 rfl rfl rfl ?_
            refine zCv (mj := 9) (k := (47 + 4 * x0.toNatClampNeg)) (n := 2) rfl rfl rfl rfl (by have := h2.1; omega) (tagK_keys h2.1) rfl rfl rfl rfl rfl ?_
            refine e_9 h2.1 ?_
            refine kI ?_
            have hCI7 : CI (f_9 x0.toNatClampNeg x1 x2 l).2 n := ci_9 hCI
            replace k := bnd2_i k
            generalize (f_9 x0.toNatClampNeg x1 x2 l).1 = v7 at k ⊢
            generalize (f_9 x0.toNatClampNeg x1 x2 l).2 = l7 at k hCI7 ⊢
            refine zIfn rfl (fun h8 => ?_) (fun h8 => ?_)
            · replace k := ite_t h8 k
              refine zPs (pc1 := 71) (l1 := [(4, .ref (46 + 4 * x0.toNatClampNeg)), (0, .ref 0), (1, .int x0), (2, .int x1), (3, .int x2)]) (st1 := [.ref (46 + 4 * x0.toNatClampNeg)]) 1 rfl rfl rfl ?_
              refine zGetR (r := (47 + 4 * x0.toNatClampNeg)) rfl rfl (irKs h2.1) ?_
              refine zGetI (F := 306) (I := x0.toNatClampNeg) (v := l7 306 x0.toNatClampNeg) rfl rfl (icKs h2.1) rfl ?_
              refine zRi rfl rfl ?_
              exact k
            · replace k := ite_f (not_not_intro h8) k
              refine zT rfl rfl rfl ?_
              exact k
          · replace k := ite_f h6 k
            refine zT rfl rfl rfl ?_
            exact k
        · replace k := ite_f h5 k
          refine kX ?_
          exact k
      · replace k := ite_f h4 k
        refine kX ?_
        exact k
    · replace k := ite_f h3 k
      refine kX ?_
      exact k
  · replace k := ite_f h1 k
    refine kX ?_
    exact k
theorem x_33 {n : Nat} {x0 x1 x2 : Int32} {l : Sg} (x : Nat) (h : (f_33 n x0 x1 x2 l).1 = .inr x) : x < 3 := by
  unfold f_33 at h
  try simp only [bnd, bnd2] at h
  repeat' split at h
  all_goals first | (cases h; decide) | cases h
noncomputable def f_34 (n : Nat) (x0 : Int32) (x1 : Int32) (x2 : Int32) (x3 : Int32) (l : Sg) : PO := (if isN x0 then (if isT x3 then (if (1 : Int32) ≤ x1 ∧ x1 ≤ (6 : Int32) then (if x1 ≤ x2 ∧ x2 ≤ (6 : Int32) then (if quiet l n then (bnd (f_25 x0.toNatClampNeg (3 : Int32) x3 (-1 : Int32) l) fun l8 => (.inl 0, (up2 (up2 l8 437 x0.toNatClampNeg x1) 438 x0.toNatClampNeg x2))) else (.inr 2, l)) else (.inr 1, l)) else (.inr 1, l)) else (.inr 0, l)) else (.inr 0, l))
theorem e_34 {l : Sg} {P : MO → Sg → Prop} {n : Nat} {x0 : Int32} {x1 : Int32} {x2 : Int32} {x3 : Int32} (hl : n ≤ 60) (hCI : CI l n)  (k : Rk (Qn P) (f_34 n x0 x1 x2 x3 l)) : Es false 34 [.ref 0, .int x0, .int x1, .int x2, .int x3] l P := by
  unfold f_34 at k
  refine Es.of ?_
  refine zPs (pc1 := 2) (l1 := [(0, .ref 0), (1, .int x0), (2, .int x1), (3, .int x2), (4, .int x3)]) (st1 := [.int x0, .ref 0]) 2 rfl rfl rfl ?_
  refine zCv (mj := 67) (k := 0) (n := 1) rfl rfl rfl rfl (by decide) rfl rfl rfl rfl rfl rfl ?_
  refine e_67 (fun h1 => ?_) (fun h1 => ?_)
  · replace k := ite_t h1 k
    have h2 := isN_lt h1
    refine kV ?_
    refine zPs (pc1 := 8) (l1 := [(0, .ref 0), (1, .int x0), (2, .int x1), (3, .int x2), (4, .int x3)]) (st1 := [.int x3, .ref 0]) 2 rfl rfl rfl ?_
    refine zCv (mj := 68) (k := 0) (n := 1) rfl rfl rfl rfl (by decide) rfl rfl rfl rfl rfl rfl ?_
    refine e_68 (fun h3 => ?_) (fun h3 => ?_)
    · replace k := ite_t h3 k
      refine kV ?_
      refine zPs (pc1 := 16) (l1 := [(0, .ref 0), (1, .int x0), (2, .int x1), (3, .int x2), (4, .int x3)]) (st1 := [.int (6 : Int32), .int (1 : Int32), .int x1, .ref 0]) 4 rfl rfl rfl ?_
      refine zCv (mj := 71) (k := 0) (n := 3) rfl rfl rfl rfl (by decide) rfl rfl rfl rfl rfl rfl ?_
      refine e_71 (fun h4 => ?_) (fun h4 => ?_)
      · replace k := ite_t h4 k
        have h5 := rng_le (b := 6) (by decide) (Int32.le_trans (by decide) h4.1) h4.2
        refine kV ?_
        refine zPs (pc1 := 24) (l1 := [(0, .ref 0), (1, .int x0), (2, .int x1), (3, .int x2), (4, .int x3)]) (st1 := [.int (6 : Int32), .int x1, .int x2, .ref 0]) 4 rfl rfl rfl ?_
        refine zCv (mj := 71) (k := 0) (n := 3) rfl rfl rfl rfl (by decide) rfl rfl rfl rfl rfl rfl ?_
        refine e_71 (fun h6 => ?_) (fun h6 => ?_)
        · replace k := ite_t h6 k
          refine kV ?_
          refine zPs (pc1 := 28) (l1 := [(0, .ref 0), (1, .int x0), (2, .int x1), (3, .int x2), (4, .int x3)]) (st1 := [.ref 0]) 1 rfl rfl rfl ?_
          refine zCv (mj := 73) (k := 0) (n := 0) rfl rfl rfl rfl (by decide) rfl rfl rfl rfl rfl rfl ?_
          refine e_73 hl hCI (fun h7 => ?_) (fun h7 => ?_)
          · replace k := ite_t h7 k
            refine kV ?_
            refine zPs (pc1 := 32) (l1 := [(0, .ref 0), (1, .int x0), (2, .int x1), (3, .int x2), (4, .int x3)]) (st1 := [.ref 0]) 1 rfl rfl rfl ?_
            refine zGetR (r := 1) rfl rfl ⟨by decide, rfl, by decide, rfl⟩ ?_
            refine zPs (pc1 := 36) (l1 := [(0, .ref 0), (1, .int x0), (2, .int x1), (3, .int x2), (4, .int x3)]) (st1 := [.int x0, .ref 1]) 1 rfl rfl rfl ?_
            refine zAalE (n := x0.toNatClampNeg) h2.2 rfl rfl (irN h2.1) ?_
            refine zPs (pc1 := 45) (l1 := [(5, .ref (46 + 4 * x0.toNatClampNeg)), (0, .ref 0), (1, .int x0), (2, .int x1), (3, .int x2), (4, .int x3)]) (st1 := [.int (-1 : Int32), .int x3, .int (3 : Int32), .ref (46 + 4 * x0.toNatClampNeg)]) 5 rfl rfl rfl ?_
            refine zCv (mj := 25) (k := (46 + 4 * x0.toNatClampNeg)) (n := 3) rfl rfl rfl rfl (by have := h2.1; omega) (tagK_node h2.1) rfl rfl rfl rfl rfl ?_
            refine e_25 h2.1 ?_
            refine kV ?_
            have hCI8 : CI (f_25 x0.toNatClampNeg (3 : Int32) x3 (-1 : Int32) l) n := ci_25 hCI
            replace k := bnd_i k
            generalize f_25 x0.toNatClampNeg (3 : Int32) x3 (-1 : Int32) l = l8 at k hCI8 ⊢
            refine zPs (pc1 := 51) (l1 := [(5, .ref (46 + 4 * x0.toNatClampNeg)), (0, .ref 0), (1, .int x0), (2, .int x1), (3, .int x2), (4, .int x3)]) (st1 := [.int x1, .ref (46 + 4 * x0.toNatClampNeg)]) 2 rfl rfl rfl ?_
            refine zPutI (F := 437) (I := x0.toNatClampNeg) rfl rfl (icN (j := 7) h2.1 rfl) rfl ?_
            refine zPs (pc1 := 57) (l1 := [(5, .ref (46 + 4 * x0.toNatClampNeg)), (0, .ref 0), (1, .int x0), (2, .int x1), (3, .int x2), (4, .int x3)]) (st1 := [.int x2, .ref (46 + 4 * x0.toNatClampNeg)]) 2 rfl rfl rfl ?_
            refine zPutI (F := 438) (I := x0.toNatClampNeg) rfl rfl (icN (j := 8) h2.1 rfl) rfl ?_
            refine zRv rfl rfl ?_
            exact k
          · replace k := ite_f h7 k
            refine kX ?_
            exact k
        · replace k := ite_f h6 k
          refine kX ?_
          exact k
      · replace k := ite_f h4 k
        refine kX ?_
        exact k
    · replace k := ite_f h3 k
      refine kX ?_
      exact k
  · replace k := ite_f h1 k
    refine kX ?_
    exact k
theorem x_34 {n : Nat} {x0 x1 x2 x3 : Int32} {l : Sg} (x : Nat) (h : (f_34 n x0 x1 x2 x3 l).1 = .inr x) : x < 3 := by
  unfold f_34 at h
  try simp only [bnd, bnd2] at h
  repeat' split at h
  all_goals first | (cases h; decide) | cases h
noncomputable def f_35 (n : Nat) (x0 : Int32) (x1 : Int32) (x2 : Int32) (x3 : Int32) (x4 : Int32) (l : Sg) : PO := (if isN x0 then (if isT x4 then (if (1 : Int32) ≤ x1 ∧ x1 ≤ (60 : Int32) then (if (1 : Int32) ≤ x2 ∧ x2 ≤ (20 : Int32) then (if (1 : Int32) ≤ x3 ∧ x3 ≤ (5 : Int32) then (if quiet l n then (if l 296 x0.toNatClampNeg = (2 : Int32) then (.inl 0, (up2 (up2 (up2 (up2 l 303 x0.toNatClampNeg x1) 304 x0.toNatClampNeg x2) 305 x0.toNatClampNeg x3) 302 x0.toNatClampNeg x4)) else (if l 296 x0.toNatClampNeg = (3 : Int32) then (.inl 0, (up2 (up2 (up2 (up2 l 303 x0.toNatClampNeg x1) 304 x0.toNatClampNeg x2) 305 x0.toNatClampNeg x3) 302 x0.toNatClampNeg x4)) else (.inr 2, l))) else (.inr 2, l)) else (.inr 1, l)) else (.inr 1, l)) else (.inr 1, l)) else (.inr 0, l)) else (.inr 0, l))
theorem e_35 {l : Sg} {P : MO → Sg → Prop} {n : Nat} {x0 : Int32} {x1 : Int32} {x2 : Int32} {x3 : Int32} {x4 : Int32} (hl : n ≤ 60) (hCI : CI l n)  (k : Rk (Qn P) (f_35 n x0 x1 x2 x3 x4 l)) : Es false 35 [.ref 0, .int x0, .int x1, .int x2, .int x3, .int x4] l P := by
  unfold f_35 at k
  refine Es.of ?_
  refine zPs (pc1 := 2) (l1 := [(0, .ref 0), (1, .int x0), (2, .int x1), (3, .int x2), (4, .int x3), (5, .int x4)]) (st1 := [.int x0, .ref 0]) 2 rfl rfl rfl ?_
  refine zCv (mj := 67) (k := 0) (n := 1) rfl rfl rfl rfl (by decide) rfl rfl rfl rfl rfl rfl ?_
  refine e_67 (fun h1 => ?_) (fun h1 => ?_)
  · replace k := ite_t h1 k
    have h2 := isN_lt h1
    refine kV ?_
    refine zPs (pc1 := 8) (l1 := [(0, .ref 0), (1, .int x0), (2, .int x1), (3, .int x2), (4, .int x3), (5, .int x4)]) (st1 := [.int x4, .ref 0]) 2 rfl rfl rfl ?_
    refine zCv (mj := 68) (k := 0) (n := 1) rfl rfl rfl rfl (by decide) rfl rfl rfl rfl rfl rfl ?_
    refine e_68 (fun h3 => ?_) (fun h3 => ?_)
    · replace k := ite_t h3 k
      refine kV ?_
      refine zPs (pc1 := 16) (l1 := [(0, .ref 0), (1, .int x0), (2, .int x1), (3, .int x2), (4, .int x3), (5, .int x4)]) (st1 := [.int (60 : Int32), .int (1 : Int32), .int x1, .ref 0]) 4 rfl rfl rfl ?_
      refine zCv (mj := 71) (k := 0) (n := 3) rfl rfl rfl rfl (by decide) rfl rfl rfl rfl rfl rfl ?_
      refine e_71 (fun h4 => ?_) (fun h4 => ?_)
      · replace k := ite_t h4 k
        have h5 := rng_le (b := 60) (by decide) (Int32.le_trans (by decide) h4.1) h4.2
        refine kV ?_
        refine zPs (pc1 := 24) (l1 := [(0, .ref 0), (1, .int x0), (2, .int x1), (3, .int x2), (4, .int x3), (5, .int x4)]) (st1 := [.int (20 : Int32), .int (1 : Int32), .int x2, .ref 0]) 4 rfl rfl rfl ?_
        refine zCv (mj := 71) (k := 0) (n := 3) rfl rfl rfl rfl (by decide) rfl rfl rfl rfl rfl rfl ?_
        refine e_71 (fun h6 => ?_) (fun h6 => ?_)
        · replace k := ite_t h6 k
          have h7 := rng_le (b := 20) (by decide) (Int32.le_trans (by decide) h6.1) h6.2
          refine kV ?_
          refine zPs (pc1 := 32) (l1 := [(0, .ref 0), (1, .int x0), (2, .int x1), (3, .int x2), (4, .int x3), (5, .int x4)]) (st1 := [.int (5 : Int32), .int (1 : Int32), .int x3, .ref 0]) 4 rfl rfl rfl ?_
          refine zCv (mj := 71) (k := 0) (n := 3) rfl rfl rfl rfl (by decide) rfl rfl rfl rfl rfl rfl ?_
          refine e_71 (fun h8 => ?_) (fun h8 => ?_)
          · replace k := ite_t h8 k
            have h9 := rng_le (b := 5) (by decide) (Int32.le_trans (by decide) h8.1) h8.2
            refine kV ?_
            refine zPs (pc1 := 36) (l1 := [(0, .ref 0), (1, .int x0), (2, .int x1), (3, .int x2), (4, .int x3), (5, .int x4)]) (st1 := [.ref 0]) 1 rfl rfl rfl ?_
            refine zCv (mj := 73) (k := 0) (n := 0) rfl rfl rfl rfl (by decide) rfl rfl rfl rfl rfl rfl ?_
            refine e_73 hl hCI (fun h10 => ?_) (fun h10 => ?_)
            · replace k := ite_t h10 k
              refine kV ?_
              refine zPs (pc1 := 40) (l1 := [(0, .ref 0), (1, .int x0), (2, .int x1), (3, .int x2), (4, .int x3), (5, .int x4)]) (st1 := [.ref 0]) 1 rfl rfl rfl ?_
              refine zGetR (r := 1) rfl rfl ⟨by decide, rfl, by decide, rfl⟩ ?_
              refine zPs (pc1 := 44) (l1 := [(0, .ref 0), (1, .int x0), (2, .int x1), (3, .int x2), (4, .int x3), (5, .int x4)]) (st1 := [.int x0, .ref 1]) 1 rfl rfl rfl ?_
              refine zAalE (n := x0.toNatClampNeg) h2.2 rfl rfl (irN h2.1) ?_
              refine zPs (pc1 := 49) (l1 := [(6, .ref (46 + 4 * x0.toNatClampNeg)), (0, .ref 0), (1, .int x0), (2, .int x1), (3, .int x2), (4, .int x3), (5, .int x4)]) (st1 := [.ref (46 + 4 * x0.toNatClampNeg)]) 2 rfl rfl rfl ?_
              refine zGetI (F := 296) (I := x0.toNatClampNeg) (v := l 296 x0.toNatClampNeg) rfl rfl (icN (j := 0) h2.1 rfl) rfl ?_
              refine zPs (pc1 := 53) (l1 := [(6, .ref (46 + 4 * x0.toNatClampNeg)), (0, .ref 0), (1, .int x0), (2, .int x1), (3, .int x2), (4, .int x3), (5, .int x4)]) (st1 := [.int (2 : Int32), .int (l 296 x0.toNatClampNeg)]) 1 rfl rfl rfl ?_
              refine zCe rfl (fun h11 => ?_) (fun h11 => ?_)
              · replace k := ite_t h11 k
                refine zPs (pc1 := 78) (l1 := [(6, .ref (46 + 4 * x0.toNatClampNeg)), (0, .ref 0), (1, .int x0), (2, .int x1), (3, .int x2), (4, .int x3), (5, .int x4)]) (st1 := [.int x1, .ref (46 + 4 * x0.toNatClampNeg)]) 2 rfl rfl rfl ?_
                refine zPutI (F := 303) (I := x0.toNatClampNeg) rfl rfl (icN (j := 4) h2.1 rfl) rfl ?_
                refine zPs (pc1 := 84) (l1 := [(6, .ref (46 + 4 * x0.toNatClampNeg)), (0, .ref 0), (1, .int x0), (2, .int x1), (3, .int x2), (4, .int x3), (5, .int x4)]) (st1 := [.int x2, .ref (46 + 4 * x0.toNatClampNeg)]) 2 rfl rfl rfl ?_
                refine zPutI (F := 304) (I := x0.toNatClampNeg) rfl rfl (icN (j := 5) h2.1 rfl) rfl ?_
                refine zPs (pc1 := 91) (l1 := [(6, .ref (46 + 4 * x0.toNatClampNeg)), (0, .ref 0), (1, .int x0), (2, .int x1), (3, .int x2), (4, .int x3), (5, .int x4)]) (st1 := [.int x3, .ref (46 + 4 * x0.toNatClampNeg)]) 2 rfl rfl rfl ?_
                refine zPutI (F := 305) (I := x0.toNatClampNeg) rfl rfl (icN (j := 6) h2.1 rfl) rfl ?_
                refine zPs (pc1 := 98) (l1 := [(6, .ref (46 + 4 * x0.toNatClampNeg)), (0, .ref 0), (1, .int x0), (2, .int x1), (3, .int x2), (4, .int x3), (5, .int x4)]) (st1 := [.int x4, .ref (46 + 4 * x0.toNatClampNeg)]) 2 rfl rfl rfl ?_
                refine zPutI (F := 302) (I := x0.toNatClampNeg) rfl rfl (icN (j := 2) h2.1 rfl) rfl ?_
                refine zRv rfl rfl ?_
                exact k
              · replace k := ite_f h11 k
                refine zPs (pc1 := 58) (l1 := [(6, .ref (46 + 4 * x0.toNatClampNeg)), (0, .ref 0), (1, .int x0), (2, .int x1), (3, .int x2), (4, .int x3), (5, .int x4)]) (st1 := [.ref (46 + 4 * x0.toNatClampNeg)]) 1 rfl rfl rfl ?_
                refine zGetI (F := 296) (I := x0.toNatClampNeg) (v := l 296 x0.toNatClampNeg) rfl rfl (icN (j := 0) h2.1 rfl) rfl ?_
                refine zPs (pc1 := 62) (l1 := [(6, .ref (46 + 4 * x0.toNatClampNeg)), (0, .ref 0), (1, .int x0), (2, .int x1), (3, .int x2), (4, .int x3), (5, .int x4)]) (st1 := [.int (3 : Int32), .int (l 296 x0.toNatClampNeg)]) 1 rfl rfl rfl ?_
                refine zCe rfl (fun h12 => ?_) (fun h12 => ?_)
                · replace k := ite_t h12 k
                  refine zPs (pc1 := 78) (l1 := [(6, .ref (46 + 4 * x0.toNatClampNeg)), (0, .ref 0), (1, .int x0), (2, .int x1), (3, .int x2), (4, .int x3), (5, .int x4)]) (st1 := [.int x1, .ref (46 + 4 * x0.toNatClampNeg)]) 2 rfl rfl rfl ?_
                  refine zPutI (F := 303) (I := x0.toNatClampNeg) rfl rfl (icN (j := 4) h2.1 rfl) rfl ?_
                  refine zPs (pc1 := 84) (l1 := [(6, .ref (46 + 4 * x0.toNatClampNeg)), (0, .ref 0), (1, .int x0), (2, .int x1), (3, .int x2), (4, .int x3), (5, .int x4)]) (st1 := [.int x2, .ref (46 + 4 * x0.toNatClampNeg)]) 2 rfl rfl rfl ?_
                  refine zPutI (F := 304) (I := x0.toNatClampNeg) rfl rfl (icN (j := 5) h2.1 rfl) rfl ?_
                  refine zPs (pc1 := 91) (l1 := [(6, .ref (46 + 4 * x0.toNatClampNeg)), (0, .ref 0), (1, .int x0), (2, .int x1), (3, .int x2), (4, .int x3), (5, .int x4)]) (st1 := [.int x3, .ref (46 + 4 * x0.toNatClampNeg)]) 2 rfl rfl rfl ?_
                  refine zPutI (F := 305) (I := x0.toNatClampNeg) rfl rfl (icN (j := 6) h2.1 rfl) rfl ?_
                  refine zPs (pc1 := 98) (l1 := [(6, .ref (46 + 4 * x0.toNatClampNeg)), (0, .ref 0), (1, .int x0), (2, .int x1), (3, .int x2), (4, .int x3), (5, .int x4)]) (st1 := [.int x4, .ref (46 + 4 * x0.toNatClampNeg)]) 2 rfl rfl rfl ?_
                  refine zPutI (F := 302) (I := x0.toNatClampNeg) rfl rfl (icN (j := 2) h2.1 rfl) rfl ?_
                  refine zRv rfl rfl ?_
                  exact k
                · replace k := ite_f h12 k
                  refine zT rfl rfl rfl ?_
                  exact k
            · replace k := ite_f h10 k
              refine kX ?_
              exact k
          · replace k := ite_f h8 k
            refine kX ?_
            exact k
        · replace k := ite_f h6 k
          refine kX ?_
          exact k
      · replace k := ite_f h4 k
        refine kX ?_
        exact k
    · replace k := ite_f h3 k
      refine kX ?_
      exact k
  · replace k := ite_f h1 k
    refine kX ?_
    exact k
theorem x_35 {n : Nat} {x0 x1 x2 x3 x4 : Int32} {l : Sg} (x : Nat) (h : (f_35 n x0 x1 x2 x3 x4 l).1 = .inr x) : x < 3 := by
  unfold f_35 at h
  try simp only [bnd, bnd2] at h
  repeat' split at h
  all_goals first | (cases h; decide) | cases h
noncomputable def f_36 (n : Nat) (x0 : Int32) (x1 : Int32) (x2 : Int32) (x3 : Int32) (x4 : Int32) (x5 : Int32) (l : Sg) : PO := (if isN x0 then (if isT x4 then (if isT x5 then (if (0 : Int32) ≤ x1 ∧ x1 ≤ (4 : Int32) then (if (0 : Int32) ≤ x2 ∧ x2 ≤ (f_79 x1) then (if (0 : Int32) ≤ x3 ∧ x3 ≤ (60 : Int32) then (if quiet l n then (bnd (f_25 x0.toNatClampNeg (4 : Int32) x4 x5 l) fun l11 => (.inl 0, (up2 (up2 (up2 l11 439 x0.toNatClampNeg x1) 440 x0.toNatClampNeg x2) 441 x0.toNatClampNeg x3))) else (.inr 2, l)) else (.inr 1, l)) else (.inr 1, l)) else (.inr 1, l)) else (.inr 0, l)) else (.inr 0, l)) else (.inr 0, l))
theorem e_36 {l : Sg} {P : MO → Sg → Prop} {n : Nat} {x0 : Int32} {x1 : Int32} {x2 : Int32} {x3 : Int32} {x4 : Int32} {x5 : Int32} (hl : n ≤ 60) (hCI : CI l n)  (k : Rk (Qn P) (f_36 n x0 x1 x2 x3 x4 x5 l)) : Es false 36 [.ref 0, .int x0, .int x1, .int x2, .int x3, .int x4, .int x5] l P := by
  unfold f_36 at k
  refine Es.of ?_
  refine zPs (pc1 := 2) (l1 := [(0, .ref 0), (1, .int x0), (2, .int x1), (3, .int x2), (4, .int x3), (5, .int x4), (6, .int x5)]) (st1 := [.int x0, .ref 0]) 2 rfl rfl rfl ?_
  refine zCv (mj := 67) (k := 0) (n := 1) rfl rfl rfl rfl (by decide) rfl rfl rfl rfl rfl rfl ?_
  refine e_67 (fun h1 => ?_) (fun h1 => ?_)
  · replace k := ite_t h1 k
    have h2 := isN_lt h1
    refine kV ?_
    refine zPs (pc1 := 8) (l1 := [(0, .ref 0), (1, .int x0), (2, .int x1), (3, .int x2), (4, .int x3), (5, .int x4), (6, .int x5)]) (st1 := [.int x4, .ref 0]) 2 rfl rfl rfl ?_
    refine zCv (mj := 68) (k := 0) (n := 1) rfl rfl rfl rfl (by decide) rfl rfl rfl rfl rfl rfl ?_
    refine e_68 (fun h3 => ?_) (fun h3 => ?_)
    · replace k := ite_t h3 k
      refine kV ?_
      refine zPs (pc1 := 14) (l1 := [(0, .ref 0), (1, .int x0), (2, .int x1), (3, .int x2), (4, .int x3), (5, .int x4), (6, .int x5)]) (st1 := [.int x5, .ref 0]) 2 rfl rfl rfl ?_
      refine zCv (mj := 68) (k := 0) (n := 1) rfl rfl rfl rfl (by decide) rfl rfl rfl rfl rfl rfl ?_
      refine e_68 (fun h4 => ?_) (fun h4 => ?_)
      · replace k := ite_t h4 k
        refine kV ?_
        refine zPs (pc1 := 21) (l1 := [(0, .ref 0), (1, .int x0), (2, .int x1), (3, .int x2), (4, .int x3), (5, .int x4), (6, .int x5)]) (st1 := [.int (4 : Int32), .int (0 : Int32), .int x1, .ref 0]) 4 rfl rfl rfl ?_
        refine zCv (mj := 71) (k := 0) (n := 3) rfl rfl rfl rfl (by decide) rfl rfl rfl rfl rfl rfl ?_
        refine e_71 (fun h5 => ?_) (fun h5 => ?_)
        · replace k := ite_t h5 k
          have h6 := rng_le (b := 4) (by decide) h5.1 h5.2
          refine kV ?_
          refine zPs (pc1 := 28) (l1 := [(0, .ref 0), (1, .int x0), (2, .int x1), (3, .int x2), (4, .int x3), (5, .int x4), (6, .int x5)]) (st1 := [.int x1, .int (0 : Int32), .int x2, .ref 0]) 4 rfl rfl rfl ?_
          refine zCs (mj := 79) rfl rfl rfl rfl rfl rfl rfl rfl ?_
          refine e_79 ?_
          refine kI ?_
          refine zCv (mj := 71) (k := 0) (n := 3) rfl rfl rfl rfl (by decide) rfl rfl rfl rfl rfl rfl ?_
          refine e_71 (fun h7 => ?_) (fun h7 => ?_)
          · replace k := ite_t h7 k
            refine kV ?_
            refine zPs (pc1 := 40) (l1 := [(0, .ref 0), (1, .int x0), (2, .int x1), (3, .int x2), (4, .int x3), (5, .int x4), (6, .int x5)]) (st1 := [.int (60 : Int32), .int (0 : Int32), .int x3, .ref 0]) 4 rfl rfl rfl ?_
            refine zCv (mj := 71) (k := 0) (n := 3) rfl rfl rfl rfl (by decide) rfl rfl rfl rfl rfl rfl ?_
            refine e_71 (fun h8 => ?_) (fun h8 => ?_)
            · replace k := ite_t h8 k
              have h9 := rng_le (b := 60) (by decide) h8.1 h8.2
              refine kV ?_
              refine zPs (pc1 := 44) (l1 := [(0, .ref 0), (1, .int x0), (2, .int x1), (3, .int x2), (4, .int x3), (5, .int x4), (6, .int x5)]) (st1 := [.ref 0]) 1 rfl rfl rfl ?_
              refine zCv (mj := 73) (k := 0) (n := 0) rfl rfl rfl rfl (by decide) rfl rfl rfl rfl rfl rfl ?_
              refine e_73 hl hCI (fun h10 => ?_) (fun h10 => ?_)
              · replace k := ite_t h10 k
                refine kV ?_
                refine zPs (pc1 := 48) (l1 := [(0, .ref 0), (1, .int x0), (2, .int x1), (3, .int x2), (4, .int x3), (5, .int x4), (6, .int x5)]) (st1 := [.ref 0]) 1 rfl rfl rfl ?_
                refine zGetR (r := 1) rfl rfl ⟨by decide, rfl, by decide, rfl⟩ ?_
                refine zPs (pc1 := 52) (l1 := [(0, .ref 0), (1, .int x0), (2, .int x1), (3, .int x2), (4, .int x3), (5, .int x4), (6, .int x5)]) (st1 := [.int x0, .ref 1]) 1 rfl rfl rfl ?_
                refine zAalE (n := x0.toNatClampNeg) h2.2 rfl rfl (irN h2.1) ?_
                refine zPs (pc1 := 62) (l1 := [(7, .ref (46 + 4 * x0.toNatClampNeg)), (0, .ref 0), (1, .int x0), (2, .int x1), (3, .int x2), (4, .int x3), (5, .int x4), (6, .int x5)]) (st1 := [.int x5, .int x4, .int (4 : Int32), .ref (46 + 4 * x0.toNatClampNeg)]) 5 rfl rfl rfl ?_
                refine zCv (mj := 25) (k := (46 + 4 * x0.toNatClampNeg)) (n := 3) rfl rfl rfl rfl (by have := h2.1; omega) (tagK_node h2.1) rfl rfl rfl rfl rfl ?_
                refine e_25 h2.1 ?_
                refine kV ?_
                have hCI11 : CI (f_25 x0.toNatClampNeg (4 : Int32) x4 x5 l) n := ci_25 hCI
                replace k := bnd_i k
                generalize f_25 x0.toNatClampNeg (4 : Int32) x4 x5 l = l11 at k hCI11 ⊢
                refine zPs (pc1 := 68) (l1 := [(7, .ref (46 + 4 * x0.toNatClampNeg)), (0, .ref 0), (1, .int x0), (2, .int x1), (3, .int x2), (4, .int x3), (5, .int x4), (6, .int x5)]) (st1 := [.int x1, .ref (46 + 4 * x0.toNatClampNeg)]) 2 rfl rfl rfl ?_
                refine zPutI (F := 439) (I := x0.toNatClampNeg) rfl rfl (icN (j := 9) h2.1 rfl) rfl ?_
                refine zPs (pc1 := 74) (l1 := [(7, .ref (46 + 4 * x0.toNatClampNeg)), (0, .ref 0), (1, .int x0), (2, .int x1), (3, .int x2), (4, .int x3), (5, .int x4), (6, .int x5)]) (st1 := [.int x2, .ref (46 + 4 * x0.toNatClampNeg)]) 2 rfl rfl rfl ?_
                refine zPutI (F := 440) (I := x0.toNatClampNeg) rfl rfl (icN (j := 10) h2.1 rfl) rfl ?_
                refine zPs (pc1 := 81) (l1 := [(7, .ref (46 + 4 * x0.toNatClampNeg)), (0, .ref 0), (1, .int x0), (2, .int x1), (3, .int x2), (4, .int x3), (5, .int x4), (6, .int x5)]) (st1 := [.int x3, .ref (46 + 4 * x0.toNatClampNeg)]) 2 rfl rfl rfl ?_
                refine zPutI (F := 441) (I := x0.toNatClampNeg) rfl rfl (icN (j := 11) h2.1 rfl) rfl ?_
                refine zRv rfl rfl ?_
                exact k
              · replace k := ite_f h10 k
                refine kX ?_
                exact k
            · replace k := ite_f h8 k
              refine kX ?_
              exact k
          · replace k := ite_f h7 k
            refine kX ?_
            exact k
        · replace k := ite_f h5 k
          refine kX ?_
          exact k
      · replace k := ite_f h4 k
        refine kX ?_
        exact k
    · replace k := ite_f h3 k
      refine kX ?_
      exact k
  · replace k := ite_f h1 k
    refine kX ?_
    exact k
theorem x_36 {n : Nat} {x0 x1 x2 x3 x4 x5 : Int32} {l : Sg} (x : Nat) (h : (f_36 n x0 x1 x2 x3 x4 x5 l).1 = .inr x) : x < 3 := by
  unfold f_36 at h
  try simp only [bnd, bnd2] at h
  repeat' split at h
  all_goals first | (cases h; decide) | cases h
noncomputable def f_37 (n : Nat) (x0 : Int32) (x1 : Int32) (x2 : Int32) (l : Sg) : PO := (if isN x0 then (if isT x1 then (if isT x2 then (if quiet l n then (bnd (f_25 x0.toNatClampNeg (5 : Int32) x1 x2 l) fun l6 => (.inl 0, l6)) else (.inr 2, l)) else (.inr 0, l)) else (.inr 0, l)) else (.inr 0, l))
theorem e_37 {l : Sg} {P : MO → Sg → Prop} {n : Nat} {x0 : Int32} {x1 : Int32} {x2 : Int32} (hl : n ≤ 60) (hCI : CI l n)  (k : Rk (Qn P) (f_37 n x0 x1 x2 l)) : Es false 37 [.ref 0, .int x0, .int x1, .int x2] l P := by
  unfold f_37 at k
  refine Es.of ?_
  refine zPs (pc1 := 2) (l1 := [(0, .ref 0), (1, .int x0), (2, .int x1), (3, .int x2)]) (st1 := [.int x0, .ref 0]) 2 rfl rfl rfl ?_
  refine zCv (mj := 67) (k := 0) (n := 1) rfl rfl rfl rfl (by decide) rfl rfl rfl rfl rfl rfl ?_
  refine e_67 (fun h1 => ?_) (fun h1 => ?_)
  · replace k := ite_t h1 k
    have h2 := isN_lt h1
    refine kV ?_
    refine zPs (pc1 := 7) (l1 := [(0, .ref 0), (1, .int x0), (2, .int x1), (3, .int x2)]) (st1 := [.int x1, .ref 0]) 2 rfl rfl rfl ?_
    refine zCv (mj := 68) (k := 0) (n := 1) rfl rfl rfl rfl (by decide) rfl rfl rfl rfl rfl rfl ?_
    refine e_68 (fun h3 => ?_) (fun h3 => ?_)
    · replace k := ite_t h3 k
      refine kV ?_
      refine zPs (pc1 := 12) (l1 := [(0, .ref 0), (1, .int x0), (2, .int x1), (3, .int x2)]) (st1 := [.int x2, .ref 0]) 2 rfl rfl rfl ?_
      refine zCv (mj := 68) (k := 0) (n := 1) rfl rfl rfl rfl (by decide) rfl rfl rfl rfl rfl rfl ?_
      refine e_68 (fun h4 => ?_) (fun h4 => ?_)
      · replace k := ite_t h4 k
        refine kV ?_
        refine zPs (pc1 := 16) (l1 := [(0, .ref 0), (1, .int x0), (2, .int x1), (3, .int x2)]) (st1 := [.ref 0]) 1 rfl rfl rfl ?_
        refine zCv (mj := 73) (k := 0) (n := 0) rfl rfl rfl rfl (by decide) rfl rfl rfl rfl rfl rfl ?_
        refine e_73 hl hCI (fun h5 => ?_) (fun h5 => ?_)
        · replace k := ite_t h5 k
          refine kV ?_
          refine zPs (pc1 := 20) (l1 := [(0, .ref 0), (1, .int x0), (2, .int x1), (3, .int x2)]) (st1 := [.ref 0]) 1 rfl rfl rfl ?_
          refine zGetR (r := 1) rfl rfl ⟨by decide, rfl, by decide, rfl⟩ ?_
          refine zPs (pc1 := 24) (l1 := [(0, .ref 0), (1, .int x0), (2, .int x1), (3, .int x2)]) (st1 := [.int x0, .ref 1]) 1 rfl rfl rfl ?_
          refine zAalE (n := x0.toNatClampNeg) h2.2 rfl rfl (irN h2.1) ?_
          refine zPs (pc1 := 28) (l1 := [(0, .ref 0), (1, .int x0), (2, .int x1), (3, .int x2)]) (st1 := [.int x2, .int x1, .int (5 : Int32), .ref (46 + 4 * x0.toNatClampNeg)]) 3 rfl rfl rfl ?_
          refine zCv (mj := 25) (k := (46 + 4 * x0.toNatClampNeg)) (n := 3) rfl rfl rfl rfl (by have := h2.1; omega) (tagK_node h2.1) rfl rfl rfl rfl rfl ?_
          refine e_25 h2.1 ?_
          refine kV ?_
          have hCI6 : CI (f_25 x0.toNatClampNeg (5 : Int32) x1 x2 l) n := ci_25 hCI
          replace k := bnd_i k
          generalize f_25 x0.toNatClampNeg (5 : Int32) x1 x2 l = l6 at k hCI6 ⊢
          refine zRv rfl rfl ?_
          exact k
        · replace k := ite_f h5 k
          refine kX ?_
          exact k
      · replace k := ite_f h4 k
        refine kX ?_
        exact k
    · replace k := ite_f h3 k
      refine kX ?_
      exact k
  · replace k := ite_f h1 k
    refine kX ?_
    exact k
theorem x_37 {n : Nat} {x0 x1 x2 : Int32} {l : Sg} (x : Nat) (h : (f_37 n x0 x1 x2 l).1 = .inr x) : x < 3 := by
  unfold f_37 at h
  try simp only [bnd, bnd2] at h
  repeat' split at h
  all_goals first | (cases h; decide) | cases h
noncomputable def f_38 (n : Nat) (x0 : Int32) (l : Sg) : PO := (if isN x0 then (if quiet l n then (bnd (f_25 x0.toNatClampNeg (6 : Int32) (-1 : Int32) (-1 : Int32) l) fun l4 => (.inl 0, l4)) else (.inr 2, l)) else (.inr 0, l))
theorem e_38 {l : Sg} {P : MO → Sg → Prop} {n : Nat} {x0 : Int32} (hl : n ≤ 60) (hCI : CI l n)  (k : Rk (Qn P) (f_38 n x0 l)) : Es false 38 [.ref 0, .int x0] l P := by
  unfold f_38 at k
  refine Es.of ?_
  refine zPs (pc1 := 2) (l1 := [(0, .ref 0), (1, .int x0)]) (st1 := [.int x0, .ref 0]) 2 rfl rfl rfl ?_
  refine zCv (mj := 67) (k := 0) (n := 1) rfl rfl rfl rfl (by decide) rfl rfl rfl rfl rfl rfl ?_
  refine e_67 (fun h1 => ?_) (fun h1 => ?_)
  · replace k := ite_t h1 k
    have h2 := isN_lt h1
    refine kV ?_
    refine zPs (pc1 := 6) (l1 := [(0, .ref 0), (1, .int x0)]) (st1 := [.ref 0]) 1 rfl rfl rfl ?_
    refine zCv (mj := 73) (k := 0) (n := 0) rfl rfl rfl rfl (by decide) rfl rfl rfl rfl rfl rfl ?_
    refine e_73 hl hCI (fun h3 => ?_) (fun h3 => ?_)
    · replace k := ite_t h3 k
      refine kV ?_
      refine zPs (pc1 := 10) (l1 := [(0, .ref 0), (1, .int x0)]) (st1 := [.ref 0]) 1 rfl rfl rfl ?_
      refine zGetR (r := 1) rfl rfl ⟨by decide, rfl, by decide, rfl⟩ ?_
      refine zPs (pc1 := 14) (l1 := [(0, .ref 0), (1, .int x0)]) (st1 := [.int x0, .ref 1]) 1 rfl rfl rfl ?_
      refine zAalE (n := x0.toNatClampNeg) h2.2 rfl rfl (irN h2.1) ?_
      refine zPs (pc1 := 19) (l1 := [(0, .ref 0), (1, .int x0)]) (st1 := [.int (-1 : Int32), .int (-1 : Int32), .int (6 : Int32), .ref (46 + 4 * x0.toNatClampNeg)]) 3 rfl rfl rfl ?_
      refine zCv (mj := 25) (k := (46 + 4 * x0.toNatClampNeg)) (n := 3) rfl rfl rfl rfl (by have := h2.1; omega) (tagK_node h2.1) rfl rfl rfl rfl rfl ?_
      refine e_25 h2.1 ?_
      refine kV ?_
      have hCI4 : CI (f_25 x0.toNatClampNeg (6 : Int32) (-1 : Int32) (-1 : Int32) l) n := ci_25 hCI
      replace k := bnd_i k
      generalize f_25 x0.toNatClampNeg (6 : Int32) (-1 : Int32) (-1 : Int32) l = l4 at k hCI4 ⊢
      refine zRv rfl rfl ?_
      exact k
    · replace k := ite_f h3 k
      refine kX ?_
      exact k
  · replace k := ite_f h1 k
    refine kX ?_
    exact k
theorem x_38 {n : Nat} {x0 : Int32} {l : Sg} (x : Nat) (h : (f_38 n x0 l).1 = .inr x) : x < 3 := by
  unfold f_38 at h
  try simp only [bnd, bnd2] at h
  repeat' split at h
  all_goals first | (cases h; decide) | cases h
noncomputable def f_39 (n : Nat) (x0 : Int32) (x1 : Int32) (x2 : Int32) (x3 : Int32) (x4 : Int32) (x5 : Int32) (l : Sg) : PO := (if isN x0 then (if isT x5 then (if (0 : Int32) ≤ x1 ∧ x1 ≤ (5 : Int32) then (if (0 : Int32) ≤ x2 ∧ x2 ≤ (9 : Int32) then (if (1 : Int32) ≤ x3 ∧ x3 ≤ (500 : Int32) then (if (1 : Int32) ≤ x4 ∧ x4 ≤ (30 : Int32) then (if quiet l n then (bnd (f_25 x0.toNatClampNeg (7 : Int32) x5 (-2 : Int32) l) fun l13 => (.inl 0, (up2 (up2 (up2 (up2 l13 442 x0.toNatClampNeg x1) 443 x0.toNatClampNeg x2) 438 x0.toNatClampNeg x3) 444 x0.toNatClampNeg x4))) else (.inr 2, l)) else (.inr 1, l)) else (.inr 1, l)) else (.inr 1, l)) else (.inr 1, l)) else (.inr 0, l)) else (.inr 0, l))
theorem e_39 {l : Sg} {P : MO → Sg → Prop} {n : Nat} {x0 : Int32} {x1 : Int32} {x2 : Int32} {x3 : Int32} {x4 : Int32} {x5 : Int32} (hl : n ≤ 60) (hCI : CI l n)  (k : Rk (Qn P) (f_39 n x0 x1 x2 x3 x4 x5 l)) : Es false 39 [.ref 0, .int x0, .int x1, .int x2, .int x3, .int x4, .int x5] l P := by
  unfold f_39 at k
  refine Es.of ?_
  refine zPs (pc1 := 2) (l1 := [(0, .ref 0), (1, .int x0), (2, .int x1), (3, .int x2), (4, .int x3), (5, .int x4), (6, .int x5)]) (st1 := [.int x0, .ref 0]) 2 rfl rfl rfl ?_
  refine zCv (mj := 67) (k := 0) (n := 1) rfl rfl rfl rfl (by decide) rfl rfl rfl rfl rfl rfl ?_
  refine e_67 (fun h1 => ?_) (fun h1 => ?_)
  · replace k := ite_t h1 k
    have h2 := isN_lt h1
    refine kV ?_
    refine zPs (pc1 := 8) (l1 := [(0, .ref 0), (1, .int x0), (2, .int x1), (3, .int x2), (4, .int x3), (5, .int x4), (6, .int x5)]) (st1 := [.int x5, .ref 0]) 2 rfl rfl rfl ?_
    refine zCv (mj := 68) (k := 0) (n := 1) rfl rfl rfl rfl (by decide) rfl rfl rfl rfl rfl rfl ?_
    refine e_68 (fun h3 => ?_) (fun h3 => ?_)
    · replace k := ite_t h3 k
      refine kV ?_
      refine zPs (pc1 := 15) (l1 := [(0, .ref 0), (1, .int x0), (2, .int x1), (3, .int x2), (4, .int x3), (5, .int x4), (6, .int x5)]) (st1 := [.int (5 : Int32), .int (0 : Int32), .int x1, .ref 0]) 4 rfl rfl rfl ?_
      refine zCv (mj := 71) (k := 0) (n := 3) rfl rfl rfl rfl (by decide) rfl rfl rfl rfl rfl rfl ?_
      refine e_71 (fun h4 => ?_) (fun h4 => ?_)
      · replace k := ite_t h4 k
        have h5 := rng_le (b := 5) (by decide) h4.1 h4.2
        refine kV ?_
        refine zPs (pc1 := 23) (l1 := [(0, .ref 0), (1, .int x0), (2, .int x1), (3, .int x2), (4, .int x3), (5, .int x4), (6, .int x5)]) (st1 := [.int (9 : Int32), .int (0 : Int32), .int x2, .ref 0]) 4 rfl rfl rfl ?_
        refine zCv (mj := 71) (k := 0) (n := 3) rfl rfl rfl rfl (by decide) rfl rfl rfl rfl rfl rfl ?_
        refine e_71 (fun h6 => ?_) (fun h6 => ?_)
        · replace k := ite_t h6 k
          have h7 := rng_le (b := 9) (by decide) h6.1 h6.2
          refine kV ?_
          refine zPs (pc1 := 33) (l1 := [(0, .ref 0), (1, .int x0), (2, .int x1), (3, .int x2), (4, .int x3), (5, .int x4), (6, .int x5)]) (st1 := [.int (500 : Int32), .int (1 : Int32), .int x3, .ref 0]) 4 rfl rfl rfl ?_
          refine zCv (mj := 71) (k := 0) (n := 3) rfl rfl rfl rfl (by decide) rfl rfl rfl rfl rfl rfl ?_
          refine e_71 (fun h8 => ?_) (fun h8 => ?_)
          · replace k := ite_t h8 k
            have h9 := rng_le (b := 500) (by decide) (Int32.le_trans (by decide) h8.1) h8.2
            refine kV ?_
            refine zPs (pc1 := 42) (l1 := [(0, .ref 0), (1, .int x0), (2, .int x1), (3, .int x2), (4, .int x3), (5, .int x4), (6, .int x5)]) (st1 := [.int (30 : Int32), .int (1 : Int32), .int x4, .ref 0]) 4 rfl rfl rfl ?_
            refine zCv (mj := 71) (k := 0) (n := 3) rfl rfl rfl rfl (by decide) rfl rfl rfl rfl rfl rfl ?_
            refine e_71 (fun h10 => ?_) (fun h10 => ?_)
            · replace k := ite_t h10 k
              have h11 := rng_le (b := 30) (by decide) (Int32.le_trans (by decide) h10.1) h10.2
              refine kV ?_
              refine zPs (pc1 := 46) (l1 := [(0, .ref 0), (1, .int x0), (2, .int x1), (3, .int x2), (4, .int x3), (5, .int x4), (6, .int x5)]) (st1 := [.ref 0]) 1 rfl rfl rfl ?_
              refine zCv (mj := 73) (k := 0) (n := 0) rfl rfl rfl rfl (by decide) rfl rfl rfl rfl rfl rfl ?_
              refine e_73 hl hCI (fun h12 => ?_) (fun h12 => ?_)
              · replace k := ite_t h12 k
                refine kV ?_
                refine zPs (pc1 := 50) (l1 := [(0, .ref 0), (1, .int x0), (2, .int x1), (3, .int x2), (4, .int x3), (5, .int x4), (6, .int x5)]) (st1 := [.ref 0]) 1 rfl rfl rfl ?_
                refine zGetR (r := 1) rfl rfl ⟨by decide, rfl, by decide, rfl⟩ ?_
                refine zPs (pc1 := 54) (l1 := [(0, .ref 0), (1, .int x0), (2, .int x1), (3, .int x2), (4, .int x3), (5, .int x4), (6, .int x5)]) (st1 := [.int x0, .ref 1]) 1 rfl rfl rfl ?_
                refine zAalE (n := x0.toNatClampNeg) h2.2 rfl rfl (irN h2.1) ?_
                refine zPs (pc1 := 65) (l1 := [(7, .ref (46 + 4 * x0.toNatClampNeg)), (0, .ref 0), (1, .int x0), (2, .int x1), (3, .int x2), (4, .int x3), (5, .int x4), (6, .int x5)]) (st1 := [.int (-2 : Int32), .int x5, .int (7 : Int32), .ref (46 + 4 * x0.toNatClampNeg)]) 5 rfl rfl rfl ?_
                refine zCv (mj := 25) (k := (46 + 4 * x0.toNatClampNeg)) (n := 3) rfl rfl rfl rfl (by have := h2.1; omega) (tagK_node h2.1) rfl rfl rfl rfl rfl ?_
                refine e_25 h2.1 ?_
                refine kV ?_
                have hCI13 : CI (f_25 x0.toNatClampNeg (7 : Int32) x5 (-2 : Int32) l) n := ci_25 hCI
                replace k := bnd_i k
                generalize f_25 x0.toNatClampNeg (7 : Int32) x5 (-2 : Int32) l = l13 at k hCI13 ⊢
                refine zPs (pc1 := 71) (l1 := [(7, .ref (46 + 4 * x0.toNatClampNeg)), (0, .ref 0), (1, .int x0), (2, .int x1), (3, .int x2), (4, .int x3), (5, .int x4), (6, .int x5)]) (st1 := [.int x1, .ref (46 + 4 * x0.toNatClampNeg)]) 2 rfl rfl rfl ?_
                refine zPutI (F := 442) (I := x0.toNatClampNeg) rfl rfl (icN (j := 12) h2.1 rfl) rfl ?_
                refine zPs (pc1 := 77) (l1 := [(7, .ref (46 + 4 * x0.toNatClampNeg)), (0, .ref 0), (1, .int x0), (2, .int x1), (3, .int x2), (4, .int x3), (5, .int x4), (6, .int x5)]) (st1 := [.int x2, .ref (46 + 4 * x0.toNatClampNeg)]) 2 rfl rfl rfl ?_
                refine zPutI (F := 443) (I := x0.toNatClampNeg) rfl rfl (icN (j := 13) h2.1 rfl) rfl ?_
                refine zPs (pc1 := 84) (l1 := [(7, .ref (46 + 4 * x0.toNatClampNeg)), (0, .ref 0), (1, .int x0), (2, .int x1), (3, .int x2), (4, .int x3), (5, .int x4), (6, .int x5)]) (st1 := [.int x3, .ref (46 + 4 * x0.toNatClampNeg)]) 2 rfl rfl rfl ?_
                refine zPutI (F := 438) (I := x0.toNatClampNeg) rfl rfl (icN (j := 8) h2.1 rfl) rfl ?_
                refine zPs (pc1 := 91) (l1 := [(7, .ref (46 + 4 * x0.toNatClampNeg)), (0, .ref 0), (1, .int x0), (2, .int x1), (3, .int x2), (4, .int x3), (5, .int x4), (6, .int x5)]) (st1 := [.int x4, .ref (46 + 4 * x0.toNatClampNeg)]) 2 rfl rfl rfl ?_
                refine zPutI (F := 444) (I := x0.toNatClampNeg) rfl rfl (icN (j := 14) h2.1 rfl) rfl ?_
                refine zRv rfl rfl ?_
                exact k
              · replace k := ite_f h12 k
                refine kX ?_
                exact k
            · replace k := ite_f h10 k
              refine kX ?_
              exact k
          · replace k := ite_f h8 k
            refine kX ?_
            exact k
        · replace k := ite_f h6 k
          refine kX ?_
          exact k
      · replace k := ite_f h4 k
        refine kX ?_
        exact k
    · replace k := ite_f h3 k
      refine kX ?_
      exact k
  · replace k := ite_f h1 k
    refine kX ?_
    exact k
theorem x_39 {n : Nat} {x0 x1 x2 x3 x4 x5 : Int32} {l : Sg} (x : Nat) (h : (f_39 n x0 x1 x2 x3 x4 x5 l).1 = .inr x) : x < 3 := by
  unfold f_39 at h
  try simp only [bnd, bnd2] at h
  repeat' split at h
  all_goals first | (cases h; decide) | cases h
noncomputable def f_40 (n : Nat) (x0 : Int32) (x1 : Int32) (l : Sg) : PO := (if isN x0 then (if isT x1 then (if quiet l n then (if l 296 x0.toNatClampNeg = (7 : Int32) then (.inl 0, (up2 l 302 x0.toNatClampNeg x1)) else (.inr 2, l)) else (.inr 2, l)) else (.inr 0, l)) else (.inr 0, l))
theorem e_40 {l : Sg} {P : MO → Sg → Prop} {n : Nat} {x0 : Int32} {x1 : Int32} (hl : n ≤ 60) (hCI : CI l n)  (k : Rk (Qn P) (f_40 n x0 x1 l)) : Es false 40 [.ref 0, .int x0, .int x1] l P := by
  unfold f_40 at k
  refine Es.of ?_
  refine zPs (pc1 := 2) (l1 := [(0, .ref 0), (1, .int x0), (2, .int x1)]) (st1 := [.int x0, .ref 0]) 2 rfl rfl rfl ?_
  refine zCv (mj := 67) (k := 0) (n := 1) rfl rfl rfl rfl (by decide) rfl rfl rfl rfl rfl rfl ?_
  refine e_67 (fun h1 => ?_) (fun h1 => ?_)
  · replace k := ite_t h1 k
    have h2 := isN_lt h1
    refine kV ?_
    refine zPs (pc1 := 7) (l1 := [(0, .ref 0), (1, .int x0), (2, .int x1)]) (st1 := [.int x1, .ref 0]) 2 rfl rfl rfl ?_
    refine zCv (mj := 68) (k := 0) (n := 1) rfl rfl rfl rfl (by decide) rfl rfl rfl rfl rfl rfl ?_
    refine e_68 (fun h3 => ?_) (fun h3 => ?_)
    · replace k := ite_t h3 k
      refine kV ?_
      refine zPs (pc1 := 11) (l1 := [(0, .ref 0), (1, .int x0), (2, .int x1)]) (st1 := [.ref 0]) 1 rfl rfl rfl ?_
      refine zCv (mj := 73) (k := 0) (n := 0) rfl rfl rfl rfl (by decide) rfl rfl rfl rfl rfl rfl ?_
      refine e_73 hl hCI (fun h4 => ?_) (fun h4 => ?_)
      · replace k := ite_t h4 k
        refine kV ?_
        refine zPs (pc1 := 15) (l1 := [(0, .ref 0), (1, .int x0), (2, .int x1)]) (st1 := [.ref 0]) 1 rfl rfl rfl ?_
        refine zGetR (r := 1) rfl rfl ⟨by decide, rfl, by decide, rfl⟩ ?_
        refine zPs (pc1 := 19) (l1 := [(0, .ref 0), (1, .int x0), (2, .int x1)]) (st1 := [.int x0, .ref 1]) 1 rfl rfl rfl ?_
        refine zAalE (n := x0.toNatClampNeg) h2.2 rfl rfl (irN h2.1) ?_
        refine zPs (pc1 := 22) (l1 := [(3, .ref (46 + 4 * x0.toNatClampNeg)), (0, .ref 0), (1, .int x0), (2, .int x1)]) (st1 := [.ref (46 + 4 * x0.toNatClampNeg)]) 2 rfl rfl rfl ?_
        refine zGetI (F := 296) (I := x0.toNatClampNeg) (v := l 296 x0.toNatClampNeg) rfl rfl (icN (j := 0) h2.1 rfl) rfl ?_
        refine zPs (pc1 := 27) (l1 := [(3, .ref (46 + 4 * x0.toNatClampNeg)), (0, .ref 0), (1, .int x0), (2, .int x1)]) (st1 := [.int (7 : Int32), .int (l 296 x0.toNatClampNeg)]) 1 rfl rfl rfl ?_
        refine zCe rfl (fun h5 => ?_) (fun h5 => ?_)
        · replace k := ite_t h5 k
          refine zPs (pc1 := 42) (l1 := [(3, .ref (46 + 4 * x0.toNatClampNeg)), (0, .ref 0), (1, .int x0), (2, .int x1)]) (st1 := [.int x1, .ref (46 + 4 * x0.toNatClampNeg)]) 2 rfl rfl rfl ?_
          refine zPutI (F := 302) (I := x0.toNatClampNeg) rfl rfl (icN (j := 2) h2.1 rfl) rfl ?_
          refine zRv rfl rfl ?_
          exact k
        · replace k := ite_f h5 k
          refine zT rfl rfl rfl ?_
          exact k
      · replace k := ite_f h4 k
        refine kX ?_
        exact k
    · replace k := ite_f h3 k
      refine kX ?_
      exact k
  · replace k := ite_f h1 k
    refine kX ?_
    exact k
theorem x_40 {n : Nat} {x0 x1 : Int32} {l : Sg} (x : Nat) (h : (f_40 n x0 x1 l).1 = .inr x) : x < 3 := by
  unfold f_40 at h
  try simp only [bnd, bnd2] at h
  repeat' split at h
  all_goals first | (cases h; decide) | cases h
noncomputable def f_41 (n : Nat) (x0 : Int32) (l : Sg) : PO := (if isN x0 then (if quiet l n then (bnd (f_25 x0.toNatClampNeg (8 : Int32) (-1 : Int32) (-1 : Int32) l) fun l4 => (.inl 0, l4)) else (.inr 2, l)) else (.inr 0, l))
theorem e_41 {l : Sg} {P : MO → Sg → Prop} {n : Nat} {x0 : Int32} (hl : n ≤ 60) (hCI : CI l n)  (k : Rk (Qn P) (f_41 n x0 l)) : Es false 41 [.ref 0, .int x0] l P := by
  unfold f_41 at k
  refine Es.of ?_
  refine zPs (pc1 := 2) (l1 := [(0, .ref 0), (1, .int x0)]) (st1 := [.int x0, .ref 0]) 2 rfl rfl rfl ?_
  refine zCv (mj := 67) (k := 0) (n := 1) rfl rfl rfl rfl (by decide) rfl rfl rfl rfl rfl rfl ?_
  refine e_67 (fun h1 => ?_) (fun h1 => ?_)
  · replace k := ite_t h1 k
    have h2 := isN_lt h1
    refine kV ?_
    refine zPs (pc1 := 6) (l1 := [(0, .ref 0), (1, .int x0)]) (st1 := [.ref 0]) 1 rfl rfl rfl ?_
    refine zCv (mj := 73) (k := 0) (n := 0) rfl rfl rfl rfl (by decide) rfl rfl rfl rfl rfl rfl ?_
    refine e_73 hl hCI (fun h3 => ?_) (fun h3 => ?_)
    · replace k := ite_t h3 k
      refine kV ?_
      refine zPs (pc1 := 10) (l1 := [(0, .ref 0), (1, .int x0)]) (st1 := [.ref 0]) 1 rfl rfl rfl ?_
      refine zGetR (r := 1) rfl rfl ⟨by decide, rfl, by decide, rfl⟩ ?_
      refine zPs (pc1 := 14) (l1 := [(0, .ref 0), (1, .int x0)]) (st1 := [.int x0, .ref 1]) 1 rfl rfl rfl ?_
      refine zAalE (n := x0.toNatClampNeg) h2.2 rfl rfl (irN h2.1) ?_
      refine zPs (pc1 := 19) (l1 := [(0, .ref 0), (1, .int x0)]) (st1 := [.int (-1 : Int32), .int (-1 : Int32), .int (8 : Int32), .ref (46 + 4 * x0.toNatClampNeg)]) 3 rfl rfl rfl ?_
      refine zCv (mj := 25) (k := (46 + 4 * x0.toNatClampNeg)) (n := 3) rfl rfl rfl rfl (by have := h2.1; omega) (tagK_node h2.1) rfl rfl rfl rfl rfl ?_
      refine e_25 h2.1 ?_
      refine kV ?_
      have hCI4 : CI (f_25 x0.toNatClampNeg (8 : Int32) (-1 : Int32) (-1 : Int32) l) n := ci_25 hCI
      replace k := bnd_i k
      generalize f_25 x0.toNatClampNeg (8 : Int32) (-1 : Int32) (-1 : Int32) l = l4 at k hCI4 ⊢
      refine zRv rfl rfl ?_
      exact k
    · replace k := ite_f h3 k
      refine kX ?_
      exact k
  · replace k := ite_f h1 k
    refine kX ?_
    exact k
theorem x_41 {n : Nat} {x0 : Int32} {l : Sg} (x : Nat) (h : (f_41 n x0 l).1 = .inr x) : x < 3 := by
  unfold f_41 at h
  try simp only [bnd, bnd2] at h
  repeat' split at h
  all_goals first | (cases h; decide) | cases h
noncomputable def f_42 (n : Nat) (x0 : Int32) (x1 : Int32) (x2 : Int32) (l : Sg) : PO := (if (0 : Int32) ≤ x0 ∧ x0 ≤ (6 : Int32) then (if (0 : Int32) ≤ x1 ∧ x1 ≤ (240 : Int32) then (if x1 ≤ x2 ∧ x2 ≤ (240 : Int32) then (.inl 0, (up2 (up2 l 293 x0.toNatClampNeg x1) 294 x0.toNatClampNeg x2)) else (.inr 1, l)) else (.inr 1, l)) else (.inr 1, l))
theorem e_42 {l : Sg} {P : MO → Sg → Prop} {n : Nat} {x0 : Int32} {x1 : Int32} {x2 : Int32} (hl : n ≤ 60) (hCI : CI l n)  (k : Rk (Qn P) (f_42 n x0 x1 x2 l)) : Es false 42 [.ref 0, .int x0, .int x1, .int x2] l P := by
  unfold f_42 at k
  refine Es.of ?_
  refine zPs (pc1 := 5) (l1 := [(0, .ref 0), (1, .int x0), (2, .int x1), (3, .int x2)]) (st1 := [.int (6 : Int32), .int (0 : Int32), .int x0, .ref 0]) 4 rfl rfl rfl ?_
  refine zCv (mj := 71) (k := 0) (n := 3) rfl rfl rfl rfl (by decide) rfl rfl rfl rfl rfl rfl ?_
  refine e_71 (fun h1 => ?_) (fun h1 => ?_)
  · replace k := ite_t h1 k
    have h2 := rng_le (b := 6) (by decide) h1.1 h1.2
    refine kV ?_
    refine zPs (pc1 := 14) (l1 := [(0, .ref 0), (1, .int x0), (2, .int x1), (3, .int x2)]) (st1 := [.int (240 : Int32), .int (0 : Int32), .int x1, .ref 0]) 4 rfl rfl rfl ?_
    refine zCv (mj := 71) (k := 0) (n := 3) rfl rfl rfl rfl (by decide) rfl rfl rfl rfl rfl rfl ?_
    refine e_71 (fun h3 => ?_) (fun h3 => ?_)
    · replace k := ite_t h3 k
      have h4 := rng_le (b := 240) (by decide) h3.1 h3.2
      refine kV ?_
      refine zPs (pc1 := 23) (l1 := [(0, .ref 0), (1, .int x0), (2, .int x1), (3, .int x2)]) (st1 := [.int (240 : Int32), .int x1, .int x2, .ref 0]) 4 rfl rfl rfl ?_
      refine zCv (mj := 71) (k := 0) (n := 3) rfl rfl rfl rfl (by decide) rfl rfl rfl rfl rfl rfl ?_
      refine e_71 (fun h5 => ?_) (fun h5 => ?_)
      · replace k := ite_t h5 k
        refine kV ?_
        refine zPs (pc1 := 27) (l1 := [(0, .ref 0), (1, .int x0), (2, .int x1), (3, .int x2)]) (st1 := [.ref 0]) 1 rfl rfl rfl ?_
        refine zGetR (r := 4) rfl rfl ⟨by decide, rfl, by decide, rfl⟩ ?_
        refine zGetR (r := 5) rfl rfl ⟨by decide, rfl, by decide, rfl⟩ ?_
        refine zPs (pc1 := 35) (l1 := [(0, .ref 0), (1, .int x0), (2, .int x1), (3, .int x2)]) (st1 := [.int x1, .int x0, .ref 5]) 2 rfl rfl rfl ?_
        refine zIasE (n := x0.toNatClampNeg) (F := 293) (I := x0.toNatClampNeg) h2.2 rfl (icFrom h2.1) ?_
        refine zPs (pc1 := 37) (l1 := [(0, .ref 0), (1, .int x0), (2, .int x1), (3, .int x2)]) (st1 := [.ref 0]) 1 rfl rfl rfl ?_
        refine zGetR (r := 4) rfl rfl ⟨by decide, rfl, by decide, rfl⟩ ?_
        refine zGetR (r := 6) rfl rfl ⟨by decide, rfl, by decide, rfl⟩ ?_
        refine zPs (pc1 := 45) (l1 := [(0, .ref 0), (1, .int x0), (2, .int x1), (3, .int x2)]) (st1 := [.int x2, .int x0, .ref 6]) 2 rfl rfl rfl ?_
        refine zIasE (n := x0.toNatClampNeg) (F := 294) (I := x0.toNatClampNeg) h2.2 rfl (icTo h2.1) ?_
        refine zRv rfl rfl ?_
        exact k
      · replace k := ite_f h5 k
        refine kX ?_
        exact k
    · replace k := ite_f h3 k
      refine kX ?_
      exact k
  · replace k := ite_f h1 k
    refine kX ?_
    exact k
theorem x_42 {n : Nat} {x0 x1 x2 : Int32} {l : Sg} (x : Nat) (h : (f_42 n x0 x1 x2 l).1 = .inr x) : x < 3 := by
  unfold f_42 at h
  try simp only [bnd, bnd2] at h
  repeat' split at h
  all_goals first | (cases h; decide) | cases h
