/-! ===== the class: its face, calls and agents ===== -/
noncomputable def f_43 (n : Nat) (x0 : Int32) (x1 : Int32) (l : Sg) : PO := (if (0 : Int32) ≤ x0 ∧ x0 ≤ (83 : Int32) then (.inl (l 295 x0.toNatClampNeg), (up2 l 295 x0.toNatClampNeg x1)) else (.inr 1, l))
theorem e_43 {l : Sg} {P : MO → Sg → Prop} {n : Nat} {x0 : Int32} {x1 : Int32} (hl : n ≤ 60) (hCI : CI l n)  (hb1 : x1 = 0 ∨ x1 = 1) (hh : ∀ i, i < 84 → l 295 i = 0 ∨ l 295 i = 1) (k : Rk (Qp P) (f_43 n x0 x1 l)) : Es false 43 [.ref 0, .int x0, .int x1] l P := by
  unfold f_43 at k
  refine Es.of ?_
  refine zPs (pc1 := 5) (l1 := [(0, .ref 0), (1, .int x0), (2, .int x1)]) (st1 := [.int (83 : Int32), .int (0 : Int32), .int x0, .ref 0]) 4 rfl rfl rfl ?_
  refine zCv (mj := 71) (k := 0) (n := 3) rfl rfl rfl rfl (by decide) rfl rfl rfl rfl rfl rfl ?_
  refine e_71 (fun h1 => ?_) (fun h1 => ?_)
  · replace k := ite_t h1 k
    have h2 := rng_le (b := 83) (by decide) h1.1 h1.2
    refine kV ?_
    refine zPs (pc1 := 9) (l1 := [(0, .ref 0), (1, .int x0), (2, .int x1)]) (st1 := [.ref 0]) 1 rfl rfl rfl ?_
    refine zGetR (r := 4) rfl rfl ⟨by decide, rfl, by decide, rfl⟩ ?_
    refine zGetR (r := 7) rfl rfl ⟨by decide, rfl, by decide, rfl⟩ ?_
    refine zPs (pc1 := 16) (l1 := [(0, .ref 0), (1, .int x0), (2, .int x1)]) (st1 := [.int x0, .ref 7]) 1 rfl rfl rfl ?_
    refine zZalE (n := x0.toNatClampNeg) (v := l 295 x0.toNatClampNeg) h2.2 rfl (icHol h2.1) rfl ?_
    refine zPs (pc1 := 19) (l1 := [(3, .int (l 295 x0.toNatClampNeg)), (0, .ref 0), (1, .int x0), (2, .int x1)]) (st1 := [.ref 0]) 2 rfl rfl rfl ?_
    refine zGetR (r := 4) rfl rfl ⟨by decide, rfl, by decide, rfl⟩ ?_
    refine zGetR (r := 7) rfl rfl ⟨by decide, rfl, by decide, rfl⟩ ?_
    refine zPs (pc1 := 27) (l1 := [(3, .int (l 295 x0.toNatClampNeg)), (0, .ref 0), (1, .int x0), (2, .int x1)]) (st1 := [.int x1, .int x0, .ref 7]) 2 rfl rfl rfl ?_
    refine zZasE (n := x0.toNatClampNeg) (F := 295) (I := x0.toNatClampNeg) h2.2 rfl (icHol h2.1) hb1 ?_
    refine zPs (pc1 := 29) (l1 := [(3, .int (l 295 x0.toNatClampNeg)), (0, .ref 0), (1, .int x0), (2, .int x1)]) (st1 := [.int (l 295 x0.toNatClampNeg)]) 1 rfl rfl rfl ?_
    refine zRz rfl rfl (hh _ (by omega)) ?_
    exact k
  · replace k := ite_f h1 k
    refine kX ?_
    exact k
theorem x_43 {n : Nat} {x0 x1 : Int32} {l : Sg} (x : Nat) (h : (f_43 n x0 x1 l).1 = .inr x) : x < 3 := by
  unfold f_43 at h
  try simp only [bnd, bnd2] at h
  repeat' split at h
  all_goals first | (cases h; decide) | cases h
noncomputable def f_44  (l : Sg) : Int32 := (f_29 (l 292 0) l)
theorem e_44 {l : Sg} {P : MO → Sg → Prop}   (k : Rk (Qv P l) (f_44  l)) : Es false 44 [.ref 0] l P := by
  unfold f_44 at k
  refine Es.of ?_
  refine zPs (pc1 := 1) (l1 := [(0, .ref 0)]) (st1 := [.ref 0]) 1 rfl rfl rfl ?_
  refine zGetR (r := 4) rfl rfl ⟨by decide, rfl, by decide, rfl⟩ ?_
  refine zPs (pc1 := 5) (l1 := [(0, .ref 0)]) (st1 := [.ref 0, .ref 4]) 1 rfl rfl rfl ?_
  refine zGetI (F := 292) (I := 0) (v := l 292 0) rfl rfl icNow rfl ?_
  refine zCv (mj := 29) (k := 4) (n := 1) rfl rfl rfl rfl (by decide) rfl rfl rfl rfl rfl rfl ?_
  refine e_29 ?_
  refine kI ?_
  refine zRz rfl rfl (f_29_01 ..) ?_
  exact k
noncomputable def f_55 (n : Nat) (l : Sg) : Int32 := i32 n
theorem e_55 {l : Sg} {P : MO → Sg → Prop} {n : Nat}  (hl : n ≤ 60) (hCI : CI l n)  (k : Rk (Qv P l) (f_55 n l)) : Es false 55 [.ref 0] l P := by
  unfold f_55 at k
  refine Es.of ?_
  refine zPs (pc1 := 1) (l1 := [(0, .ref 0)]) (st1 := [.ref 0]) 1 rfl rfl rfl ?_
  refine zGetI (F := 292) (I := 19) (v := i32 n) rfl rfl icCalls hCI.1 ?_
  refine zRi rfl rfl ?_
  exact k
noncomputable def f_45 (n : Nat) (x0 : Int32) (l : Sg) : PO := (if isN x0 then (if n < 60 then (bnd (f_80 (n + 1) n x0 (up2 l 292 19 (i32 (n + 1)))) fun l4 => (bnd (f_95 (n + 1) l4) fun l5 => (.inl (i32 n), l5))) else (.inr 2, l)) else (.inr 0, l))
theorem e_45 {l : Sg} {P : MO → Sg → Prop} {n : Nat} {x0 : Int32} (hl : n ≤ 60) (hCI : CI l n)  (k : Rk (Qp P) (f_45 n x0 l)) : Es false 45 [.ref 0, .int x0] l P := by
  unfold f_45 at k
  refine Es.of ?_
  refine zPs (pc1 := 2) (l1 := [(0, .ref 0), (1, .int x0)]) (st1 := [.int x0, .ref 0]) 2 rfl rfl rfl ?_
  refine zCv (mj := 67) (k := 0) (n := 1) rfl rfl rfl rfl (by decide) rfl rfl rfl rfl rfl rfl ?_
  refine e_67 (fun h1 => ?_) (fun h1 => ?_)
  · replace k := ite_t h1 k
    have h2 := isN_lt h1
    refine kV ?_
    refine zPs (pc1 := 6) (l1 := [(0, .ref 0), (1, .int x0)]) (st1 := [.ref 0]) 1 rfl rfl rfl ?_
    refine zGetI (F := 292) (I := 19) (v := i32 n) rfl rfl icCalls hCI.1 ?_
    refine zPs (pc1 := 11) (l1 := [(0, .ref 0), (1, .int x0)]) (st1 := [.int (60 : Int32), .int (i32 n)]) 1 rfl rfl rfl ?_
    refine nClt (a := n) (b := 60) (by omega) (by omega) rfl (fun h3 => ?_) (fun h3 => ?_)
    · replace k := ite_t h3 k
      refine zPs (pc1 := 25) (l1 := [(0, .ref 0), (1, .int x0)]) (st1 := [.ref 0]) 1 rfl rfl rfl ?_
      refine zGetI (F := 292) (I := 19) (v := i32 n) rfl rfl icCalls hCI.1 ?_
      refine zPs (pc1 := 31) (l1 := [(2, .int (i32 n)), (0, .ref 0), (1, .int x0)]) (st1 := [.ref 0, .ref 0]) 3 rfl rfl rfl ?_
      refine zGetI (F := 292) (I := 19) (v := i32 n) rfl rfl icCalls hCI.1 ?_
      refine zPs (pc1 := 36) (l1 := [(2, .int (i32 n)), (0, .ref 0), (1, .int x0)]) (st1 := [.int (i32 n + (1 : Int32)), .ref 0]) 2 rfl rfl rfl ?_
      refine zTo (ml' := [(2, .int (i32 n)), (0, .ref 0), (1, .int x0)]) (st' := [.int (i32 (n + 1)), .ref 0]) rfl (by rw [show (i32 n + (1 : Int32)) = i32 (n + 1) from i32_add n 1]) ?_
      refine zPutI (F := 292) (I := 19) rfl rfl icCalls rfl ?_
      refine zPs (pc1 := 41) (l1 := [(2, .int (i32 n)), (0, .ref 0), (1, .int x0)]) (st1 := [.ref 0, .ref 0]) 2 rfl rfl rfl ?_
      refine zGetR (r := 2) rfl rfl ⟨by decide, rfl, by decide, rfl⟩ ?_
      refine zPs (pc1 := 45) (l1 := [(2, .int (i32 n)), (0, .ref 0), (1, .int x0)]) (st1 := [.int (i32 n), .ref 2, .ref 0]) 1 rfl rfl rfl ?_
      refine zAal (n := n) rfl rfl (irL (by omega)) ?_
      refine zPs (pc1 := 47) (l1 := [(2, .int (i32 n)), (0, .ref 0), (1, .int x0)]) (st1 := [.int x0, .ref (166 + 2 * n), .ref 0]) 1 rfl rfl rfl ?_
      refine zCv (mj := 80) (k := 0) (n := 2) rfl rfl rfl rfl (by decide) rfl rfl rfl rfl rfl rfl ?_
      refine e_80 (by omega) (CI_cnt hCI) (by omega) ?_
      refine kV ?_
      have hCI4 : CI (f_80 (n + 1) n x0 (up2 l 292 19 (i32 (n + 1)))) (n + 1) := ci_80 (CI_cnt hCI)
      replace k := bnd_i k
      generalize f_80 (n + 1) n x0 (up2 l 292 19 (i32 (n + 1))) = l4 at k hCI4 ⊢
      refine zPs (pc1 := 51) (l1 := [(2, .int (i32 n)), (0, .ref 0), (1, .int x0)]) (st1 := [.ref 0]) 1 rfl rfl rfl ?_
      refine zCv (mj := 95) (k := 0) (n := 0) rfl rfl rfl rfl (by decide) rfl rfl rfl rfl rfl rfl ?_
      refine e_95 (by omega) hCI4 ?_
      refine kV ?_
      have hCI5 : CI (f_95 (n + 1) l4) (n + 1) := ci_95 hCI4
      replace k := bnd_i k
      generalize f_95 (n + 1) l4 = l5 at k hCI5 ⊢
      refine zPs (pc1 := 55) (l1 := [(2, .int (i32 n)), (0, .ref 0), (1, .int x0)]) (st1 := [.int (i32 n)]) 1 rfl rfl rfl ?_
      refine zRi rfl rfl ?_
      exact k
    · replace k := ite_f h3 k
      refine zT rfl rfl rfl ?_
      exact k
  · replace k := ite_f h1 k
    refine kX ?_
    exact k
theorem x_45 {n : Nat} {x0 : Int32} {l : Sg} (x : Nat) (h : (f_45 n x0 l).1 = .inr x) : x < 3 := by
  unfold f_45 at h
  try simp only [bnd, bnd2] at h
  repeat' split at h
  all_goals first | (cases h; decide) | cases h
noncomputable def f_46 (n : Nat) (x0 : Int32) (x1 : Int32) (l : Sg) : PO := (if isCl n x0 then (if (0 : Int32) ≤ x1 ∧ x1 ≤ (11 : Int32) then (if l 311 x0.toNatClampNeg = 0 then (bnd2 (f_85 x0.toNatClampNeg x1 l) fun v6 l6 => (if v6 = (-2 : Int32) then (.inl (l6 313 x0.toNatClampNeg), l6) else (bnd (f_81 n x0.toNatClampNeg v6 l6) fun l8 => (bnd (f_95 n l8) fun l9 => (.inl (l9 313 x0.toNatClampNeg), l9))))) else (if l 311 x0.toNatClampNeg = (1 : Int32) then (bnd2 (f_85 x0.toNatClampNeg x1 l) fun v11 l11 => (if v11 = (-2 : Int32) then (.inl (l11 313 x0.toNatClampNeg), l11) else (bnd (f_81 n x0.toNatClampNeg v11 l11) fun l13 => (bnd (f_95 n l13) fun l14 => (.inl (l14 313 x0.toNatClampNeg), l14))))) else (.inr 2, l))) else (.inr 1, l)) else (.inr 0, l))
theorem e_46 {l : Sg} {P : MO → Sg → Prop} {n : Nat} {x0 : Int32} {x1 : Int32} (hl : n ≤ 60) (hCI : CI l n)  (k : Rk (Qp P) (f_46 n x0 x1 l)) : Es false 46 [.ref 0, .int x0, .int x1] l P := by
  unfold f_46 at k
  refine Es.of ?_
  refine zPs (pc1 := 2) (l1 := [(0, .ref 0), (1, .int x0), (2, .int x1)]) (st1 := [.int x0, .ref 0]) 2 rfl rfl rfl ?_
  refine zCv (mj := 69) (k := 0) (n := 1) rfl rfl rfl rfl (by decide) rfl rfl rfl rfl rfl rfl ?_
  refine e_69 hCI.1 (fun h1 => ?_) (fun h1 => ?_)
  · replace k := ite_t h1 k
    have h2 := rng_i32 (b := n) (by omega) h1.1 h1.2
    refine kV ?_
    refine zPs (pc1 := 10) (l1 := [(0, .ref 0), (1, .int x0), (2, .int x1)]) (st1 := [.int (11 : Int32), .int (0 : Int32), .int x1, .ref 0]) 4 rfl rfl rfl ?_
    refine zCv (mj := 71) (k := 0) (n := 3) rfl rfl rfl rfl (by decide) rfl rfl rfl rfl rfl rfl ?_
    refine e_71 (fun h3 => ?_) (fun h3 => ?_)
    · replace k := ite_t h3 k
      have h4 := rng_le (b := 11) (by decide) h3.1 h3.2
      refine kV ?_
      refine zPs (pc1 := 14) (l1 := [(0, .ref 0), (1, .int x0), (2, .int x1)]) (st1 := [.ref 0]) 1 rfl rfl rfl ?_
      refine zGetR (r := 2) rfl rfl ⟨by decide, rfl, by decide, rfl⟩ ?_
      refine zPs (pc1 := 18) (l1 := [(0, .ref 0), (1, .int x0), (2, .int x1)]) (st1 := [.int x0, .ref 2]) 1 rfl rfl rfl ?_
      refine zAalE (n := x0.toNatClampNeg) h2.2 rfl rfl (irL (Nat.lt_of_lt_of_le h2.1 hl)) ?_
      refine zPs (pc1 := 21) (l1 := [(3, .ref (166 + 2 * x0.toNatClampNeg)), (0, .ref 0), (1, .int x0), (2, .int x1)]) (st1 := [.ref (166 + 2 * x0.toNatClampNeg)]) 2 rfl rfl rfl ?_
      refine zGetI (F := 311) (I := x0.toNatClampNeg) (v := l 311 x0.toNatClampNeg) rfl rfl (icL (j := 1) (Nat.lt_of_lt_of_le h2.1 hl) rfl) rfl ?_
      refine zIfe rfl (fun h5 => ?_) (fun h5 => ?_)
      · replace k := ite_t h5 k
        refine zPs (pc1 := 48) (l1 := [(3, .ref (166 + 2 * x0.toNatClampNeg)), (0, .ref 0), (1, .int x0), (2, .int x1)]) (st1 := [.int x1, .ref (166 + 2 * x0.toNatClampNeg), .ref 0]) 3 rfl rfl rfl ?_
        refine zCv (mj := 85) (k := 0) (n := 2) rfl rfl rfl rfl (by decide) rfl rfl rfl rfl rfl rfl ?_
        refine e_85 hl hCI (Nat.lt_of_lt_of_le h2.1 hl) ?_
        refine kI ?_
        have hCI6 : CI (f_85 x0.toNatClampNeg x1 l).2 n := ci_85 hCI
        replace k := bnd2_i k
        generalize (f_85 x0.toNatClampNeg x1 l).1 = v6 at k ⊢
        generalize (f_85 x0.toNatClampNeg x1 l).2 = l6 at k hCI6 ⊢
        refine zPs (pc1 := 57) (l1 := [(4, .int v6), (3, .ref (166 + 2 * x0.toNatClampNeg)), (0, .ref 0), (1, .int x0), (2, .int x1)]) (st1 := [.int (-2 : Int32), .int v6]) 3 rfl rfl rfl ?_
        refine zCe rfl (fun h7 => ?_) (fun h7 => ?_)
        · replace k := ite_t h7 k
          refine zPs (pc1 := 72) (l1 := [(4, .int v6), (3, .ref (166 + 2 * x0.toNatClampNeg)), (0, .ref 0), (1, .int x0), (2, .int x1)]) (st1 := [.ref (166 + 2 * x0.toNatClampNeg)]) 1 rfl rfl rfl ?_
          refine zGetI (F := 313) (I := x0.toNatClampNeg) (v := l6 313 x0.toNatClampNeg) rfl rfl (icL (j := 3) (Nat.lt_of_lt_of_le h2.1 hl) rfl) rfl ?_
          refine zRi rfl rfl ?_
          exact k
        · replace k := ite_f h7 k
          refine zPs (pc1 := 64) (l1 := [(4, .int v6), (3, .ref (166 + 2 * x0.toNatClampNeg)), (0, .ref 0), (1, .int x0), (2, .int x1)]) (st1 := [.int v6, .ref (166 + 2 * x0.toNatClampNeg), .ref 0]) 3 rfl rfl rfl ?_
          refine zCv (mj := 81) (k := 0) (n := 2) rfl rfl rfl rfl (by decide) rfl rfl rfl rfl rfl rfl ?_
          refine e_81 hl hCI6 (Nat.lt_of_lt_of_le h2.1 hl) ?_
          refine kV ?_
          have hCI8 : CI (f_81 n x0.toNatClampNeg v6 l6) n := ci_81 hCI6
          replace k := bnd_i k
          generalize f_81 n x0.toNatClampNeg v6 l6 = l8 at k hCI8 ⊢
          refine zPs (pc1 := 68) (l1 := [(4, .int v6), (3, .ref (166 + 2 * x0.toNatClampNeg)), (0, .ref 0), (1, .int x0), (2, .int x1)]) (st1 := [.ref 0]) 1 rfl rfl rfl ?_
          refine zCv (mj := 95) (k := 0) (n := 0) rfl rfl rfl rfl (by decide) rfl rfl rfl rfl rfl rfl ?_
          refine e_95 hl hCI8 ?_
          refine kV ?_
          have hCI9 : CI (f_95 n l8) n := ci_95 hCI8
          replace k := bnd_i k
          generalize f_95 n l8 = l9 at k hCI9 ⊢
          refine zPs (pc1 := 72) (l1 := [(4, .int v6), (3, .ref (166 + 2 * x0.toNatClampNeg)), (0, .ref 0), (1, .int x0), (2, .int x1)]) (st1 := [.ref (166 + 2 * x0.toNatClampNeg)]) 1 rfl rfl rfl ?_
          refine zGetI (F := 313) (I := x0.toNatClampNeg) (v := l9 313 x0.toNatClampNeg) rfl rfl (icL (j := 3) (Nat.lt_of_lt_of_le h2.1 hl) rfl) rfl ?_
          refine zRi rfl rfl ?_
          exact k
      · replace k := ite_f h5 k
        refine zPs (pc1 := 28) (l1 := [(3, .ref (166 + 2 * x0.toNatClampNeg)), (0, .ref 0), (1, .int x0), (2, .int x1)]) (st1 := [.ref (166 + 2 * x0.toNatClampNeg)]) 1 rfl rfl rfl ?_
        refine zGetI (F := 311) (I := x0.toNatClampNeg) (v := l 311 x0.toNatClampNeg) rfl rfl (icL (j := 1) (Nat.lt_of_lt_of_le h2.1 hl) rfl) rfl ?_
        refine zPs (pc1 := 32) (l1 := [(3, .ref (166 + 2 * x0.toNatClampNeg)), (0, .ref 0), (1, .int x0), (2, .int x1)]) (st1 := [.int (1 : Int32), .int (l 311 x0.toNatClampNeg)]) 1 rfl rfl rfl ?_
        refine zCe rfl (fun h10 => ?_) (fun h10 => ?_)
        · replace k := ite_t h10 k
          refine zPs (pc1 := 48) (l1 := [(3, .ref (166 + 2 * x0.toNatClampNeg)), (0, .ref 0), (1, .int x0), (2, .int x1)]) (st1 := [.int x1, .ref (166 + 2 * x0.toNatClampNeg), .ref 0]) 3 rfl rfl rfl ?_
          refine zCv (mj := 85) (k := 0) (n := 2) rfl rfl rfl rfl (by decide) rfl rfl rfl rfl rfl rfl ?_
          refine e_85 hl hCI (Nat.lt_of_lt_of_le h2.1 hl) ?_
          refine kI ?_
          have hCI11 : CI (f_85 x0.toNatClampNeg x1 l).2 n := ci_85 hCI
          replace k := bnd2_i k
          generalize (f_85 x0.toNatClampNeg x1 l).1 = v11 at k ⊢
          generalize (f_85 x0.toNatClampNeg x1 l).2 = l11 at k hCI11 ⊢
          refine zPs (pc1 := 57) (l1 := [(4, .int v11), (3, .ref (166 + 2 * x0.toNatClampNeg)), (0, .ref 0), (1, .int x0), (2, .int x1)]) (st1 := [.int (-2 : Int32), .int v11]) 3 rfl rfl rfl ?_
          refine zCe rfl (fun h12 => ?_) (fun h12 => ?_)
          · replace k := ite_t h12 k
            refine zPs (pc1 := 72) (l1 := [(4, .int v11), (3, .ref (166 + 2 * x0.toNatClampNeg)), (0, .ref 0), (1, .int x0), (2, .int x1)]) (st1 := [.ref (166 + 2 * x0.toNatClampNeg)]) 1 rfl rfl rfl ?_
            refine zGetI (F := 313) (I := x0.toNatClampNeg) (v := l11 313 x0.toNatClampNeg) rfl rfl (icL (j := 3) (Nat.lt_of_lt_of_le h2.1 hl) rfl) rfl ?_
            refine zRi rfl rfl ?_
            exact k
          · replace k := ite_f h12 k
            refine zPs (pc1 := 64) (l1 := [(4, .int v11), (3, .ref (166 + 2 * x0.toNatClampNeg)), (0, .ref 0), (1, .int x0), (2, .int x1)]) (st1 := [.int v11, .ref (166 + 2 * x0.toNatClampNeg), .ref 0]) 3 rfl rfl rfl ?_
            refine zCv (mj := 81) (k := 0) (n := 2) rfl rfl rfl rfl (by decide) rfl rfl rfl rfl rfl rfl ?_
            refine e_81 hl hCI11 (Nat.lt_of_lt_of_le h2.1 hl) ?_
            refine kV ?_
            have hCI13 : CI (f_81 n x0.toNatClampNeg v11 l11) n := ci_81 hCI11
            replace k := bnd_i k
            generalize f_81 n x0.toNatClampNeg v11 l11 = l13 at k hCI13 ⊢
            refine zPs (pc1 := 68) (l1 := [(4, .int v11), (3, .ref (166 + 2 * x0.toNatClampNeg)), (0, .ref 0), (1, .int x0), (2, .int x1)]) (st1 := [.ref 0]) 1 rfl rfl rfl ?_
            refine zCv (mj := 95) (k := 0) (n := 0) rfl rfl rfl rfl (by decide) rfl rfl rfl rfl rfl rfl ?_
            refine e_95 hl hCI13 ?_
            refine kV ?_
            have hCI14 : CI (f_95 n l13) n := ci_95 hCI13
            replace k := bnd_i k
            generalize f_95 n l13 = l14 at k hCI14 ⊢
            refine zPs (pc1 := 72) (l1 := [(4, .int v11), (3, .ref (166 + 2 * x0.toNatClampNeg)), (0, .ref 0), (1, .int x0), (2, .int x1)]) (st1 := [.ref (166 + 2 * x0.toNatClampNeg)]) 1 rfl rfl rfl ?_
            refine zGetI (F := 313) (I := x0.toNatClampNeg) (v := l14 313 x0.toNatClampNeg) rfl rfl (icL (j := 3) (Nat.lt_of_lt_of_le h2.1 hl) rfl) rfl ?_
            refine zRi rfl rfl ?_
            exact k
        · replace k := ite_f h10 k
          refine zT rfl rfl rfl ?_
          exact k
    · replace k := ite_f h3 k
      refine kX ?_
      exact k
  · replace k := ite_f h1 k
    refine kX ?_
    exact k
theorem x_46 {n : Nat} {x0 x1 : Int32} {l : Sg} (x : Nat) (h : (f_46 n x0 x1 l).1 = .inr x) : x < 3 := by
  unfold f_46 at h
  try simp only [bnd, bnd2] at h
  repeat' split at h
  all_goals first | (cases h; decide) | cases h
noncomputable def f_47 (n : Nat) (x0 : Int32) (l : Sg) : PO := (if isCl n x0 then (if ¬ l 311 x0.toNatClampNeg = (5 : Int32) then (bnd (f_91 x0.toNatClampNeg (1 : Int32) l) fun l4 => (bnd (f_95 n l4) fun l5 => (.inl (l 311 x0.toNatClampNeg), l5))) else (.inr 2, l)) else (.inr 0, l))
theorem e_47 {l : Sg} {P : MO → Sg → Prop} {n : Nat} {x0 : Int32} (hl : n ≤ 60) (hCI : CI l n)  (k : Rk (Qp P) (f_47 n x0 l)) : Es false 47 [.ref 0, .int x0] l P := by
  unfold f_47 at k
  refine Es.of ?_
  refine zPs (pc1 := 2) (l1 := [(0, .ref 0), (1, .int x0)]) (st1 := [.int x0, .ref 0]) 2 rfl rfl rfl ?_
  refine zCv (mj := 69) (k := 0) (n := 1) rfl rfl rfl rfl (by decide) rfl rfl rfl rfl rfl rfl ?_
  refine e_69 hCI.1 (fun h1 => ?_) (fun h1 => ?_)
  · replace k := ite_t h1 k
    have h2 := rng_i32 (b := n) (by omega) h1.1 h1.2
    refine kV ?_
    refine zPs (pc1 := 6) (l1 := [(0, .ref 0), (1, .int x0)]) (st1 := [.ref 0]) 1 rfl rfl rfl ?_
    refine zGetR (r := 2) rfl rfl ⟨by decide, rfl, by decide, rfl⟩ ?_
    refine zPs (pc1 := 10) (l1 := [(0, .ref 0), (1, .int x0)]) (st1 := [.int x0, .ref 2]) 1 rfl rfl rfl ?_
    refine zAalE (n := x0.toNatClampNeg) h2.2 rfl rfl (irL (Nat.lt_of_lt_of_le h2.1 hl)) ?_
    refine zPs (pc1 := 13) (l1 := [(2, .ref (166 + 2 * x0.toNatClampNeg)), (0, .ref 0), (1, .int x0)]) (st1 := [.ref (166 + 2 * x0.toNatClampNeg)]) 2 rfl rfl rfl ?_
    refine zGetI (F := 311) (I := x0.toNatClampNeg) (v := l 311 x0.toNatClampNeg) rfl rfl (icL (j := 1) (Nat.lt_of_lt_of_le h2.1 hl) rfl) rfl ?_
    refine zPs (pc1 := 19) (l1 := [(3, .int (l 311 x0.toNatClampNeg)), (2, .ref (166 + 2 * x0.toNatClampNeg)), (0, .ref 0), (1, .int x0)]) (st1 := [.int (5 : Int32), .int (l 311 x0.toNatClampNeg)]) 3 rfl rfl rfl ?_
    refine zCn rfl (fun h3 => ?_) (fun h3 => ?_)
    · replace k := ite_t h3 k
      refine zPs (pc1 := 35) (l1 := [(3, .int (l 311 x0.toNatClampNeg)), (2, .ref (166 + 2 * x0.toNatClampNeg)), (0, .ref 0), (1, .int x0)]) (st1 := [.int (1 : Int32), .ref (166 + 2 * x0.toNatClampNeg), .ref 0]) 3 rfl rfl rfl ?_
      refine zCv (mj := 91) (k := 0) (n := 2) rfl rfl rfl rfl (by decide) rfl rfl rfl rfl rfl rfl ?_
      refine e_91 hl hCI (Nat.lt_of_lt_of_le h2.1 hl) ?_
      refine kV ?_
      have hCI4 : CI (f_91 x0.toNatClampNeg (1 : Int32) l) n := ci_91 hCI
      replace k := bnd_i k
      generalize f_91 x0.toNatClampNeg (1 : Int32) l = l4 at k hCI4 ⊢
      refine zPs (pc1 := 39) (l1 := [(3, .int (l 311 x0.toNatClampNeg)), (2, .ref (166 + 2 * x0.toNatClampNeg)), (0, .ref 0), (1, .int x0)]) (st1 := [.ref 0]) 1 rfl rfl rfl ?_
      refine zCv (mj := 95) (k := 0) (n := 0) rfl rfl rfl rfl (by decide) rfl rfl rfl rfl rfl rfl ?_
      refine e_95 hl hCI4 ?_
      refine kV ?_
      have hCI5 : CI (f_95 n l4) n := ci_95 hCI4
      replace k := bnd_i k
      generalize f_95 n l4 = l5 at k hCI5 ⊢
      refine zPs (pc1 := 43) (l1 := [(3, .int (l 311 x0.toNatClampNeg)), (2, .ref (166 + 2 * x0.toNatClampNeg)), (0, .ref 0), (1, .int x0)]) (st1 := [.int (l 311 x0.toNatClampNeg)]) 1 rfl rfl rfl ?_
      refine zRi rfl rfl ?_
      exact k
    · replace k := ite_f (not_not_intro h3) k
      refine zT rfl rfl rfl ?_
      exact k
  · replace k := ite_f h1 k
    refine kX ?_
    exact k
theorem x_47 {n : Nat} {x0 : Int32} {l : Sg} (x : Nat) (h : (f_47 n x0 l).1 = .inr x) : x < 3 := by
  unfold f_47 at h
  try simp only [bnd, bnd2] at h
  repeat' split at h
  all_goals first | (cases h; decide) | cases h
noncomputable def f_48 (n : Nat) (x0 : Int32) (l : Sg) : PO := (if isCl n x0 then (if l 311 x0.toNatClampNeg = (4 : Int32) then (bnd (f_92 x0.toNatClampNeg (2 : Int32) l) fun l4 => (if isA (l4 325 x0.toNatClampNeg) then (.inl (l4 325 x0.toNatClampNeg), (up2 l4 326 ((l4 325 x0.toNatClampNeg).toNatClampNeg) (2 : Int32))) else (.inl (l4 325 x0.toNatClampNeg), l4))) else (.inr 2, l)) else (.inr 0, l))
theorem e_48 {l : Sg} {P : MO → Sg → Prop} {n : Nat} {x0 : Int32} (hl : n ≤ 60) (hCI : CI l n)  (k : Rk (Qp P) (f_48 n x0 l)) : Es false 48 [.ref 0, .int x0] l P := by
  unfold f_48 at k
  refine Es.of ?_
  refine zPs (pc1 := 2) (l1 := [(0, .ref 0), (1, .int x0)]) (st1 := [.int x0, .ref 0]) 2 rfl rfl rfl ?_
  refine zCv (mj := 69) (k := 0) (n := 1) rfl rfl rfl rfl (by decide) rfl rfl rfl rfl rfl rfl ?_
  refine e_69 hCI.1 (fun h1 => ?_) (fun h1 => ?_)
  · replace k := ite_t h1 k
    have h2 := rng_i32 (b := n) (by omega) h1.1 h1.2
    refine kV ?_
    refine zPs (pc1 := 6) (l1 := [(0, .ref 0), (1, .int x0)]) (st1 := [.ref 0]) 1 rfl rfl rfl ?_
    refine zGetR (r := 2) rfl rfl ⟨by decide, rfl, by decide, rfl⟩ ?_
    refine zPs (pc1 := 10) (l1 := [(0, .ref 0), (1, .int x0)]) (st1 := [.int x0, .ref 2]) 1 rfl rfl rfl ?_
    refine zAalE (n := x0.toNatClampNeg) h2.2 rfl rfl (irL (Nat.lt_of_lt_of_le h2.1 hl)) ?_
    refine zPs (pc1 := 13) (l1 := [(2, .ref (166 + 2 * x0.toNatClampNeg)), (0, .ref 0), (1, .int x0)]) (st1 := [.ref (166 + 2 * x0.toNatClampNeg)]) 2 rfl rfl rfl ?_
    refine zGetI (F := 311) (I := x0.toNatClampNeg) (v := l 311 x0.toNatClampNeg) rfl rfl (icL (j := 1) (Nat.lt_of_lt_of_le h2.1 hl) rfl) rfl ?_
    refine zPs (pc1 := 17) (l1 := [(2, .ref (166 + 2 * x0.toNatClampNeg)), (0, .ref 0), (1, .int x0)]) (st1 := [.int (4 : Int32), .int (l 311 x0.toNatClampNeg)]) 1 rfl rfl rfl ?_
    refine zCe rfl (fun h3 => ?_) (fun h3 => ?_)
    · replace k := ite_t h3 k
      refine zPs (pc1 := 33) (l1 := [(2, .ref (166 + 2 * x0.toNatClampNeg)), (0, .ref 0), (1, .int x0)]) (st1 := [.int (2 : Int32), .ref (166 + 2 * x0.toNatClampNeg), .ref 0]) 3 rfl rfl rfl ?_
      refine zCv (mj := 92) (k := 0) (n := 2) rfl rfl rfl rfl (by decide) rfl rfl rfl rfl rfl rfl ?_
      refine e_92 hl hCI (Nat.lt_of_lt_of_le h2.1 hl) ?_
      refine kV ?_
      have hCI4 : CI (f_92 x0.toNatClampNeg (2 : Int32) l) n := ci_92 hCI
      replace k := bnd_i k
      generalize f_92 x0.toNatClampNeg (2 : Int32) l = l4 at k hCI4 ⊢
      refine zPs (pc1 := 37) (l1 := [(2, .ref (166 + 2 * x0.toNatClampNeg)), (0, .ref 0), (1, .int x0)]) (st1 := [.ref (166 + 2 * x0.toNatClampNeg)]) 1 rfl rfl rfl ?_
      refine zGetI (F := 325) (I := x0.toNatClampNeg) (v := l4 325 x0.toNatClampNeg) rfl rfl (icL (j := 4) (Nat.lt_of_lt_of_le h2.1 hl) rfl) rfl ?_
      refine zCs (mj := 78) rfl rfl rfl rfl rfl rfl rfl rfl ?_
      refine e_78 (fun h5 => ?_) (fun h5 => ?_)
      · replace k := ite_t h5 k
        have h6 := rng_i32 (b := 6) (by decide) h5.1 h5.2
        refine kI ?_
        refine zPs (pc1 := 47) (l1 := [(2, .ref (166 + 2 * x0.toNatClampNeg)), (0, .ref 0), (1, .int x0)]) (st1 := [.ref 0]) 2 rfl rfl rfl ?_
        refine zGetR (r := 3) rfl rfl ⟨by decide, rfl, by decide, rfl⟩ ?_
        refine zPs (pc1 := 51) (l1 := [(2, .ref (166 + 2 * x0.toNatClampNeg)), (0, .ref 0), (1, .int x0)]) (st1 := [.ref (166 + 2 * x0.toNatClampNeg), .ref 3]) 1 rfl rfl rfl ?_
        refine zGetI (F := 325) (I := x0.toNatClampNeg) (v := l4 325 x0.toNatClampNeg) rfl rfl (icL (j := 4) (Nat.lt_of_lt_of_le h2.1 hl) rfl) rfl ?_
        refine zAalE (n := (l4 325 x0.toNatClampNeg).toNatClampNeg) h6.2 rfl rfl (irD h6.1) ?_
        refine zPs (pc1 := 56) (l1 := [(2, .ref (166 + 2 * x0.toNatClampNeg)), (0, .ref 0), (1, .int x0)]) (st1 := [.int (2 : Int32), .ref (286 + ((l4 325 x0.toNatClampNeg).toNatClampNeg))]) 1 rfl rfl rfl ?_
        refine zPutI (F := 326) (I := (l4 325 x0.toNatClampNeg).toNatClampNeg) rfl rfl (icD (j := 0) h6.1 rfl) rfl ?_
        refine zPs (pc1 := 60) (l1 := [(2, .ref (166 + 2 * x0.toNatClampNeg)), (0, .ref 0), (1, .int x0)]) (st1 := [.ref (166 + 2 * x0.toNatClampNeg)]) 1 rfl rfl rfl ?_
        refine zGetI (F := 325) (I := x0.toNatClampNeg) (v := l4 325 x0.toNatClampNeg) rfl rfl (icL (j := 4) (Nat.lt_of_lt_of_le h2.1 hl) rfl) rfl ?_
        refine zRi rfl rfl ?_
        exact k
      · replace k := ite_f h5 k
        refine kI ?_
        refine zPs (pc1 := 60) (l1 := [(2, .ref (166 + 2 * x0.toNatClampNeg)), (0, .ref 0), (1, .int x0)]) (st1 := [.ref (166 + 2 * x0.toNatClampNeg)]) 2 rfl rfl rfl ?_
        refine zGetI (F := 325) (I := x0.toNatClampNeg) (v := l4 325 x0.toNatClampNeg) rfl rfl (icL (j := 4) (Nat.lt_of_lt_of_le h2.1 hl) rfl) rfl ?_
        refine zRi rfl rfl ?_
        exact k
    · replace k := ite_f h3 k
      refine zT rfl rfl rfl ?_
      exact k
  · replace k := ite_f h1 k
    refine kX ?_
    exact k
theorem x_48 {n : Nat} {x0 : Int32} {l : Sg} (x : Nat) (h : (f_48 n x0 l).1 = .inr x) : x < 3 := by
  unfold f_48 at h
  try simp only [bnd, bnd2] at h
  repeat' split at h
  all_goals first | (cases h; decide) | cases h
noncomputable def f_49 (n : Nat) (x0 : Int32) (x1 : Int32) (l : Sg) : PO := (if isA x0 then (if (1 : Int32) ≤ x1 ∧ x1 ≤ (63 : Int32) then (if ¬ (l 326 x0.toNatClampNeg = 2 ∨ l 326 x0.toNatClampNeg = 3) then (if ¬ l 326 x0.toNatClampNeg = 0 then (bnd (f_95 n (up2 l 327 x0.toNatClampNeg x1)) fun l7 => (.inl (l7 331 x0.toNatClampNeg), l7)) else (bnd (f_1 x0.toNatClampNeg (l 292 0) (up2 l 327 x0.toNatClampNeg x1)) fun l8 => (bnd (f_95 n l8) fun l9 => (.inl (l9 331 x0.toNatClampNeg), l9)))) else (.inr 2, l)) else (.inr 1, l)) else (.inr 0, l))
theorem e_49 {l : Sg} {P : MO → Sg → Prop} {n : Nat} {x0 : Int32} {x1 : Int32} (hl : n ≤ 60) (hCI : CI l n)  (k : Rk (Qp P) (f_49 n x0 x1 l)) : Es false 49 [.ref 0, .int x0, .int x1] l P := by
  unfold f_49 at k
  refine Es.of ?_
  refine zPs (pc1 := 2) (l1 := [(0, .ref 0), (1, .int x0), (2, .int x1)]) (st1 := [.int x0, .ref 0]) 2 rfl rfl rfl ?_
  refine zCv (mj := 70) (k := 0) (n := 1) rfl rfl rfl rfl (by decide) rfl rfl rfl rfl rfl rfl ?_
  refine e_70 (fun h1 => ?_) (fun h1 => ?_)
  · replace k := ite_t h1 k
    have h2 := rng_i32 (b := 6) (by decide) h1.1 h1.2
    refine kV ?_
    refine zPs (pc1 := 10) (l1 := [(0, .ref 0), (1, .int x0), (2, .int x1)]) (st1 := [.int (63 : Int32), .int (1 : Int32), .int x1, .ref 0]) 4 rfl rfl rfl ?_
    refine zCv (mj := 71) (k := 0) (n := 3) rfl rfl rfl rfl (by decide) rfl rfl rfl rfl rfl rfl ?_
    refine e_71 (fun h3 => ?_) (fun h3 => ?_)
    · replace k := ite_t h3 k
      have h4 := rng_le (b := 63) (by decide) (Int32.le_trans (by decide) h3.1) h3.2
      refine kV ?_
      refine zPs (pc1 := 14) (l1 := [(0, .ref 0), (1, .int x0), (2, .int x1)]) (st1 := [.ref 0]) 1 rfl rfl rfl ?_
      refine zGetR (r := 3) rfl rfl ⟨by decide, rfl, by decide, rfl⟩ ?_
      refine zPs (pc1 := 18) (l1 := [(0, .ref 0), (1, .int x0), (2, .int x1)]) (st1 := [.int x0, .ref 3]) 1 rfl rfl rfl ?_
      refine zAalE (n := x0.toNatClampNeg) h2.2 rfl rfl (irD h2.1) ?_
      refine zPs (pc1 := 22) (l1 := [(3, .ref (286 + x0.toNatClampNeg)), (0, .ref 0), (1, .int x0), (2, .int x1)]) (st1 := [.ref (286 + x0.toNatClampNeg), .ref 0]) 3 rfl rfl rfl ?_
      refine zCv (mj := 74) (k := 0) (n := 1) rfl rfl rfl rfl (by decide) rfl rfl rfl rfl rfl rfl ?_
      refine e_74 h2.1 (fun h5 => ?_) (fun h5 => ?_)
      · replace k := ite_t h5 k
        refine kV ?_
        refine zPs (pc1 := 27) (l1 := [(3, .ref (286 + x0.toNatClampNeg)), (0, .ref 0), (1, .int x0), (2, .int x1)]) (st1 := [.int x1, .ref (286 + x0.toNatClampNeg)]) 2 rfl rfl rfl ?_
        refine zPutI (F := 327) (I := x0.toNatClampNeg) rfl rfl (icD (j := 1) h2.1 rfl) rfl ?_
        refine zPs (pc1 := 31) (l1 := [(3, .ref (286 + x0.toNatClampNeg)), (0, .ref 0), (1, .int x0), (2, .int x1)]) (st1 := [.ref (286 + x0.toNatClampNeg)]) 1 rfl rfl rfl ?_
        refine zGetI (F := 326) (I := x0.toNatClampNeg) (v := l 326 x0.toNatClampNeg) rfl rfl (icD (j := 0) h2.1 rfl) rfl ?_
        refine zIfn rfl (fun h6 => ?_) (fun h6 => ?_)
        · replace k := ite_t h6 k
          refine zPs (pc1 := 46) (l1 := [(3, .ref (286 + x0.toNatClampNeg)), (0, .ref 0), (1, .int x0), (2, .int x1)]) (st1 := [.ref 0]) 1 rfl rfl rfl ?_
          refine zCv (mj := 95) (k := 0) (n := 0) rfl rfl rfl rfl (by decide) rfl rfl rfl rfl rfl rfl ?_
          refine e_95 hl (CI_up hCI rfl) ?_
          refine kV ?_
          have hCI7 : CI (f_95 n (up2 l 327 x0.toNatClampNeg x1)) n := ci_95 (CI_up hCI rfl)
          replace k := bnd_i k
          generalize f_95 n (up2 l 327 x0.toNatClampNeg x1) = l7 at k hCI7 ⊢
          refine zPs (pc1 := 50) (l1 := [(3, .ref (286 + x0.toNatClampNeg)), (0, .ref 0), (1, .int x0), (2, .int x1)]) (st1 := [.ref (286 + x0.toNatClampNeg)]) 1 rfl rfl rfl ?_
          refine zGetI (F := 331) (I := x0.toNatClampNeg) (v := l7 331 x0.toNatClampNeg) rfl rfl (icD (j := 2) h2.1 rfl) rfl ?_
          refine zRi rfl rfl ?_
          exact k
        · replace k := ite_f (not_not_intro h6) k
          refine zPs (pc1 := 39) (l1 := [(3, .ref (286 + x0.toNatClampNeg)), (0, .ref 0), (1, .int x0), (2, .int x1)]) (st1 := [.ref 0, .ref (286 + x0.toNatClampNeg)]) 2 rfl rfl rfl ?_
          refine zGetI (F := 292) (I := 0) (v := l 292 0) rfl rfl icNow rfl ?_
          refine zCv (mj := 1) (k := (286 + x0.toNatClampNeg)) (n := 1) rfl rfl rfl rfl (by have := h2.1; omega) (tagK_desk h2.1) rfl rfl rfl rfl rfl ?_
          refine e_1 h2.1 ?_
          refine kV ?_
          have hCI8 : CI (f_1 x0.toNatClampNeg (l 292 0) (up2 l 327 x0.toNatClampNeg x1)) n := ci_1 (CI_up hCI rfl)
          replace k := bnd_i k
          generalize f_1 x0.toNatClampNeg (l 292 0) (up2 l 327 x0.toNatClampNeg x1) = l8 at k hCI8 ⊢
          refine zPs (pc1 := 46) (l1 := [(3, .ref (286 + x0.toNatClampNeg)), (0, .ref 0), (1, .int x0), (2, .int x1)]) (st1 := [.ref 0]) 1 rfl rfl rfl ?_
          refine zCv (mj := 95) (k := 0) (n := 0) rfl rfl rfl rfl (by decide) rfl rfl rfl rfl rfl rfl ?_
          refine e_95 hl hCI8 ?_
          refine kV ?_
          have hCI9 : CI (f_95 n l8) n := ci_95 hCI8
          replace k := bnd_i k
          generalize f_95 n l8 = l9 at k hCI9 ⊢
          refine zPs (pc1 := 50) (l1 := [(3, .ref (286 + x0.toNatClampNeg)), (0, .ref 0), (1, .int x0), (2, .int x1)]) (st1 := [.ref (286 + x0.toNatClampNeg)]) 1 rfl rfl rfl ?_
          refine zGetI (F := 331) (I := x0.toNatClampNeg) (v := l9 331 x0.toNatClampNeg) rfl rfl (icD (j := 2) h2.1 rfl) rfl ?_
          refine zRi rfl rfl ?_
          exact k
      · replace k := ite_f h5 k
        refine kX ?_
        exact k
    · replace k := ite_f h3 k
      refine kX ?_
      exact k
  · replace k := ite_f h1 k
    refine kX ?_
    exact k
theorem x_49 {n : Nat} {x0 x1 : Int32} {l : Sg} (x : Nat) (h : (f_49 n x0 x1 l).1 = .inr x) : x < 3 := by
  unfold f_49 at h
  try simp only [bnd, bnd2] at h
  repeat' split at h
  all_goals first | (cases h; decide) | cases h
noncomputable def f_50 (n : Nat) (x0 : Int32) (l : Sg) : PO := (if isA x0 then (if ¬ (l 326 x0.toNatClampNeg = 2 ∨ l 326 x0.toNatClampNeg = 3) then (.inl (l 326 x0.toNatClampNeg), (up2 l 326 x0.toNatClampNeg (0 : Int32))) else (.inr 2, l)) else (.inr 0, l))
theorem e_50 {l : Sg} {P : MO → Sg → Prop} {n : Nat} {x0 : Int32} (hl : n ≤ 60) (hCI : CI l n)  (k : Rk (Qp P) (f_50 n x0 l)) : Es false 50 [.ref 0, .int x0] l P := by
  unfold f_50 at k
  refine Es.of ?_
  refine zPs (pc1 := 2) (l1 := [(0, .ref 0), (1, .int x0)]) (st1 := [.int x0, .ref 0]) 2 rfl rfl rfl ?_
  refine zCv (mj := 70) (k := 0) (n := 1) rfl rfl rfl rfl (by decide) rfl rfl rfl rfl rfl rfl ?_
  refine e_70 (fun h1 => ?_) (fun h1 => ?_)
  · replace k := ite_t h1 k
    have h2 := rng_i32 (b := 6) (by decide) h1.1 h1.2
    refine kV ?_
    refine zPs (pc1 := 6) (l1 := [(0, .ref 0), (1, .int x0)]) (st1 := [.ref 0]) 1 rfl rfl rfl ?_
    refine zGetR (r := 3) rfl rfl ⟨by decide, rfl, by decide, rfl⟩ ?_
    refine zPs (pc1 := 10) (l1 := [(0, .ref 0), (1, .int x0)]) (st1 := [.int x0, .ref 3]) 1 rfl rfl rfl ?_
    refine zAalE (n := x0.toNatClampNeg) h2.2 rfl rfl (irD h2.1) ?_
    refine zPs (pc1 := 14) (l1 := [(2, .ref (286 + x0.toNatClampNeg)), (0, .ref 0), (1, .int x0)]) (st1 := [.ref (286 + x0.toNatClampNeg), .ref 0]) 3 rfl rfl rfl ?_
    refine zCv (mj := 74) (k := 0) (n := 1) rfl rfl rfl rfl (by decide) rfl rfl rfl rfl rfl rfl ?_
    refine e_74 h2.1 (fun h3 => ?_) (fun h3 => ?_)
    · replace k := ite_t h3 k
      refine kV ?_
      refine zPs (pc1 := 18) (l1 := [(2, .ref (286 + x0.toNatClampNeg)), (0, .ref 0), (1, .int x0)]) (st1 := [.ref (286 + x0.toNatClampNeg)]) 1 rfl rfl rfl ?_
      refine zGetI (F := 326) (I := x0.toNatClampNeg) (v := l 326 x0.toNatClampNeg) rfl rfl (icD (j := 0) h2.1 rfl) rfl ?_
      refine zPs (pc1 := 24) (l1 := [(3, .int (l 326 x0.toNatClampNeg)), (2, .ref (286 + x0.toNatClampNeg)), (0, .ref 0), (1, .int x0)]) (st1 := [.int (0 : Int32), .ref (286 + x0.toNatClampNeg)]) 3 rfl rfl rfl ?_
      refine zPutI (F := 326) (I := x0.toNatClampNeg) rfl rfl (icD (j := 0) h2.1 rfl) rfl ?_
      refine zPs (pc1 := 28) (l1 := [(3, .int (l 326 x0.toNatClampNeg)), (2, .ref (286 + x0.toNatClampNeg)), (0, .ref 0), (1, .int x0)]) (st1 := [.int (l 326 x0.toNatClampNeg)]) 1 rfl rfl rfl ?_
      refine zRi rfl rfl ?_
      exact k
    · replace k := ite_f h3 k
      refine kX ?_
      exact k
  · replace k := ite_f h1 k
    refine kX ?_
    exact k
theorem x_50 {n : Nat} {x0 : Int32} {l : Sg} (x : Nat) (h : (f_50 n x0 l).1 = .inr x) : x < 3 := by
  unfold f_50 at h
  try simp only [bnd, bnd2] at h
  repeat' split at h
  all_goals first | (cases h; decide) | cases h
noncomputable def f_51 (n : Nat) (x0 : Int32) (x1 : Int32) (l : Sg) : PO := (if isA x0 then (if (0 : Int32) ≤ x1 ∧ x1 ≤ (30 : Int32) then (.inl (l 329 x0.toNatClampNeg), (up2 l 329 x0.toNatClampNeg x1)) else (.inr 1, l)) else (.inr 0, l))
theorem e_51 {l : Sg} {P : MO → Sg → Prop} {n : Nat} {x0 : Int32} {x1 : Int32} (hl : n ≤ 60) (hCI : CI l n)  (k : Rk (Qp P) (f_51 n x0 x1 l)) : Es false 51 [.ref 0, .int x0, .int x1] l P := by
  unfold f_51 at k
  refine Es.of ?_
  refine zPs (pc1 := 2) (l1 := [(0, .ref 0), (1, .int x0), (2, .int x1)]) (st1 := [.int x0, .ref 0]) 2 rfl rfl rfl ?_
  refine zCv (mj := 70) (k := 0) (n := 1) rfl rfl rfl rfl (by decide) rfl rfl rfl rfl rfl rfl ?_
  refine e_70 (fun h1 => ?_) (fun h1 => ?_)
  · replace k := ite_t h1 k
    have h2 := rng_i32 (b := 6) (by decide) h1.1 h1.2
    refine kV ?_
    refine zPs (pc1 := 10) (l1 := [(0, .ref 0), (1, .int x0), (2, .int x1)]) (st1 := [.int (30 : Int32), .int (0 : Int32), .int x1, .ref 0]) 4 rfl rfl rfl ?_
    refine zCv (mj := 71) (k := 0) (n := 3) rfl rfl rfl rfl (by decide) rfl rfl rfl rfl rfl rfl ?_
    refine e_71 (fun h3 => ?_) (fun h3 => ?_)
    · replace k := ite_t h3 k
      have h4 := rng_le (b := 30) (by decide) h3.1 h3.2
      refine kV ?_
      refine zPs (pc1 := 14) (l1 := [(0, .ref 0), (1, .int x0), (2, .int x1)]) (st1 := [.ref 0]) 1 rfl rfl rfl ?_
      refine zGetR (r := 3) rfl rfl ⟨by decide, rfl, by decide, rfl⟩ ?_
      refine zPs (pc1 := 18) (l1 := [(0, .ref 0), (1, .int x0), (2, .int x1)]) (st1 := [.int x0, .ref 3]) 1 rfl rfl rfl ?_
      refine zAalE (n := x0.toNatClampNeg) h2.2 rfl rfl (irD h2.1) ?_
      refine zPs (pc1 := 21) (l1 := [(3, .ref (286 + x0.toNatClampNeg)), (0, .ref 0), (1, .int x0), (2, .int x1)]) (st1 := [.ref (286 + x0.toNatClampNeg)]) 2 rfl rfl rfl ?_
      refine zGetI (F := 329) (I := x0.toNatClampNeg) (v := l 329 x0.toNatClampNeg) rfl rfl (icD (j := 3) h2.1 rfl) rfl ?_
      refine zPs (pc1 := 28) (l1 := [(4, .int (l 329 x0.toNatClampNeg)), (3, .ref (286 + x0.toNatClampNeg)), (0, .ref 0), (1, .int x0), (2, .int x1)]) (st1 := [.int x1, .ref (286 + x0.toNatClampNeg)]) 3 rfl rfl rfl ?_
      refine zPutI (F := 329) (I := x0.toNatClampNeg) rfl rfl (icD (j := 3) h2.1 rfl) rfl ?_
      refine zPs (pc1 := 33) (l1 := [(4, .int (l 329 x0.toNatClampNeg)), (3, .ref (286 + x0.toNatClampNeg)), (0, .ref 0), (1, .int x0), (2, .int x1)]) (st1 := [.int (l 329 x0.toNatClampNeg)]) 1 rfl rfl rfl ?_
      refine zRi rfl rfl ?_
      exact k
    · replace k := ite_f h3 k
      refine kX ?_
      exact k
  · replace k := ite_f h1 k
    refine kX ?_
    exact k
theorem x_51 {n : Nat} {x0 x1 : Int32} {l : Sg} (x : Nat) (h : (f_51 n x0 x1 l).1 = .inr x) : x < 3 := by
  unfold f_51 at h
  try simp only [bnd, bnd2] at h
  repeat' split at h
  all_goals first | (cases h; decide) | cases h
noncomputable def f_52 (n : Nat) (x0 : Int32) (l : Sg) : PO := (if isA x0 then (if l 326 x0.toNatClampNeg = 2 then (if isCl n (l 331 x0.toNatClampNeg) then (bnd (f_91 ((l 331 x0.toNatClampNeg).toNatClampNeg) (4 : Int32) l) fun l6 => (bnd (f_95 n l6) fun l7 => (.inl (l 331 x0.toNatClampNeg), l7))) else (bnd (f_95 n l) fun l8 => (.inl (l 331 x0.toNatClampNeg), l8))) else (.inr 2, l)) else (.inr 0, l))
theorem e_52 {l : Sg} {P : MO → Sg → Prop} {n : Nat} {x0 : Int32} (hl : n ≤ 60) (hCI : CI l n)  (k : Rk (Qp P) (f_52 n x0 l)) : Es false 52 [.ref 0, .int x0] l P := by
  unfold f_52 at k
  refine Es.of ?_
  refine zPs (pc1 := 2) (l1 := [(0, .ref 0), (1, .int x0)]) (st1 := [.int x0, .ref 0]) 2 rfl rfl rfl ?_
  refine zCv (mj := 70) (k := 0) (n := 1) rfl rfl rfl rfl (by decide) rfl rfl rfl rfl rfl rfl ?_
  refine e_70 (fun h1 => ?_) (fun h1 => ?_)
  · replace k := ite_t h1 k
    have h2 := rng_i32 (b := 6) (by decide) h1.1 h1.2
    refine kV ?_
    refine zPs (pc1 := 6) (l1 := [(0, .ref 0), (1, .int x0)]) (st1 := [.ref 0]) 1 rfl rfl rfl ?_
    refine zGetR (r := 3) rfl rfl ⟨by decide, rfl, by decide, rfl⟩ ?_
    refine zPs (pc1 := 10) (l1 := [(0, .ref 0), (1, .int x0)]) (st1 := [.int x0, .ref 3]) 1 rfl rfl rfl ?_
    refine zAalE (n := x0.toNatClampNeg) h2.2 rfl rfl (irD h2.1) ?_
    refine zPs (pc1 := 14) (l1 := [(2, .ref (286 + x0.toNatClampNeg)), (0, .ref 0), (1, .int x0)]) (st1 := [.ref (286 + x0.toNatClampNeg), .ref 0]) 3 rfl rfl rfl ?_
    refine zCv (mj := 75) (k := 0) (n := 1) rfl rfl rfl rfl (by decide) rfl rfl rfl rfl rfl rfl ?_
    refine e_75 h2.1 (fun h3 => ?_) (fun h3 => ?_)
    · replace k := ite_t h3 k
      refine kV ?_
      refine zPs (pc1 := 18) (l1 := [(2, .ref (286 + x0.toNatClampNeg)), (0, .ref 0), (1, .int x0)]) (st1 := [.ref (286 + x0.toNatClampNeg)]) 1 rfl rfl rfl ?_
      refine zGetI (F := 331) (I := x0.toNatClampNeg) (v := l 331 x0.toNatClampNeg) rfl rfl (icD (j := 2) h2.1 rfl) rfl ?_
      refine zPs (pc1 := 24) (l1 := [(3, .int (l 331 x0.toNatClampNeg)), (2, .ref (286 + x0.toNatClampNeg)), (0, .ref 0), (1, .int x0)]) (st1 := [.int (l 331 x0.toNatClampNeg), .ref 0]) 3 rfl rfl rfl ?_
      refine zCv (mj := 77) (k := 0) (n := 1) rfl rfl rfl rfl (by decide) rfl rfl rfl rfl rfl rfl ?_
      refine e_77 hCI.1 (fun h4 => ?_) (fun h4 => ?_)
      · replace k := ite_t h4 k
        have h5 := rng_i32 (b := n) (by omega) h4.1 h4.2
        refine kI ?_
        refine zPs (pc1 := 32) (l1 := [(3, .int (l 331 x0.toNatClampNeg)), (2, .ref (286 + x0.toNatClampNeg)), (0, .ref 0), (1, .int x0)]) (st1 := [.ref 0, .ref 0]) 3 rfl rfl rfl ?_
        refine zGetR (r := 2) rfl rfl ⟨by decide, rfl, by decide, rfl⟩ ?_
        refine zPs (pc1 := 36) (l1 := [(3, .int (l 331 x0.toNatClampNeg)), (2, .ref (286 + x0.toNatClampNeg)), (0, .ref 0), (1, .int x0)]) (st1 := [.int (l 331 x0.toNatClampNeg), .ref 2, .ref 0]) 1 rfl rfl rfl ?_
        refine zAalE (n := (l 331 x0.toNatClampNeg).toNatClampNeg) h5.2 rfl rfl (irL (Nat.lt_of_lt_of_le h5.1 hl)) ?_
        refine zPs (pc1 := 38) (l1 := [(3, .int (l 331 x0.toNatClampNeg)), (2, .ref (286 + x0.toNatClampNeg)), (0, .ref 0), (1, .int x0)]) (st1 := [.int (4 : Int32), .ref (166 + 2 * ((l 331 x0.toNatClampNeg).toNatClampNeg)), .ref 0]) 1 rfl rfl rfl ?_
        refine zCv (mj := 91) (k := 0) (n := 2) rfl rfl rfl rfl (by decide) rfl rfl rfl rfl rfl rfl ?_
        refine e_91 hl hCI (Nat.lt_of_lt_of_le h5.1 hl) ?_
        refine kV ?_
        have hCI6 : CI (f_91 ((l 331 x0.toNatClampNeg).toNatClampNeg) (4 : Int32) l) n := ci_91 hCI
        replace k := bnd_i k
        generalize f_91 ((l 331 x0.toNatClampNeg).toNatClampNeg) (4 : Int32) l = l6 at k hCI6 ⊢
        refine zPs (pc1 := 42) (l1 := [(3, .int (l 331 x0.toNatClampNeg)), (2, .ref (286 + x0.toNatClampNeg)), (0, .ref 0), (1, .int x0)]) (st1 := [.ref 0]) 1 rfl rfl rfl ?_
        refine zCv (mj := 95) (k := 0) (n := 0) rfl rfl rfl rfl (by decide) rfl rfl rfl rfl rfl rfl ?_
        refine e_95 hl hCI6 ?_
        refine kV ?_
        have hCI7 : CI (f_95 n l6) n := ci_95 hCI6
        replace k := bnd_i k
        generalize f_95 n l6 = l7 at k hCI7 ⊢
        refine zPs (pc1 := 46) (l1 := [(3, .int (l 331 x0.toNatClampNeg)), (2, .ref (286 + x0.toNatClampNeg)), (0, .ref 0), (1, .int x0)]) (st1 := [.int (l 331 x0.toNatClampNeg)]) 1 rfl rfl rfl ?_
        refine zRi rfl rfl ?_
        exact k
      · replace k := ite_f h4 k
        refine kI ?_
        refine zPs (pc1 := 42) (l1 := [(3, .int (l 331 x0.toNatClampNeg)), (2, .ref (286 + x0.toNatClampNeg)), (0, .ref 0), (1, .int x0)]) (st1 := [.ref 0]) 2 rfl rfl rfl ?_
        refine zCv (mj := 95) (k := 0) (n := 0) rfl rfl rfl rfl (by decide) rfl rfl rfl rfl rfl rfl ?_
        refine e_95 hl hCI ?_
        refine kV ?_
        have hCI8 : CI (f_95 n l) n := ci_95 hCI
        replace k := bnd_i k
        generalize f_95 n l = l8 at k hCI8 ⊢
        refine zPs (pc1 := 46) (l1 := [(3, .int (l 331 x0.toNatClampNeg)), (2, .ref (286 + x0.toNatClampNeg)), (0, .ref 0), (1, .int x0)]) (st1 := [.int (l 331 x0.toNatClampNeg)]) 1 rfl rfl rfl ?_
        refine zRi rfl rfl ?_
        exact k
    · replace k := ite_f h3 k
      refine kX ?_
      exact k
  · replace k := ite_f h1 k
    refine kX ?_
    exact k
theorem x_52 {n : Nat} {x0 : Int32} {l : Sg} (x : Nat) (h : (f_52 n x0 l).1 = .inr x) : x < 3 := by
  unfold f_52 at h
  try simp only [bnd, bnd2] at h
  repeat' split at h
  all_goals first | (cases h; decide) | cases h
noncomputable def f_53 (n : Nat) (x0 : Int32) (x1 : Int32) (l : Sg) : PO := (if isA x0 then (if isN x1 then (if l 326 x0.toNatClampNeg = 2 then (if isCl n (l 331 x0.toNatClampNeg) then (bnd (f_101 ((l 331 x0.toNatClampNeg).toNatClampNeg) l) fun l8 => (bnd (f_18 ((l 331 x0.toNatClampNeg).toNatClampNeg) l8) fun l9 => (bnd (f_80 n ((l 331 x0.toNatClampNeg).toNatClampNeg) x1 l9) fun l10 => (bnd (f_95 n l10) fun l11 => (.inl (l 331 x0.toNatClampNeg), l11))))) else (bnd (f_95 n l) fun l12 => (.inl (l 331 x0.toNatClampNeg), l12))) else (.inr 2, l)) else (.inr 0, l)) else (.inr 0, l))
theorem e_53 {l : Sg} {P : MO → Sg → Prop} {n : Nat} {x0 : Int32} {x1 : Int32} (hl : n ≤ 60) (hCI : CI l n)  (k : Rk (Qp P) (f_53 n x0 x1 l)) : Es false 53 [.ref 0, .int x0, .int x1] l P := by
  unfold f_53 at k
  refine Es.of ?_
  refine zPs (pc1 := 2) (l1 := [(0, .ref 0), (1, .int x0), (2, .int x1)]) (st1 := [.int x0, .ref 0]) 2 rfl rfl rfl ?_
  refine zCv (mj := 70) (k := 0) (n := 1) rfl rfl rfl rfl (by decide) rfl rfl rfl rfl rfl rfl ?_
  refine e_70 (fun h1 => ?_) (fun h1 => ?_)
  · replace k := ite_t h1 k
    have h2 := rng_i32 (b := 6) (by decide) h1.1 h1.2
    refine kV ?_
    refine zPs (pc1 := 7) (l1 := [(0, .ref 0), (1, .int x0), (2, .int x1)]) (st1 := [.int x1, .ref 0]) 2 rfl rfl rfl ?_
    refine zCv (mj := 67) (k := 0) (n := 1) rfl rfl rfl rfl (by decide) rfl rfl rfl rfl rfl rfl ?_
    refine e_67 (fun h3 => ?_) (fun h3 => ?_)
    · replace k := ite_t h3 k
      have h4 := isN_lt h3
      refine kV ?_
      refine zPs (pc1 := 11) (l1 := [(0, .ref 0), (1, .int x0), (2, .int x1)]) (st1 := [.ref 0]) 1 rfl rfl rfl ?_
      refine zGetR (r := 3) rfl rfl ⟨by decide, rfl, by decide, rfl⟩ ?_
      refine zPs (pc1 := 15) (l1 := [(0, .ref 0), (1, .int x0), (2, .int x1)]) (st1 := [.int x0, .ref 3]) 1 rfl rfl rfl ?_
      refine zAalE (n := x0.toNatClampNeg) h2.2 rfl rfl (irD h2.1) ?_
      refine zPs (pc1 := 19) (l1 := [(3, .ref (286 + x0.toNatClampNeg)), (0, .ref 0), (1, .int x0), (2, .int x1)]) (st1 := [.ref (286 + x0.toNatClampNeg), .ref 0]) 3 rfl rfl rfl ?_
      refine zCv (mj := 75) (k := 0) (n := 1) rfl rfl rfl rfl (by decide) rfl rfl rfl rfl rfl rfl ?_
      refine e_75 h2.1 (fun h5 => ?_) (fun h5 => ?_)
      · replace k := ite_t h5 k
        refine kV ?_
        refine zPs (pc1 := 23) (l1 := [(3, .ref (286 + x0.toNatClampNeg)), (0, .ref 0), (1, .int x0), (2, .int x1)]) (st1 := [.ref (286 + x0.toNatClampNeg)]) 1 rfl rfl rfl ?_
        refine zGetI (F := 331) (I := x0.toNatClampNeg) (v := l 331 x0.toNatClampNeg) rfl rfl (icD (j := 2) h2.1 rfl) rfl ?_
        refine zPs (pc1 := 31) (l1 := [(4, .int (l 331 x0.toNatClampNeg)), (3, .ref (286 + x0.toNatClampNeg)), (0, .ref 0), (1, .int x0), (2, .int x1)]) (st1 := [.int (l 331 x0.toNatClampNeg), .ref 0]) 3 rfl rfl rfl ?_
        refine zCv (mj := 77) (k := 0) (n := 1) rfl rfl rfl rfl (by decide) rfl rfl rfl rfl rfl rfl ?_
        refine e_77 hCI.1 (fun h6 => ?_) (fun h6 => ?_)
        · replace k := ite_t h6 k
          have h7 := rng_i32 (b := n) (by omega) h6.1 h6.2
          refine kI ?_
          refine zPs (pc1 := 38) (l1 := [(4, .int (l 331 x0.toNatClampNeg)), (3, .ref (286 + x0.toNatClampNeg)), (0, .ref 0), (1, .int x0), (2, .int x1)]) (st1 := [.ref 0]) 2 rfl rfl rfl ?_
          refine zGetR (r := 2) rfl rfl ⟨by decide, rfl, by decide, rfl⟩ ?_
          refine zPs (pc1 := 43) (l1 := [(4, .int (l 331 x0.toNatClampNeg)), (3, .ref (286 + x0.toNatClampNeg)), (0, .ref 0), (1, .int x0), (2, .int x1)]) (st1 := [.int (l 331 x0.toNatClampNeg), .ref 2]) 1 rfl rfl rfl ?_
          refine zAalE (n := (l 331 x0.toNatClampNeg).toNatClampNeg) h7.2 rfl rfl (irL (Nat.lt_of_lt_of_le h7.1 hl)) ?_
          refine zPs (pc1 := 49) (l1 := [(5, .ref (166 + 2 * ((l 331 x0.toNatClampNeg).toNatClampNeg))), (4, .int (l 331 x0.toNatClampNeg)), (3, .ref (286 + x0.toNatClampNeg)), (0, .ref 0), (1, .int x0), (2, .int x1)]) (st1 := [.ref (166 + 2 * ((l 331 x0.toNatClampNeg).toNatClampNeg)), .ref 0]) 3 rfl rfl rfl ?_
          refine zCv (mj := 101) (k := 0) (n := 1) rfl rfl rfl rfl (by decide) rfl rfl rfl rfl rfl rfl ?_
          refine e_101 hl hCI (Nat.lt_of_lt_of_le h7.1 hl) ?_
          refine kV ?_
          have hCI8 : CI (f_101 ((l 331 x0.toNatClampNeg).toNatClampNeg) l) n := ci_101 hCI
          replace k := bnd_i k
          generalize f_101 ((l 331 x0.toNatClampNeg).toNatClampNeg) l = l8 at k hCI8 ⊢
          refine zPs (pc1 := 54) (l1 := [(5, .ref (166 + 2 * ((l 331 x0.toNatClampNeg).toNatClampNeg))), (4, .int (l 331 x0.toNatClampNeg)), (3, .ref (286 + x0.toNatClampNeg)), (0, .ref 0), (1, .int x0), (2, .int x1)]) (st1 := [.ref (166 + 2 * ((l 331 x0.toNatClampNeg).toNatClampNeg))]) 1 rfl rfl rfl ?_
          refine zCv (mj := 18) (k := (166 + 2 * ((l 331 x0.toNatClampNeg).toNatClampNeg))) (n := 0) rfl rfl rfl rfl (by have := (Nat.lt_of_lt_of_le h7.1 hl); omega) (tagK_line (Nat.lt_of_lt_of_le h7.1 hl)) rfl rfl rfl rfl rfl ?_
          refine e_18 (Nat.lt_of_lt_of_le h7.1 hl) ?_
          refine kV ?_
          have hCI9 : CI (f_18 ((l 331 x0.toNatClampNeg).toNatClampNeg) l8) n := ci_18 hCI8
          replace k := bnd_i k
          generalize f_18 ((l 331 x0.toNatClampNeg).toNatClampNeg) l8 = l9 at k hCI9 ⊢
          refine zPs (pc1 := 61) (l1 := [(5, .ref (166 + 2 * ((l 331 x0.toNatClampNeg).toNatClampNeg))), (4, .int (l 331 x0.toNatClampNeg)), (3, .ref (286 + x0.toNatClampNeg)), (0, .ref 0), (1, .int x0), (2, .int x1)]) (st1 := [.int x1, .ref (166 + 2 * ((l 331 x0.toNatClampNeg).toNatClampNeg)), .ref 0]) 3 rfl rfl rfl ?_
          refine zCv (mj := 80) (k := 0) (n := 2) rfl rfl rfl rfl (by decide) rfl rfl rfl rfl rfl rfl ?_
          refine e_80 hl hCI9 (Nat.lt_of_lt_of_le h7.1 hl) ?_
          refine kV ?_
          have hCI10 : CI (f_80 n ((l 331 x0.toNatClampNeg).toNatClampNeg) x1 l9) n := ci_80 hCI9
          replace k := bnd_i k
          generalize f_80 n ((l 331 x0.toNatClampNeg).toNatClampNeg) x1 l9 = l10 at k hCI10 ⊢
          refine zPs (pc1 := 65) (l1 := [(5, .ref (166 + 2 * ((l 331 x0.toNatClampNeg).toNatClampNeg))), (4, .int (l 331 x0.toNatClampNeg)), (3, .ref (286 + x0.toNatClampNeg)), (0, .ref 0), (1, .int x0), (2, .int x1)]) (st1 := [.ref 0]) 1 rfl rfl rfl ?_
          refine zCv (mj := 95) (k := 0) (n := 0) rfl rfl rfl rfl (by decide) rfl rfl rfl rfl rfl rfl ?_
          refine e_95 hl hCI10 ?_
          refine kV ?_
          have hCI11 : CI (f_95 n l10) n := ci_95 hCI10
          replace k := bnd_i k
          generalize f_95 n l10 = l11 at k hCI11 ⊢
          refine zPs (pc1 := 70) (l1 := [(5, .ref (166 + 2 * ((l 331 x0.toNatClampNeg).toNatClampNeg))), (4, .int (l 331 x0.toNatClampNeg)), (3, .ref (286 + x0.toNatClampNeg)), (0, .ref 0), (1, .int x0), (2, .int x1)]) (st1 := [.int (l 331 x0.toNatClampNeg)]) 1 rfl rfl rfl ?_
          refine zRi rfl rfl ?_
          exact k
        · replace k := ite_f h6 k
          refine kI ?_
          refine zPs (pc1 := 65) (l1 := [(4, .int (l 331 x0.toNatClampNeg)), (3, .ref (286 + x0.toNatClampNeg)), (0, .ref 0), (1, .int x0), (2, .int x1)]) (st1 := [.ref 0]) 2 rfl rfl rfl ?_
          refine zCv (mj := 95) (k := 0) (n := 0) rfl rfl rfl rfl (by decide) rfl rfl rfl rfl rfl rfl ?_
          refine e_95 hl hCI ?_
          refine kV ?_
          have hCI12 : CI (f_95 n l) n := ci_95 hCI
          replace k := bnd_i k
          generalize f_95 n l = l12 at k hCI12 ⊢
          refine zPs (pc1 := 70) (l1 := [(4, .int (l 331 x0.toNatClampNeg)), (3, .ref (286 + x0.toNatClampNeg)), (0, .ref 0), (1, .int x0), (2, .int x1)]) (st1 := [.int (l 331 x0.toNatClampNeg)]) 1 rfl rfl rfl ?_
          refine zRi rfl rfl ?_
          exact k
      · replace k := ite_f h5 k
        refine kX ?_
        exact k
    · replace k := ite_f h3 k
      refine kX ?_
      exact k
  · replace k := ite_f h1 k
    refine kX ?_
    exact k
theorem x_53 {n : Nat} {x0 x1 : Int32} {l : Sg} (x : Nat) (h : (f_53 n x0 x1 l).1 = .inr x) : x < 3 := by
  unfold f_53 at h
  try simp only [bnd, bnd2] at h
  repeat' split at h
  all_goals first | (cases h; decide) | cases h
noncomputable def g_54 (n : Nat) (u : Nat) : Nat → Nat → Sg → PO
  | 0, _, l => (.inl (l 292 0), l)
  | d + 1, j, l => (bnd (f_88 n (up2 l 292 0 (l 292 0 + (1 : Int32)))) fun l2 => (bnd (f_94 l2) fun l3 => (bnd (f_95 n l3) fun l4 => g_54 n u d (j + 1)  l4)))
theorem lg_54 {P : MO → Sg → Prop} {rc rs : Nat} {n : Nat} {u : Nat}(hl : n ≤ 60)  (hu : u ≤ 100) : ∀ (d j : Nat) (l : Sg), j + d = u → CI l n → Rk (Qp P) (g_54 n u d j  l) → Ws false 54 rc rs 32 [(2, .int (i32 j)), (0, .ref 0), (1, .int (i32 u))] [] l P := by
  intro d
  induction d with
  | zero =>
    intro j l hj hCI k
    obtain rfl : u = j := by omega
    rw [g_54] at k
    refine zPs (pc1 := 34) (l1 := [(2, .int (i32 u)), (0, .ref 0), (1, .int (i32 u))]) (st1 := [.int (i32 u), .int (i32 u)]) 2 rfl rfl rfl ?_
    refine nCge (a := u) (b := u) (by omega) (by omega) rfl (fun h1 => ?_) (fun h1 => absurd (Nat.le_refl _) h1)
    refine zPs (pc1 := 66) (l1 := [(2, .int (i32 u)), (0, .ref 0), (1, .int (i32 u))]) (st1 := [.ref 0]) 1 rfl rfl rfl ?_
    refine zGetI (F := 292) (I := 0) (v := l 292 0) rfl rfl icNow rfl ?_
    refine zRi rfl rfl ?_
    exact k
  | succ d ih =>
    intro j l hj hCI k
    have hjl : j < u := by omega
    rw [g_54] at k
    refine zPs (pc1 := 34) (l1 := [(2, .int (i32 j)), (0, .ref 0), (1, .int (i32 u))]) (st1 := [.int (i32 u), .int (i32 j)]) 2 rfl rfl rfl ?_
    refine nCge (a := j) (b := u) (by omega) (by omega) rfl (fun h1 => absurd h1 (by omega)) (fun h1 => ?_)
    refine zPs (pc1 := 39) (l1 := [(2, .int (i32 j)), (0, .ref 0), (1, .int (i32 u))]) (st1 := [.ref 0, .ref 0]) 2 rfl rfl rfl ?_
    refine zGetI (F := 292) (I := 0) (v := l 292 0) rfl rfl icNow rfl ?_
    refine zPs (pc1 := 44) (l1 := [(2, .int (i32 j)), (0, .ref 0), (1, .int (i32 u))]) (st1 := [.int (l 292 0 + (1 : Int32)), .ref 0]) 2 rfl rfl rfl ?_
    refine zPutI (F := 292) (I := 0) rfl rfl icNow rfl ?_
    refine zPs (pc1 := 48) (l1 := [(2, .int (i32 j)), (0, .ref 0), (1, .int (i32 u))]) (st1 := [.ref 0]) 1 rfl rfl rfl ?_
    refine zCv (mj := 88) (k := 0) (n := 0) rfl rfl rfl rfl (by decide) rfl rfl rfl rfl rfl rfl ?_
    refine e_88 hl (CI_now hCI) ?_
    refine kV ?_
    have hCI2 : CI (f_88 n (up2 l 292 0 (l 292 0 + (1 : Int32)))) n := ci_88 (CI_now hCI)
    replace k := bnd_i k
    generalize f_88 n (up2 l 292 0 (l 292 0 + (1 : Int32))) = l2 at k hCI2 ⊢
    refine zPs (pc1 := 52) (l1 := [(2, .int (i32 j)), (0, .ref 0), (1, .int (i32 u))]) (st1 := [.ref 0]) 1 rfl rfl rfl ?_
    refine zCv (mj := 94) (k := 0) (n := 0) rfl rfl rfl rfl (by decide) rfl rfl rfl rfl rfl rfl ?_
    refine e_94 hl hCI2 ?_
    refine kV ?_
    have hCI3 : CI (f_94 l2) n := ci_94 hCI2
    replace k := bnd_i k
    generalize f_94 l2 = l3 at k hCI3 ⊢
    refine zPs (pc1 := 56) (l1 := [(2, .int (i32 j)), (0, .ref 0), (1, .int (i32 u))]) (st1 := [.ref 0]) 1 rfl rfl rfl ?_
    refine zCv (mj := 95) (k := 0) (n := 0) rfl rfl rfl rfl (by decide) rfl rfl rfl rfl rfl rfl ?_
    refine e_95 hl hCI3 ?_
    refine kV ?_
    have hCI4 : CI (f_95 n l3) n := ci_95 hCI3
    replace k := bnd_i k
    generalize f_95 n l3 = l4 at k hCI4 ⊢
    refine zPs (pc1 := 62) (l1 := [(2, .int (i32 j + (1 : Int32))), (0, .ref 0), (1, .int (i32 u))]) (st1 := []) 1 rfl rfl rfl ?_
    refine zTo (ml' := [(2, .int (i32 (j + 1))), (0, .ref 0), (1, .int (i32 u))]) (st' := []) (by rw [show (i32 j + (1 : Int32)) = i32 (j + 1) from i32_add j 1]) rfl ?_
    refine zPs (pc1 := 32) (l1 := [(2, .int (i32 (j + 1))), (0, .ref 0), (1, .int (i32 u))]) (st1 := []) 1 rfl rfl rfl ?_
    refine zMl (ml' := [(2, .int (i32 (j + 1))), (0, .ref 0), (1, .int (i32 u))]) ⟨rfl, rfl, rfl, trivial⟩ rfl rfl ?_
    exact ih (j + 1) l4 (by omega) hCI4 k
noncomputable def f_54 (n : Nat) (x0 : Int32) (l : Sg) : PO := (if (1 : Int32) ≤ x0 ∧ x0 ≤ (100 : Int32) then (if (l 292 0 + x0) ≤ (20000 : Int32) then g_54 n x0.toNatClampNeg x0.toNatClampNeg 0 l else (.inr 2, l)) else (.inr 1, l))
theorem e_54 {l : Sg} {P : MO → Sg → Prop} {n : Nat} {x0 : Int32} (hl : n ≤ 60) (hCI : CI l n)  (k : Rk (Qp P) (f_54 n x0 l)) : Es false 54 [.ref 0, .int x0] l P := by
  unfold f_54 at k
  refine Es.of ?_
  refine zPs (pc1 := 5) (l1 := [(0, .ref 0), (1, .int x0)]) (st1 := [.int (100 : Int32), .int (1 : Int32), .int x0, .ref 0]) 4 rfl rfl rfl ?_
  refine zCv (mj := 71) (k := 0) (n := 3) rfl rfl rfl rfl (by decide) rfl rfl rfl rfl rfl rfl ?_
  refine e_71 (fun h1 => ?_) (fun h1 => ?_)
  · replace k := ite_t h1 k
    have h2 := rng_le (b := 100) (by decide) (Int32.le_trans (by decide) h1.1) h1.2
    refine kV ?_
    refine zPs (pc1 := 9) (l1 := [(0, .ref 0), (1, .int x0)]) (st1 := [.ref 0]) 1 rfl rfl rfl ?_
    refine zGetI (F := 292) (I := 0) (v := l 292 0) rfl rfl icNow rfl ?_
    refine zPs (pc1 := 17) (l1 := [(0, .ref 0), (1, .int x0)]) (st1 := [.int (20000 : Int32), .int (l 292 0 + x0)]) 3 rfl rfl rfl ?_
    refine zCle rfl (fun h3 => ?_) (fun h3 => ?_)
    · replace k := ite_t h3 k
      refine zPs (pc1 := 32) (l1 := [(2, .int (0 : Int32)), (0, .ref 0), (1, .int x0)]) (st1 := []) 2 rfl rfl rfl ?_
      refine zMl (ml' := [(2, .int (i32 0)), (0, .ref 0), (1, .int (i32 x0.toNatClampNeg))]) ⟨rfl, rfl, (congrArg (fun v => some (Value.int v)) h2.2.symm), trivial⟩ rfl rfl ?_
      exact lg_54 hl (Nat.le_of_lt_succ h2.1) x0.toNatClampNeg 0 l (by omega) hCI k
    · replace k := ite_f h3 k
      refine zT rfl rfl rfl ?_
      exact k
  · replace k := ite_f h1 k
    refine kX ?_
    exact k
theorem xg_54 {n u : Nat} : ∀ d j l x, (g_54 n u d j l).1 = .inr x → False
  | 0, j, l, x, h => by rw [g_54] at h; cases h
  | d + 1, j, l, x, h => by
    rw [g_54] at h
    simp only [bnd] at h
    exact xg_54 d _ _ x h
theorem x_54 {n : Nat} {x0 : Int32} {l : Sg} (x : Nat) (h : (f_54 n x0 l).1 = .inr x) : x < 3 := by
  unfold f_54 at h
  repeat' split at h
  all_goals first | (cases h; decide) | cases h | exact absurd h (xg_54 _ _ _ _)
