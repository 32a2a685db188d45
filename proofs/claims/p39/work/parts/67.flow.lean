/-! ===== the class: how calls go on ===== -/
theorem isT_s1 {x : Int32} (h : isT x) : (x + 1).toNatClampNeg < 31 ∧ i32 (x + 1).toNatClampNeg = x + 1 := by
  by_cases q : x = -1
  · subst q; exact ⟨by decide, by decide⟩
  · have h2 := isN_lt (isT_lt h q)
    rw [← i32_s1 h2.2, i32_cl (by omega)]
    exact ⟨by omega, rfl⟩
theorem pop_rng {x : Int32} (h1 : ¬ x ≤ 0) (h2 : x ≤ 4) : (x - 1).toNatClampNeg < 4 ∧ i32 (x - 1).toNatClampNeg = x - 1 := by
  obtain ⟨m, hm, rfl⟩ := i32_of (n := 4) (by decide) (Int32.le_of_lt (Int32.not_le.mp h1)) h2
  have h3 : 0 < m := (i32_lt (a := 0) (by decide) (by omega)).mp (Int32.not_le.mp h1)
  have e : i32 m - 1 = i32 (m - 1) := i32_sub (a := m) (b := 1) h3
  rw [e, i32_cl (by omega)]
  exact ⟨by omega, rfl⟩
noncomputable def f_22 (c : Nat) (x : Int32) (l : Sg) : Int32 × Sg := (if l 318 c < 0 then ((0 : Int32), l) else (if l 318 c < (4 : Int32) then ((1 : Int32), (up2 (up2 l 319 (4 * c + ((l 318 c).toNatClampNeg)) x) 318 c (l 318 c + (1 : Int32)))) else ((0 : Int32), l)))
theorem e_22 {l : Sg} {P : MO → Sg → Prop} {c : Nat} {x : Int32} (hc : c < 60) (k : Rk (Qb P) (f_22 c x l)) : Es false 22 [.ref (166 + 2 * c), .int x] l P := by
  unfold f_22 at k
  refine Es.of ?_
  refine zPs (pc1 := 1) (l1 := [(0, .ref (166 + 2 * c)), (1, .int x)]) (st1 := [.ref (166 + 2 * c)]) 1 rfl rfl rfl ?_
  refine zGetI (F := 318) (I := c) (v := l 318 c) rfl rfl (icL (j := 17) hc rfl) rfl ?_
  refine zIflt rfl (fun h1 => ?_) (fun h1 => ?_)
  · replace k := ite_t h1 k
    refine zPs (pc1 := 16) (l1 := [(0, .ref (166 + 2 * c)), (1, .int x)]) (st1 := [.int (0 : Int32)]) 1 rfl rfl rfl ?_
    refine zRz rfl rfl (Or.inl rfl) ?_
    exact k
  · replace k := ite_f h1 k
    refine zPs (pc1 := 8) (l1 := [(0, .ref (166 + 2 * c)), (1, .int x)]) (st1 := [.ref (166 + 2 * c)]) 1 rfl rfl rfl ?_
    refine zGetI (F := 318) (I := c) (v := l 318 c) rfl rfl (icL (j := 17) hc rfl) rfl ?_
    refine zPs (pc1 := 12) (l1 := [(0, .ref (166 + 2 * c)), (1, .int x)]) (st1 := [.int (4 : Int32), .int (l 318 c)]) 1 rfl rfl rfl ?_
    refine zClt rfl (fun h2 => ?_) (fun h2 => ?_)
    · replace k := ite_t h2 k
      have h3 := rng_i32 (x := l 318 c) (b := 4) (by decide) (Int32.not_lt.mp h1) h2
      refine zPs (pc1 := 18) (l1 := [(0, .ref (166 + 2 * c)), (1, .int x)]) (st1 := [.ref (166 + 2 * c)]) 1 rfl rfl rfl ?_
      refine zGetR (r := (167 + 2 * c)) rfl rfl (irBk hc) ?_
      refine zPs (pc1 := 22) (l1 := [(0, .ref (166 + 2 * c)), (1, .int x)]) (st1 := [.ref (166 + 2 * c), .ref (167 + 2 * c)]) 1 rfl rfl rfl ?_
      refine zGetI (F := 318) (I := c) (v := l 318 c) rfl rfl (icL (j := 17) hc rfl) rfl ?_
      refine zPs (pc1 := 26) (l1 := [(0, .ref (166 + 2 * c)), (1, .int x)]) (st1 := [.int x, .int (l 318 c), .ref (167 + 2 * c)]) 1 rfl rfl rfl ?_
      refine zIasE (n := (l 318 c).toNatClampNeg) (F := 319) (I := 4 * c + ((l 318 c).toNatClampNeg)) h3.2 rfl (icBk hc h3.1) ?_
      refine zPs (pc1 := 29) (l1 := [(0, .ref (166 + 2 * c)), (1, .int x)]) (st1 := [.ref (166 + 2 * c), .ref (166 + 2 * c)]) 2 rfl rfl rfl ?_
      refine zGetI (F := 318) (I := c) (v := l 318 c) rfl rfl (icL (j := 17) hc rfl) rfl ?_
      refine zPs (pc1 := 34) (l1 := [(0, .ref (166 + 2 * c)), (1, .int x)]) (st1 := [.int (l 318 c + (1 : Int32)), .ref (166 + 2 * c)]) 2 rfl rfl rfl ?_
      refine zPutI (F := 318) (I := c) rfl rfl (icL (j := 17) hc rfl) rfl ?_
      refine zPs (pc1 := 38) (l1 := [(0, .ref (166 + 2 * c)), (1, .int x)]) (st1 := [.int (1 : Int32)]) 1 rfl rfl rfl ?_
      refine zRz rfl rfl (Or.inr rfl) ?_
      exact k
    · replace k := ite_f h2 k
      refine zPs (pc1 := 16) (l1 := [(0, .ref (166 + 2 * c)), (1, .int x)]) (st1 := [.int (0 : Int32)]) 1 rfl rfl rfl ?_
      refine zRz rfl rfl (Or.inl rfl) ?_
      exact k
theorem ci_22 {l : Sg} {n : Nat} {c : Nat} {x : Int32} (h : CI l n) : CI (f_22 c x l).2 n := by
  unfold f_22
  (repeat' first | with_reducible exact h | with_reducible refine CI_ite ?_ ?_ | with_reducible refine CI_ite2 ?_ ?_ | with_reducible refine CI_ite3 ?_ ?_ | with_reducible refine CI_bnd ?_ | with_reducible refine CI_bnd' ?_ | with_reducible refine CI_bnd3 ?_ | with_reducible refine CI_bnd2 ?_ | with_reducible refine CI_bnd2' ?_ | with_reducible refine CI_bnd23 ?_ | with_reducible refine CI_up ?_ ?_ | with_reducible refine ci_1 ?_ | with_reducible refine ci_2 ?_ | with_reducible refine ci_17 ?_ | with_reducible refine ci_18 ?_ | with_reducible refine ci_19 ?_ | with_reducible refine ci_20 ?_ | with_reducible refine ci_25 ?_ | with_reducible refine ci_g_181 _ _ _ ?_ | with_reducible refine ci_181 ?_ | with_reducible refine ci_4 ?_ | with_reducible refine ci_g_6 _ _ _ ?_ | with_reducible refine ci_6 ?_ | with_reducible refine ci_g_5 _ _ _ _ (by omega) (by omega) ?_ | with_reducible refine ci_5 ?_) <;> rfl
noncomputable def f_23 (c : Nat) (l : Sg) : Int32 × Sg := (if l 318 c ≤ 0 then ((-1 : Int32), l) else (if l 318 c ≤ (4 : Int32) then (l 319 (4 * c + ((l 318 c - (1 : Int32)).toNatClampNeg)), (up2 l 318 c (l 318 c - (1 : Int32)))) else ((-1 : Int32), l)))
theorem e_23 {l : Sg} {P : MO → Sg → Prop} {c : Nat} (hc : c < 60) (k : Rk (Qb P) (f_23 c l)) : Es false 23 [.ref (166 + 2 * c)] l P := by
  unfold f_23 at k
  refine Es.of ?_
  refine zPs (pc1 := 1) (l1 := [(0, .ref (166 + 2 * c))]) (st1 := [.ref (166 + 2 * c)]) 1 rfl rfl rfl ?_
  refine zGetI (F := 318) (I := c) (v := l 318 c) rfl rfl (icL (j := 17) hc rfl) rfl ?_
  refine zIfle rfl (fun h1 => ?_) (fun h1 => ?_)
  · replace k := ite_t h1 k
    refine zPs (pc1 := 16) (l1 := [(0, .ref (166 + 2 * c))]) (st1 := [.int (-1 : Int32)]) 1 rfl rfl rfl ?_
    refine zRi rfl rfl ?_
    exact k
  · replace k := ite_f h1 k
    refine zPs (pc1 := 8) (l1 := [(0, .ref (166 + 2 * c))]) (st1 := [.ref (166 + 2 * c)]) 1 rfl rfl rfl ?_
    refine zGetI (F := 318) (I := c) (v := l 318 c) rfl rfl (icL (j := 17) hc rfl) rfl ?_
    refine zPs (pc1 := 12) (l1 := [(0, .ref (166 + 2 * c))]) (st1 := [.int (4 : Int32), .int (l 318 c)]) 1 rfl rfl rfl ?_
    refine zCle rfl (fun h2 => ?_) (fun h2 => ?_)
    · replace k := ite_t h2 k
      have h3 := pop_rng h1 h2
      refine zPs (pc1 := 19) (l1 := [(0, .ref (166 + 2 * c))]) (st1 := [.ref (166 + 2 * c), .ref (166 + 2 * c)]) 2 rfl rfl rfl ?_
      refine zGetI (F := 318) (I := c) (v := l 318 c) rfl rfl (icL (j := 17) hc rfl) rfl ?_
      refine zPs (pc1 := 24) (l1 := [(0, .ref (166 + 2 * c))]) (st1 := [.int (l 318 c - (1 : Int32)), .ref (166 + 2 * c)]) 2 rfl rfl rfl ?_
      refine zPutI (F := 318) (I := c) rfl rfl (icL (j := 17) hc rfl) rfl ?_
      refine zPs (pc1 := 28) (l1 := [(0, .ref (166 + 2 * c))]) (st1 := [.ref (166 + 2 * c)]) 1 rfl rfl rfl ?_
      refine zGetR (r := (167 + 2 * c)) rfl rfl (irBk hc) ?_
      refine zPs (pc1 := 32) (l1 := [(0, .ref (166 + 2 * c))]) (st1 := [.ref (166 + 2 * c), .ref (167 + 2 * c)]) 1 rfl rfl rfl ?_
      refine zGetI (F := 318) (I := c) (v := (l 318 c - (1 : Int32))) rfl rfl (icL (j := 17) hc rfl) (by simp [up2]) ?_
      refine zIalE (n := (l 318 c - (1 : Int32)).toNatClampNeg) (v := l 319 (4 * c + ((l 318 c - (1 : Int32)).toNatClampNeg))) h3.2 rfl (icBk hc h3.1) rfl ?_
      refine zRi rfl rfl ?_
      exact k
    · replace k := ite_f h2 k
      refine zPs (pc1 := 16) (l1 := [(0, .ref (166 + 2 * c))]) (st1 := [.int (-1 : Int32)]) 1 rfl rfl rfl ?_
      refine zRi rfl rfl ?_
      exact k
theorem ci_23 {l : Sg} {n : Nat} {c : Nat} (h : CI l n) : CI (f_23 c l).2 n := by
  unfold f_23
  (repeat' first | with_reducible exact h | with_reducible refine CI_ite ?_ ?_ | with_reducible refine CI_ite2 ?_ ?_ | with_reducible refine CI_ite3 ?_ ?_ | with_reducible refine CI_bnd ?_ | with_reducible refine CI_bnd' ?_ | with_reducible refine CI_bnd3 ?_ | with_reducible refine CI_bnd2 ?_ | with_reducible refine CI_bnd2' ?_ | with_reducible refine CI_bnd23 ?_ | with_reducible refine CI_up ?_ ?_ | with_reducible refine ci_1 ?_ | with_reducible refine ci_2 ?_ | with_reducible refine ci_17 ?_ | with_reducible refine ci_18 ?_ | with_reducible refine ci_19 ?_ | with_reducible refine ci_20 ?_ | with_reducible refine ci_25 ?_ | with_reducible refine ci_g_181 _ _ _ ?_ | with_reducible refine ci_181 ?_ | with_reducible refine ci_4 ?_ | with_reducible refine ci_g_6 _ _ _ ?_ | with_reducible refine ci_6 ?_ | with_reducible refine ci_g_5 _ _ _ _ (by omega) (by omega) ?_ | with_reducible refine ci_5 ?_ | with_reducible refine ci_22 ?_) <;> rfl
noncomputable def f_92 (c : Nat) (s : Int32) (l : Sg) : Sg := (if (f_13 c l) = 0 then (if (f_13 c (up2 l 311 c s)) = 0 then (up2 l 311 c s) else (bnd (f_4 (l 410 c) (l 320 c) (l 321 c) (l 322 c) (up2 l 311 c s)) fun l3 => l3)) else (bnd (f_4 (l 410 c) (-1 : Int32) (0 : Int32) (l 292 0) l) fun l4 => (if (f_13 c (up2 l4 311 c s)) = 0 then (up2 l4 311 c s) else (bnd (f_4 (l4 410 c) (l4 320 c) (l4 321 c) (l4 322 c) (up2 l4 311 c s)) fun l6 => l6))))
theorem e_92 {l : Sg} {P : MO → Sg → Prop} {n : Nat} {c : Nat} {s : Int32} (hl : n ≤ 60) (hCI : CI l n) (hc : c < 60) (k : Rk (Qm P) (f_92 c s l)) : Es false 92 [.ref 0, .ref (166 + 2 * c), .int s] l P := by
  unfold f_92 at k
  refine Es.of ?_
  refine zPs (pc1 := 1) (l1 := [(0, .ref 0), (1, .ref (166 + 2 * c)), (2, .int s)]) (st1 := [.ref (166 + 2 * c)]) 1 rfl rfl rfl ?_
  refine zCv (mj := 13) (k := (166 + 2 * c)) (n := 0) rfl rfl rfl rfl (by have := hc; omega) (tagK_line hc) rfl rfl rfl rfl rfl ?_
  refine e_13 hc ?_
  refine kI ?_
  refine zIfe rfl (fun h1 => ?_) (fun h1 => ?_)
  · replace k := ite_t h1 k
    refine zPs (pc1 := 26) (l1 := [(0, .ref 0), (1, .ref (166 + 2 * c)), (2, .int s)]) (st1 := [.int s, .ref (166 + 2 * c)]) 2 rfl rfl rfl ?_
    refine zPutI (F := 311) (I := c) rfl rfl (icL (j := 1) hc rfl) rfl ?_
    refine zPs (pc1 := 30) (l1 := [(0, .ref 0), (1, .ref (166 + 2 * c)), (2, .int s)]) (st1 := [.ref (166 + 2 * c)]) 1 rfl rfl rfl ?_
    refine zCv (mj := 13) (k := (166 + 2 * c)) (n := 0) rfl rfl rfl rfl (by have := hc; omega) (tagK_line hc) rfl rfl rfl rfl rfl ?_
    refine e_13 hc ?_
    refine kI ?_
    refine zIfe rfl (fun h2 => ?_) (fun h2 => ?_)
    · replace k := ite_t h2 k
      refine zRv rfl rfl ?_
      exact k
    · replace k := ite_f h2 k
      refine zPs (pc1 := 37) (l1 := [(0, .ref 0), (1, .ref (166 + 2 * c)), (2, .int s)]) (st1 := [.ref 0]) 1 rfl rfl rfl ?_
      refine zGetR (r := 8) rfl rfl ⟨by decide, rfl, by decide, rfl⟩ ?_
      refine zPs (pc1 := 41) (l1 := [(0, .ref 0), (1, .ref (166 + 2 * c)), (2, .int s)]) (st1 := [.ref (166 + 2 * c), .ref 8]) 1 rfl rfl rfl ?_
      refine zGetI (F := 410) (I := c) (v := l 410 c) rfl rfl (icL (j := 0) hc rfl) rfl ?_
      refine zPs (pc1 := 45) (l1 := [(0, .ref 0), (1, .ref (166 + 2 * c)), (2, .int s)]) (st1 := [.ref (166 + 2 * c), .int (l 410 c), .ref 8]) 1 rfl rfl rfl ?_
      refine zGetI (F := 320) (I := c) (v := l 320 c) rfl rfl (icL (j := 11) hc rfl) rfl ?_
      refine zPs (pc1 := 49) (l1 := [(0, .ref 0), (1, .ref (166 + 2 * c)), (2, .int s)]) (st1 := [.ref (166 + 2 * c), .int (l 320 c), .int (l 410 c), .ref 8]) 1 rfl rfl rfl ?_
      refine zGetI (F := 321) (I := c) (v := l 321 c) rfl rfl (icL (j := 12) hc rfl) rfl ?_
      refine zPs (pc1 := 53) (l1 := [(0, .ref 0), (1, .ref (166 + 2 * c)), (2, .int s)]) (st1 := [.ref (166 + 2 * c), .int (l 321 c), .int (l 320 c), .int (l 410 c), .ref 8]) 1 rfl rfl rfl ?_
      refine zGetI (F := 322) (I := c) (v := l 322 c) rfl rfl (icL (j := 13) hc rfl) rfl ?_
      refine zCv (mj := 4) (k := 8) (n := 4) rfl rfl rfl rfl (by decide) rfl rfl rfl rfl rfl rfl ?_
      refine e_4 hl (CI_up hCI rfl) ?_
      refine kV ?_
      have hCI3 : CI (f_4 (l 410 c) (l 320 c) (l 321 c) (l 322 c) (up2 l 311 c s)) n := ci_4 (CI_up hCI rfl)
      replace k := bnd_i k
      generalize f_4 (l 410 c) (l 320 c) (l 321 c) (l 322 c) (up2 l 311 c s) = l3 at k hCI3 ⊢
      refine zRv rfl rfl ?_
      exact k
  · replace k := ite_f h1 k
    refine zPs (pc1 := 8) (l1 := [(0, .ref 0), (1, .ref (166 + 2 * c)), (2, .int s)]) (st1 := [.ref 0]) 1 rfl rfl rfl ?_
    refine zGetR (r := 8) rfl rfl ⟨by decide, rfl, by decide, rfl⟩ ?_
    refine zPs (pc1 := 12) (l1 := [(0, .ref 0), (1, .ref (166 + 2 * c)), (2, .int s)]) (st1 := [.ref (166 + 2 * c), .ref 8]) 1 rfl rfl rfl ?_
    refine zGetI (F := 410) (I := c) (v := l 410 c) rfl rfl (icL (j := 0) hc rfl) rfl ?_
    refine zPs (pc1 := 18) (l1 := [(0, .ref 0), (1, .ref (166 + 2 * c)), (2, .int s)]) (st1 := [.ref 0, .int (0 : Int32), .int (-1 : Int32), .int (l 410 c), .ref 8]) 3 rfl rfl rfl ?_
    refine zGetI (F := 292) (I := 0) (v := l 292 0) rfl rfl icNow rfl ?_
    refine zCv (mj := 4) (k := 8) (n := 4) rfl rfl rfl rfl (by decide) rfl rfl rfl rfl rfl rfl ?_
    refine e_4 hl hCI ?_
    refine kV ?_
    have hCI4 : CI (f_4 (l 410 c) (-1 : Int32) (0 : Int32) (l 292 0) l) n := ci_4 hCI
    replace k := bnd_i k
    generalize f_4 (l 410 c) (-1 : Int32) (0 : Int32) (l 292 0) l = l4 at k hCI4 ⊢
    refine zPs (pc1 := 26) (l1 := [(0, .ref 0), (1, .ref (166 + 2 * c)), (2, .int s)]) (st1 := [.int s, .ref (166 + 2 * c)]) 2 rfl rfl rfl ?_
    refine zPutI (F := 311) (I := c) rfl rfl (icL (j := 1) hc rfl) rfl ?_
    refine zPs (pc1 := 30) (l1 := [(0, .ref 0), (1, .ref (166 + 2 * c)), (2, .int s)]) (st1 := [.ref (166 + 2 * c)]) 1 rfl rfl rfl ?_
    refine zCv (mj := 13) (k := (166 + 2 * c)) (n := 0) rfl rfl rfl rfl (by have := hc; omega) (tagK_line hc) rfl rfl rfl rfl rfl ?_
    refine e_13 hc ?_
    refine kI ?_
    refine zIfe rfl (fun h5 => ?_) (fun h5 => ?_)
    · replace k := ite_t h5 k
      refine zRv rfl rfl ?_
      exact k
    · replace k := ite_f h5 k
      refine zPs (pc1 := 37) (l1 := [(0, .ref 0), (1, .ref (166 + 2 * c)), (2, .int s)]) (st1 := [.ref 0]) 1 rfl rfl rfl ?_
      refine zGetR (r := 8) rfl rfl ⟨by decide, rfl, by decide, rfl⟩ ?_
      refine zPs (pc1 := 41) (l1 := [(0, .ref 0), (1, .ref (166 + 2 * c)), (2, .int s)]) (st1 := [.ref (166 + 2 * c), .ref 8]) 1 rfl rfl rfl ?_
      refine zGetI (F := 410) (I := c) (v := l4 410 c) rfl rfl (icL (j := 0) hc rfl) rfl ?_
      refine zPs (pc1 := 45) (l1 := [(0, .ref 0), (1, .ref (166 + 2 * c)), (2, .int s)]) (st1 := [.ref (166 + 2 * c), .int (l4 410 c), .ref 8]) 1 rfl rfl rfl ?_
      refine zGetI (F := 320) (I := c) (v := l4 320 c) rfl rfl (icL (j := 11) hc rfl) rfl ?_
      refine zPs (pc1 := 49) (l1 := [(0, .ref 0), (1, .ref (166 + 2 * c)), (2, .int s)]) (st1 := [.ref (166 + 2 * c), .int (l4 320 c), .int (l4 410 c), .ref 8]) 1 rfl rfl rfl ?_
      refine zGetI (F := 321) (I := c) (v := l4 321 c) rfl rfl (icL (j := 12) hc rfl) rfl ?_
      refine zPs (pc1 := 53) (l1 := [(0, .ref 0), (1, .ref (166 + 2 * c)), (2, .int s)]) (st1 := [.ref (166 + 2 * c), .int (l4 321 c), .int (l4 320 c), .int (l4 410 c), .ref 8]) 1 rfl rfl rfl ?_
      refine zGetI (F := 322) (I := c) (v := l4 322 c) rfl rfl (icL (j := 13) hc rfl) rfl ?_
      refine zCv (mj := 4) (k := 8) (n := 4) rfl rfl rfl rfl (by decide) rfl rfl rfl rfl rfl rfl ?_
      refine e_4 hl (CI_up hCI4 rfl) ?_
      refine kV ?_
      have hCI6 : CI (f_4 (l4 410 c) (l4 320 c) (l4 321 c) (l4 322 c) (up2 l4 311 c s)) n := ci_4 (CI_up hCI4 rfl)
      replace k := bnd_i k
      generalize f_4 (l4 410 c) (l4 320 c) (l4 321 c) (l4 322 c) (up2 l4 311 c s) = l6 at k hCI6 ⊢
      refine zRv rfl rfl ?_
      exact k
theorem ci_92 {l : Sg} {n : Nat} {c : Nat} {s : Int32} (h : CI l n) : CI (f_92 c s l) n := by
  unfold f_92
  (repeat' first | with_reducible exact h | with_reducible refine CI_ite ?_ ?_ | with_reducible refine CI_ite2 ?_ ?_ | with_reducible refine CI_ite3 ?_ ?_ | with_reducible refine CI_bnd ?_ | with_reducible refine CI_bnd' ?_ | with_reducible refine CI_bnd3 ?_ | with_reducible refine CI_bnd2 ?_ | with_reducible refine CI_bnd2' ?_ | with_reducible refine CI_bnd23 ?_ | with_reducible refine CI_up ?_ ?_ | with_reducible refine ci_1 ?_ | with_reducible refine ci_2 ?_ | with_reducible refine ci_17 ?_ | with_reducible refine ci_18 ?_ | with_reducible refine ci_19 ?_ | with_reducible refine ci_20 ?_ | with_reducible refine ci_25 ?_ | with_reducible refine ci_g_181 _ _ _ ?_ | with_reducible refine ci_181 ?_ | with_reducible refine ci_4 ?_ | with_reducible refine ci_g_6 _ _ _ ?_ | with_reducible refine ci_6 ?_ | with_reducible refine ci_g_5 _ _ _ _ (by omega) (by omega) ?_ | with_reducible refine ci_5 ?_ | with_reducible refine ci_22 ?_ | with_reducible refine ci_23 ?_) <;> rfl
noncomputable def f_101 (c : Nat) (l : Sg) : Sg := (if isA (l 325 c) then (if ¬ l 311 c = (2 : Int32) then (bnd (f_1 ((l 325 c).toNatClampNeg) (l 292 0) (up2 l 325 c (-1 : Int32))) fun l4 => l4) else (if l 329 ((l 325 c).toNatClampNeg) ≤ 0 then (bnd (f_1 ((l 325 c).toNatClampNeg) (l 292 0) (up2 l 325 c (-1 : Int32))) fun l6 => l6) else (bnd (f_2 ((l 325 c).toNatClampNeg) (l 292 0) (up2 l 325 c (-1 : Int32))) fun l7 => l7))) else l)
theorem e_101 {l : Sg} {P : MO → Sg → Prop} {n : Nat} {c : Nat} (hl : n ≤ 60) (hCI : CI l n) (hc : c < 60) (k : Rk (Qm P) (f_101 c l)) : Es false 101 [.ref 0, .ref (166 + 2 * c)] l P := by
  unfold f_101 at k
  refine Es.of ?_
  refine zPs (pc1 := 1) (l1 := [(0, .ref 0), (1, .ref (166 + 2 * c))]) (st1 := [.ref (166 + 2 * c)]) 1 rfl rfl rfl ?_
  refine zGetI (F := 325) (I := c) (v := l 325 c) rfl rfl (icL (j := 4) hc rfl) rfl ?_
  refine zCs (mj := 78) rfl rfl rfl rfl rfl rfl rfl rfl ?_
  refine e_78 (fun h1 => ?_) (fun h1 => ?_)
  · replace k := ite_t h1 k
    have h2 := rng_i32 (b := 6) (by decide) h1.1 h1.2
    refine kI ?_
    refine zPs (pc1 := 12) (l1 := [(0, .ref 0), (1, .ref (166 + 2 * c))]) (st1 := [.ref 0]) 2 rfl rfl rfl ?_
    refine zGetR (r := 3) rfl rfl ⟨by decide, rfl, by decide, rfl⟩ ?_
    refine zPs (pc1 := 16) (l1 := [(0, .ref 0), (1, .ref (166 + 2 * c))]) (st1 := [.ref (166 + 2 * c), .ref 3]) 1 rfl rfl rfl ?_
    refine zGetI (F := 325) (I := c) (v := l 325 c) rfl rfl (icL (j := 4) hc rfl) rfl ?_
    refine zAalE (n := (l 325 c).toNatClampNeg) h2.2 rfl rfl (irD h2.1) ?_
    refine zPs (pc1 := 23) (l1 := [(2, .ref (286 + ((l 325 c).toNatClampNeg))), (0, .ref 0), (1, .ref (166 + 2 * c))]) (st1 := [.int (-1 : Int32), .ref (166 + 2 * c)]) 3 rfl rfl rfl ?_
    refine zPutI (F := 325) (I := c) rfl rfl (icL (j := 4) hc rfl) rfl ?_
    refine zPs (pc1 := 27) (l1 := [(2, .ref (286 + ((l 325 c).toNatClampNeg))), (0, .ref 0), (1, .ref (166 + 2 * c))]) (st1 := [.ref (166 + 2 * c)]) 1 rfl rfl rfl ?_
    refine zGetI (F := 311) (I := c) (v := l 311 c) rfl rfl (icL (j := 1) hc rfl) rfl ?_
    refine zPs (pc1 := 31) (l1 := [(2, .ref (286 + ((l 325 c).toNatClampNeg))), (0, .ref 0), (1, .ref (166 + 2 * c))]) (st1 := [.int (2 : Int32), .int (l 311 c)]) 1 rfl rfl rfl ?_
    refine zCn rfl (fun h3 => ?_) (fun h3 => ?_)
    · replace k := ite_t h3 k
      refine zPs (pc1 := 54) (l1 := [(2, .ref (286 + ((l 325 c).toNatClampNeg))), (0, .ref 0), (1, .ref (166 + 2 * c))]) (st1 := [.ref 0, .ref (286 + ((l 325 c).toNatClampNeg))]) 2 rfl rfl rfl ?_
      refine zGetI (F := 292) (I := 0) (v := l 292 0) rfl rfl icNow rfl ?_
      refine zCv (mj := 1) (k := (286 + ((l 325 c).toNatClampNeg))) (n := 1) rfl rfl rfl rfl (by have := h2.1; omega) (tagK_desk h2.1) rfl rfl rfl rfl rfl ?_
      refine e_1 h2.1 ?_
      refine kV ?_
      have hCI4 : CI (f_1 ((l 325 c).toNatClampNeg) (l 292 0) (up2 l 325 c (-1 : Int32))) n := ci_1 (CI_up hCI rfl)
      replace k := bnd_i k
      generalize f_1 ((l 325 c).toNatClampNeg) (l 292 0) (up2 l 325 c (-1 : Int32)) = l4 at k hCI4 ⊢
      refine zRv rfl rfl ?_
      exact k
    · replace k := ite_f (not_not_intro h3) k
      refine zPs (pc1 := 35) (l1 := [(2, .ref (286 + ((l 325 c).toNatClampNeg))), (0, .ref 0), (1, .ref (166 + 2 * c))]) (st1 := [.ref (286 + ((l 325 c).toNatClampNeg))]) 1 rfl rfl rfl ?_
      refine zGetI (F := 329) (I := (l 325 c).toNatClampNeg) (v := l 329 ((l 325 c).toNatClampNeg)) rfl rfl (icD (j := 3) h2.1 rfl) rfl ?_
      refine zIfle rfl (fun h5 => ?_) (fun h5 => ?_)
      · replace k := ite_t h5 k
        refine zPs (pc1 := 54) (l1 := [(2, .ref (286 + ((l 325 c).toNatClampNeg))), (0, .ref 0), (1, .ref (166 + 2 * c))]) (st1 := [.ref 0, .ref (286 + ((l 325 c).toNatClampNeg))]) 2 rfl rfl rfl ?_
        refine zGetI (F := 292) (I := 0) (v := l 292 0) rfl rfl icNow rfl ?_
        refine zCv (mj := 1) (k := (286 + ((l 325 c).toNatClampNeg))) (n := 1) rfl rfl rfl rfl (by have := h2.1; omega) (tagK_desk h2.1) rfl rfl rfl rfl rfl ?_
        refine e_1 h2.1 ?_
        refine kV ?_
        have hCI6 : CI (f_1 ((l 325 c).toNatClampNeg) (l 292 0) (up2 l 325 c (-1 : Int32))) n := ci_1 (CI_up hCI rfl)
        replace k := bnd_i k
        generalize f_1 ((l 325 c).toNatClampNeg) (l 292 0) (up2 l 325 c (-1 : Int32)) = l6 at k hCI6 ⊢
        refine zRv rfl rfl ?_
        exact k
      · replace k := ite_f h5 k
        refine zPs (pc1 := 43) (l1 := [(2, .ref (286 + ((l 325 c).toNatClampNeg))), (0, .ref 0), (1, .ref (166 + 2 * c))]) (st1 := [.ref 0, .ref (286 + ((l 325 c).toNatClampNeg))]) 2 rfl rfl rfl ?_
        refine zGetI (F := 292) (I := 0) (v := l 292 0) rfl rfl icNow rfl ?_
        refine zCv (mj := 2) (k := (286 + ((l 325 c).toNatClampNeg))) (n := 1) rfl rfl rfl rfl (by have := h2.1; omega) (tagK_desk h2.1) rfl rfl rfl rfl rfl ?_
        refine e_2 h2.1 ?_
        refine kV ?_
        have hCI7 : CI (f_2 ((l 325 c).toNatClampNeg) (l 292 0) (up2 l 325 c (-1 : Int32))) n := ci_2 (CI_up hCI rfl)
        replace k := bnd_i k
        generalize f_2 ((l 325 c).toNatClampNeg) (l 292 0) (up2 l 325 c (-1 : Int32)) = l7 at k hCI7 ⊢
        refine zPs (pc1 := 60) (l1 := [(2, .ref (286 + ((l 325 c).toNatClampNeg))), (0, .ref 0), (1, .ref (166 + 2 * c))]) (st1 := []) 1 rfl rfl rfl ?_
        refine zRv rfl rfl ?_
        exact k
  · replace k := ite_f h1 k
    refine kI ?_
    refine zPs (pc1 := 10) (l1 := [(0, .ref 0), (1, .ref (166 + 2 * c))]) (st1 := []) 1 rfl rfl rfl ?_
    refine zRv rfl rfl ?_
    exact k
theorem ci_101 {l : Sg} {n : Nat} {c : Nat} (h : CI l n) : CI (f_101 c l) n := by
  unfold f_101
  (repeat' first | with_reducible exact h | with_reducible refine CI_ite ?_ ?_ | with_reducible refine CI_ite2 ?_ ?_ | with_reducible refine CI_ite3 ?_ ?_ | with_reducible refine CI_bnd ?_ | with_reducible refine CI_bnd' ?_ | with_reducible refine CI_bnd3 ?_ | with_reducible refine CI_bnd2 ?_ | with_reducible refine CI_bnd2' ?_ | with_reducible refine CI_bnd23 ?_ | with_reducible refine CI_up ?_ ?_ | with_reducible refine ci_1 ?_ | with_reducible refine ci_2 ?_ | with_reducible refine ci_17 ?_ | with_reducible refine ci_18 ?_ | with_reducible refine ci_19 ?_ | with_reducible refine ci_20 ?_ | with_reducible refine ci_25 ?_ | with_reducible refine ci_g_181 _ _ _ ?_ | with_reducible refine ci_181 ?_ | with_reducible refine ci_4 ?_ | with_reducible refine ci_g_6 _ _ _ ?_ | with_reducible refine ci_6 ?_ | with_reducible refine ci_g_5 _ _ _ _ (by omega) (by omega) ?_ | with_reducible refine ci_5 ?_ | with_reducible refine ci_22 ?_ | with_reducible refine ci_23 ?_ | with_reducible refine ci_92 ?_) <;> rfl
noncomputable def f_91 (c : Nat) (w : Int32) (l : Sg) : Sg := (bnd (f_101 c l) fun l1 => (bnd (f_92 c (5 : Int32) l1) fun l2 => (up2 (up2 l2 312 c w) 313 c (-1 : Int32))))
theorem e_91 {l : Sg} {P : MO → Sg → Prop} {n : Nat} {c : Nat} {w : Int32} (hl : n ≤ 60) (hCI : CI l n) (hc : c < 60) (k : Rk (Qm P) (f_91 c w l)) : Es false 91 [.ref 0, .ref (166 + 2 * c), .int w] l P := by
  unfold f_91 at k
  refine Es.of ?_
  refine zPs (pc1 := 2) (l1 := [(0, .ref 0), (1, .ref (166 + 2 * c)), (2, .int w)]) (st1 := [.ref (166 + 2 * c), .ref 0]) 2 rfl rfl rfl ?_
  refine zCv (mj := 101) (k := 0) (n := 1) rfl rfl rfl rfl (by decide) rfl rfl rfl rfl rfl rfl ?_
  refine e_101 hl hCI hc ?_
  refine kV ?_
  have hCI1 : CI (f_101 c l) n := ci_101 hCI
  replace k := bnd_i k
  generalize f_101 c l = l1 at k hCI1 ⊢
  refine zPs (pc1 := 8) (l1 := [(0, .ref 0), (1, .ref (166 + 2 * c)), (2, .int w)]) (st1 := [.int (5 : Int32), .ref (166 + 2 * c), .ref 0]) 3 rfl rfl rfl ?_
  refine zCv (mj := 92) (k := 0) (n := 2) rfl rfl rfl rfl (by decide) rfl rfl rfl rfl rfl rfl ?_
  refine e_92 hl hCI1 hc ?_
  refine kV ?_
  have hCI2 : CI (f_92 c (5 : Int32) l1) n := ci_92 hCI1
  replace k := bnd_i k
  generalize f_92 c (5 : Int32) l1 = l2 at k hCI2 ⊢
  refine zPs (pc1 := 13) (l1 := [(0, .ref 0), (1, .ref (166 + 2 * c)), (2, .int w)]) (st1 := [.int w, .ref (166 + 2 * c)]) 2 rfl rfl rfl ?_
  refine zPutI (F := 312) (I := c) rfl rfl (icL (j := 2) hc rfl) rfl ?_
  refine zPs (pc1 := 18) (l1 := [(0, .ref 0), (1, .ref (166 + 2 * c)), (2, .int w)]) (st1 := [.int (-1 : Int32), .ref (166 + 2 * c)]) 2 rfl rfl rfl ?_
  refine zPutI (F := 313) (I := c) rfl rfl (icL (j := 3) hc rfl) rfl ?_
  refine zRv rfl rfl ?_
  exact k
theorem ci_91 {l : Sg} {n : Nat} {c : Nat} {w : Int32} (h : CI l n) : CI (f_91 c w l) n := by
  unfold f_91
  (repeat' first | with_reducible exact h | with_reducible refine CI_ite ?_ ?_ | with_reducible refine CI_ite2 ?_ ?_ | with_reducible refine CI_ite3 ?_ ?_ | with_reducible refine CI_bnd ?_ | with_reducible refine CI_bnd' ?_ | with_reducible refine CI_bnd3 ?_ | with_reducible refine CI_bnd2 ?_ | with_reducible refine CI_bnd2' ?_ | with_reducible refine CI_bnd23 ?_ | with_reducible refine CI_up ?_ ?_ | with_reducible refine ci_1 ?_ | with_reducible refine ci_2 ?_ | with_reducible refine ci_17 ?_ | with_reducible refine ci_18 ?_ | with_reducible refine ci_19 ?_ | with_reducible refine ci_20 ?_ | with_reducible refine ci_25 ?_ | with_reducible refine ci_g_181 _ _ _ ?_ | with_reducible refine ci_181 ?_ | with_reducible refine ci_4 ?_ | with_reducible refine ci_g_6 _ _ _ ?_ | with_reducible refine ci_6 ?_ | with_reducible refine ci_g_5 _ _ _ _ (by omega) (by omega) ?_ | with_reducible refine ci_5 ?_ | with_reducible refine ci_22 ?_ | with_reducible refine ci_23 ?_ | with_reducible refine ci_92 ?_ | with_reducible refine ci_101 ?_) <;> rfl
noncomputable def f_93 (fr : Int32) (to : Int32) (l : Sg) : Sg := (if isN fr then (if to = (-1 : Int32) then (up2 l 309 (31 * fr.toNatClampNeg + 30) (l 309 (31 * fr.toNatClampNeg + 30) + (1 : Int32))) else (if isN to then (up2 l 309 (31 * fr.toNatClampNeg + to.toNatClampNeg) (l 309 (31 * fr.toNatClampNeg + to.toNatClampNeg) + (1 : Int32))) else l)) else l)
theorem e_93 {l : Sg} {P : MO → Sg → Prop} {n : Nat} {fr : Int32} {to : Int32} (hl : n ≤ 60) (hCI : CI l n)  (k : Rk (Qm P) (f_93 fr to l)) : Es false 93 [.ref 0, .int fr, .int to] l P := by
  unfold f_93 at k
  refine Es.of ?_
  refine zPs (pc1 := 1) (l1 := [(0, .ref 0), (1, .int fr), (2, .int to)]) (st1 := [.int fr]) 1 rfl rfl rfl ?_
  refine zCs (mj := 76) rfl rfl rfl rfl rfl rfl rfl rfl ?_
  refine e_76 (fun h1 => ?_) (fun h1 => ?_)
  · replace k := ite_t h1 k
    have h2 := isN_lt h1
    refine kI ?_
    refine zPs (pc1 := 9) (l1 := [(0, .ref 0), (1, .int fr), (2, .int to)]) (st1 := [.int (-1 : Int32), .int to]) 3 rfl rfl rfl ?_
    refine zCe rfl (fun h3 => ?_) (fun h3 => ?_)
    · replace k := ite_t h3 k
      subst h3
      refine zPs (pc1 := 30) (l1 := [(3, .int (1 : Int32)), (0, .ref 0), (1, .int fr), (2, .int (-1 : Int32))]) (st1 := [.ref 0]) 6 rfl rfl rfl ?_
      refine zGetR (r := 14) rfl rfl ⟨by decide, rfl, by decide, rfl⟩ ?_
      refine zPs (pc1 := 34) (l1 := [(3, .int (1 : Int32)), (0, .ref 0), (1, .int fr), (2, .int (-1 : Int32))]) (st1 := [.int fr, .ref 14]) 1 rfl rfl rfl ?_
      refine zAalE (n := fr.toNatClampNeg) h2.2 rfl rfl (irW h2.1) ?_
      refine zPs (pc1 := 38) (l1 := [(3, .int (1 : Int32)), (0, .ref 0), (1, .int fr), (2, .int (-1 : Int32))]) (st1 := [.int ((-1 : Int32) + (1 : Int32)), .ref (15 + fr.toNatClampNeg)]) 3 rfl rfl rfl ?_
      refine zTo (ml' := [(3, .int (1 : Int32)), (0, .ref 0), (1, .int fr), (2, .int (-1 : Int32))]) (st' := [.int (0 : Int32), .ref (15 + fr.toNatClampNeg)]) rfl (by rw [show ((-1 : Int32) + (1 : Int32)) = (0 : Int32) from by decide]) ?_
      refine zPs (pc1 := 39) (l1 := [(3, .int (1 : Int32)), (0, .ref 0), (1, .int fr), (2, .int (-1 : Int32))]) (st1 := [.int (0 : Int32), .ref (15 + fr.toNatClampNeg), .int (0 : Int32), .ref (15 + fr.toNatClampNeg)]) 1 rfl rfl rfl ?_
      refine zIal (n := 0) (v := l 309 (31 * fr.toNatClampNeg + 30)) rfl (icW0 h2.1) rfl ?_
      refine zPs (pc1 := 42) (l1 := [(3, .int (1 : Int32)), (0, .ref 0), (1, .int fr), (2, .int (-1 : Int32))]) (st1 := [.int (l 309 (31 * fr.toNatClampNeg + 30) + (1 : Int32)), .int (0 : Int32), .ref (15 + fr.toNatClampNeg)]) 2 rfl rfl rfl ?_
      refine zIas (n := 0) (F := 309) (I := 31 * fr.toNatClampNeg + 30) rfl (icW0 h2.1) ?_
      refine zRv rfl rfl ?_
      exact k
    · replace k := ite_f h3 k
      refine zPs (pc1 := 13) (l1 := [(0, .ref 0), (1, .int fr), (2, .int to)]) (st1 := [.int to]) 1 rfl rfl rfl ?_
      refine zCs (mj := 76) rfl rfl rfl rfl rfl rfl rfl rfl ?_
      refine e_76 (fun h4 => ?_) (fun h4 => ?_)
      · replace k := ite_t h4 k
        have h5 := isN_lt h4
        refine kI ?_
        refine zPs (pc1 := 30) (l1 := [(3, .int (1 : Int32)), (0, .ref 0), (1, .int fr), (2, .int to)]) (st1 := [.ref 0]) 7 rfl rfl rfl ?_
        refine zGetR (r := 14) rfl rfl ⟨by decide, rfl, by decide, rfl⟩ ?_
        refine zPs (pc1 := 34) (l1 := [(3, .int (1 : Int32)), (0, .ref 0), (1, .int fr), (2, .int to)]) (st1 := [.int fr, .ref 14]) 1 rfl rfl rfl ?_
        refine zAalE (n := fr.toNatClampNeg) h2.2 rfl rfl (irW h2.1) ?_
        refine zPs (pc1 := 39) (l1 := [(3, .int (1 : Int32)), (0, .ref 0), (1, .int fr), (2, .int to)]) (st1 := [.int (to + (1 : Int32)), .ref (15 + fr.toNatClampNeg), .int (to + (1 : Int32)), .ref (15 + fr.toNatClampNeg)]) 4 rfl rfl rfl ?_
        refine zIalE (n := to.toNatClampNeg + 1) (v := l 309 (31 * fr.toNatClampNeg + to.toNatClampNeg)) (i32_s1 h5.2) rfl (icW1 h2.1 h5.1) rfl ?_
        refine zPs (pc1 := 42) (l1 := [(3, .int (1 : Int32)), (0, .ref 0), (1, .int fr), (2, .int to)]) (st1 := [.int (l 309 (31 * fr.toNatClampNeg + to.toNatClampNeg) + (1 : Int32)), .int (to + (1 : Int32)), .ref (15 + fr.toNatClampNeg)]) 2 rfl rfl rfl ?_
        refine zIasE (n := to.toNatClampNeg + 1) (F := 309) (I := 31 * fr.toNatClampNeg + to.toNatClampNeg) (i32_s1 h5.2) rfl (icW1 h2.1 h5.1) ?_
        refine zRv rfl rfl ?_
        exact k
      · replace k := ite_f h4 k
        refine kI ?_
        refine zPs (pc1 := 43) (l1 := [(3, .int (0 : Int32)), (0, .ref 0), (1, .int fr), (2, .int to)]) (st1 := []) 5 rfl rfl rfl ?_
        refine zRv rfl rfl ?_
        exact k
  · replace k := ite_f h1 k
    refine kI ?_
    refine zPs (pc1 := 43) (l1 := [(3, .int (0 : Int32)), (0, .ref 0), (1, .int fr), (2, .int to)]) (st1 := []) 5 rfl rfl rfl ?_
    refine zRv rfl rfl ?_
    exact k
theorem ci_93 {l : Sg} {n : Nat} {fr : Int32} {to : Int32} (h : CI l n) : CI (f_93 fr to l) n := by
  unfold f_93
  (repeat' first | with_reducible exact h | with_reducible refine CI_ite ?_ ?_ | with_reducible refine CI_ite2 ?_ ?_ | with_reducible refine CI_ite3 ?_ ?_ | with_reducible refine CI_bnd ?_ | with_reducible refine CI_bnd' ?_ | with_reducible refine CI_bnd3 ?_ | with_reducible refine CI_bnd2 ?_ | with_reducible refine CI_bnd2' ?_ | with_reducible refine CI_bnd23 ?_ | with_reducible refine CI_up ?_ ?_ | with_reducible refine ci_1 ?_ | with_reducible refine ci_2 ?_ | with_reducible refine ci_17 ?_ | with_reducible refine ci_18 ?_ | with_reducible refine ci_19 ?_ | with_reducible refine ci_20 ?_ | with_reducible refine ci_25 ?_ | with_reducible refine ci_g_181 _ _ _ ?_ | with_reducible refine ci_181 ?_ | with_reducible refine ci_4 ?_ | with_reducible refine ci_g_6 _ _ _ ?_ | with_reducible refine ci_6 ?_ | with_reducible refine ci_g_5 _ _ _ _ (by omega) (by omega) ?_ | with_reducible refine ci_5 ?_ | with_reducible refine ci_22 ?_ | with_reducible refine ci_23 ?_ | with_reducible refine ci_92 ?_ | with_reducible refine ci_101 ?_ | with_reducible refine ci_91 ?_) <;> rfl
noncomputable def f_90 (c : Nat) (l : Sg) : Sg := (if (l 323 c + (1 : Int32)) < (2 : Int32) then (bnd (f_101 c (up2 l 323 c (l 323 c + (1 : Int32)))) fun l2 => (bnd (f_92 c (3 : Int32) (up2 l2 324 c (l2 292 0 + (30 : Int32)))) fun l3 => l3)) else (bnd (f_91 c (5 : Int32) (up2 l 323 c (l 323 c + (1 : Int32)))) fun l4 => l4))
theorem e_90 {l : Sg} {P : MO → Sg → Prop} {n : Nat} {c : Nat} (hl : n ≤ 60) (hCI : CI l n) (hc : c < 60) (k : Rk (Qm P) (f_90 c l)) : Es false 90 [.ref 0, .ref (166 + 2 * c)] l P := by
  unfold f_90 at k
  refine Es.of ?_
  refine zPs (pc1 := 2) (l1 := [(0, .ref 0), (1, .ref (166 + 2 * c))]) (st1 := [.ref (166 + 2 * c), .ref (166 + 2 * c)]) 2 rfl rfl rfl ?_
  refine zGetI (F := 323) (I := c) (v := l 323 c) rfl rfl (icL (j := 15) hc rfl) rfl ?_
  refine zPs (pc1 := 7) (l1 := [(0, .ref 0), (1, .ref (166 + 2 * c))]) (st1 := [.int (l 323 c + (1 : Int32)), .ref (166 + 2 * c)]) 2 rfl rfl rfl ?_
  refine zPutI (F := 323) (I := c) rfl rfl (icL (j := 15) hc rfl) rfl ?_
  refine zPs (pc1 := 11) (l1 := [(0, .ref 0), (1, .ref (166 + 2 * c))]) (st1 := [.ref (166 + 2 * c)]) 1 rfl rfl rfl ?_
  refine zGetI (F := 323) (I := c) (v := (l 323 c + (1 : Int32))) rfl rfl (icL (j := 15) hc rfl) (by simp [up2]) ?_
  refine zPs (pc1 := 15) (l1 := [(0, .ref 0), (1, .ref (166 + 2 * c))]) (st1 := [.int (2 : Int32), .int (l 323 c + (1 : Int32))]) 1 rfl rfl rfl ?_
  refine zClt rfl (fun h1 => ?_) (fun h1 => ?_)
  · replace k := ite_t h1 k
    refine zPs (pc1 := 27) (l1 := [(0, .ref 0), (1, .ref (166 + 2 * c))]) (st1 := [.ref (166 + 2 * c), .ref 0]) 2 rfl rfl rfl ?_
    refine zCv (mj := 101) (k := 0) (n := 1) rfl rfl rfl rfl (by decide) rfl rfl rfl rfl rfl rfl ?_
    refine e_101 hl (CI_up hCI rfl) hc ?_
    refine kV ?_
    have hCI2 : CI (f_101 c (up2 l 323 c (l 323 c + (1 : Int32)))) n := ci_101 (CI_up hCI rfl)
    replace k := bnd_i k
    generalize f_101 c (up2 l 323 c (l 323 c + (1 : Int32))) = l2 at k hCI2 ⊢
    refine zPs (pc1 := 32) (l1 := [(0, .ref 0), (1, .ref (166 + 2 * c))]) (st1 := [.ref 0, .ref (166 + 2 * c)]) 2 rfl rfl rfl ?_
    refine zGetI (F := 292) (I := 0) (v := l2 292 0) rfl rfl icNow rfl ?_
    refine zPs (pc1 := 38) (l1 := [(0, .ref 0), (1, .ref (166 + 2 * c))]) (st1 := [.int (l2 292 0 + (30 : Int32)), .ref (166 + 2 * c)]) 2 rfl rfl rfl ?_
    refine zPutI (F := 324) (I := c) rfl rfl (icL (j := 14) hc rfl) rfl ?_
    refine zPs (pc1 := 44) (l1 := [(0, .ref 0), (1, .ref (166 + 2 * c))]) (st1 := [.int (3 : Int32), .ref (166 + 2 * c), .ref 0]) 3 rfl rfl rfl ?_
    refine zCv (mj := 92) (k := 0) (n := 2) rfl rfl rfl rfl (by decide) rfl rfl rfl rfl rfl rfl ?_
    refine e_92 hl (CI_up hCI2 rfl) hc ?_
    refine kV ?_
    have hCI3 : CI (f_92 c (3 : Int32) (up2 l2 324 c (l2 292 0 + (30 : Int32)))) n := ci_92 (CI_up hCI2 rfl)
    replace k := bnd_i k
    generalize f_92 c (3 : Int32) (up2 l2 324 c (l2 292 0 + (30 : Int32))) = l3 at k hCI3 ⊢
    refine zRv rfl rfl ?_
    exact k
  · replace k := ite_f h1 k
    refine zPs (pc1 := 21) (l1 := [(0, .ref 0), (1, .ref (166 + 2 * c))]) (st1 := [.int (5 : Int32), .ref (166 + 2 * c), .ref 0]) 3 rfl rfl rfl ?_
    refine zCv (mj := 91) (k := 0) (n := 2) rfl rfl rfl rfl (by decide) rfl rfl rfl rfl rfl rfl ?_
    refine e_91 hl (CI_up hCI rfl) hc ?_
    refine kV ?_
    have hCI4 : CI (f_91 c (5 : Int32) (up2 l 323 c (l 323 c + (1 : Int32)))) n := ci_91 (CI_up hCI rfl)
    replace k := bnd_i k
    generalize f_91 c (5 : Int32) (up2 l 323 c (l 323 c + (1 : Int32))) = l4 at k hCI4 ⊢
    refine zRv rfl rfl ?_
    exact k
theorem ci_90 {l : Sg} {n : Nat} {c : Nat} (h : CI l n) : CI (f_90 c l) n := by
  unfold f_90
  (repeat' first | with_reducible exact h | with_reducible refine CI_ite ?_ ?_ | with_reducible refine CI_ite2 ?_ ?_ | with_reducible refine CI_ite3 ?_ ?_ | with_reducible refine CI_bnd ?_ | with_reducible refine CI_bnd' ?_ | with_reducible refine CI_bnd3 ?_ | with_reducible refine CI_bnd2 ?_ | with_reducible refine CI_bnd2' ?_ | with_reducible refine CI_bnd23 ?_ | with_reducible refine CI_up ?_ ?_ | with_reducible refine ci_1 ?_ | with_reducible refine ci_2 ?_ | with_reducible refine ci_17 ?_ | with_reducible refine ci_18 ?_ | with_reducible refine ci_19 ?_ | with_reducible refine ci_20 ?_ | with_reducible refine ci_25 ?_ | with_reducible refine ci_g_181 _ _ _ ?_ | with_reducible refine ci_181 ?_ | with_reducible refine ci_4 ?_ | with_reducible refine ci_g_6 _ _ _ ?_ | with_reducible refine ci_6 ?_ | with_reducible refine ci_g_5 _ _ _ _ (by omega) (by omega) ?_ | with_reducible refine ci_5 ?_ | with_reducible refine ci_22 ?_ | with_reducible refine ci_23 ?_ | with_reducible refine ci_92 ?_ | with_reducible refine ci_101 ?_ | with_reducible refine ci_91 ?_ | with_reducible refine ci_93 ?_) <;> rfl
noncomputable def f_100 (a : Int32) (c : Nat) (l : Sg) : Sg := (if ¬ l 311 c = (1 : Int32) then (bnd (f_92 c (4 : Int32) l) fun l2 => (up2 (up2 (up2 (up2 (up2 l2 325 c a) 313 c (-1 : Int32)) 316 c (l2 292 0 + (6 : Int32))) 331 a.toNatClampNeg (l2 410 c)) 326 a.toNatClampNeg (3 : Int32))) else (bnd (f_92 c (2 : Int32) l) fun l3 => (up2 (up2 (up2 (up2 (up2 l3 325 c a) 313 c (-1 : Int32)) 316 c (l3 292 0 + (6 : Int32))) 331 a.toNatClampNeg (l3 410 c)) 326 a.toNatClampNeg (2 : Int32))))
theorem e_100 {l : Sg} {P : MO → Sg → Prop} {n : Nat} {a : Int32} {c : Nat} (hl : n ≤ 60) (hCI : CI l n) (hc : c < 60) (hka : a.toNatClampNeg < 6 ∧ i32 a.toNatClampNeg = a) (k : Rk (Qm P) (f_100 a c l)) : Es false 100 [.ref 0, .int a, .ref (166 + 2 * c)] l P := by
  unfold f_100 at k
  refine Es.of ?_
  refine zPs (pc1 := 1) (l1 := [(0, .ref 0), (1, .int a), (2, .ref (166 + 2 * c))]) (st1 := [.ref (166 + 2 * c)]) 1 rfl rfl rfl ?_
  refine zGetI (F := 311) (I := c) (v := l 311 c) rfl rfl (icL (j := 1) hc rfl) rfl ?_
  refine zPs (pc1 := 5) (l1 := [(0, .ref 0), (1, .int a), (2, .ref (166 + 2 * c))]) (st1 := [.int (1 : Int32), .int (l 311 c)]) 1 rfl rfl rfl ?_
  refine zCn rfl (fun h1 => ?_) (fun h1 => ?_)
  · replace k := ite_t h1 k
    refine zPs (pc1 := 25) (l1 := [(3, .int (0 : Int32)), (0, .ref 0), (1, .int a), (2, .ref (166 + 2 * c))]) (st1 := [.int (4 : Int32), .ref (166 + 2 * c), .ref 0]) 7 rfl rfl rfl ?_
    refine zCv (mj := 92) (k := 0) (n := 2) rfl rfl rfl rfl (by decide) rfl rfl rfl rfl rfl rfl ?_
    refine e_92 hl hCI hc ?_
    refine kV ?_
    have hCI2 : CI (f_92 c (4 : Int32) l) n := ci_92 hCI
    replace k := bnd_i k
    generalize f_92 c (4 : Int32) l = l2 at k hCI2 ⊢
    refine zPs (pc1 := 30) (l1 := [(3, .int (0 : Int32)), (0, .ref 0), (1, .int a), (2, .ref (166 + 2 * c))]) (st1 := [.int a, .ref (166 + 2 * c)]) 2 rfl rfl rfl ?_
    refine zPutI (F := 325) (I := c) rfl rfl (icL (j := 4) hc rfl) rfl ?_
    refine zPs (pc1 := 35) (l1 := [(3, .int (0 : Int32)), (0, .ref 0), (1, .int a), (2, .ref (166 + 2 * c))]) (st1 := [.int (-1 : Int32), .ref (166 + 2 * c)]) 2 rfl rfl rfl ?_
    refine zPutI (F := 313) (I := c) rfl rfl (icL (j := 3) hc rfl) rfl ?_
    refine zPs (pc1 := 40) (l1 := [(3, .int (0 : Int32)), (0, .ref 0), (1, .int a), (2, .ref (166 + 2 * c))]) (st1 := [.ref 0, .ref (166 + 2 * c)]) 2 rfl rfl rfl ?_
    refine zGetI (F := 292) (I := 0) (v := l2 292 0) rfl rfl icNow rfl ?_
    refine zPs (pc1 := 46) (l1 := [(3, .int (0 : Int32)), (0, .ref 0), (1, .int a), (2, .ref (166 + 2 * c))]) (st1 := [.int (l2 292 0 + (6 : Int32)), .ref (166 + 2 * c)]) 2 rfl rfl rfl ?_
    refine zPutI (F := 316) (I := c) rfl rfl (icL (j := 5) hc rfl) rfl ?_
    refine zPs (pc1 := 50) (l1 := [(3, .int (0 : Int32)), (0, .ref 0), (1, .int a), (2, .ref (166 + 2 * c))]) (st1 := [.ref 0]) 1 rfl rfl rfl ?_
    refine zGetR (r := 3) rfl rfl ⟨by decide, rfl, by decide, rfl⟩ ?_
    refine zPs (pc1 := 54) (l1 := [(3, .int (0 : Int32)), (0, .ref 0), (1, .int a), (2, .ref (166 + 2 * c))]) (st1 := [.int a, .ref 3]) 1 rfl rfl rfl ?_
    refine zAalE (n := a.toNatClampNeg) hka.2 rfl rfl (irD hka.1) ?_
    refine zPs (pc1 := 60) (l1 := [(4, .ref (286 + a.toNatClampNeg)), (3, .int (0 : Int32)), (0, .ref 0), (1, .int a), (2, .ref (166 + 2 * c))]) (st1 := [.ref (166 + 2 * c), .ref (286 + a.toNatClampNeg)]) 3 rfl rfl rfl ?_
    refine zGetI (F := 410) (I := c) (v := l2 410 c) rfl rfl (icL (j := 0) hc rfl) rfl ?_
    refine zPutI (F := 331) (I := a.toNatClampNeg) rfl rfl (icD (j := 2) hka.1 rfl) rfl ?_
    refine zPs (pc1 := 77) (l1 := [(4, .ref (286 + a.toNatClampNeg)), (3, .int (0 : Int32)), (0, .ref 0), (1, .int a), (2, .ref (166 + 2 * c))]) (st1 := [.int (3 : Int32), .ref (286 + a.toNatClampNeg)]) 4 rfl rfl rfl ?_
    refine zPutI (F := 326) (I := a.toNatClampNeg) rfl rfl (icD (j := 0) hka.1 rfl) rfl ?_
    refine zRv rfl rfl ?_
    exact k
  · replace k := ite_f (not_not_intro h1) k
    refine zPs (pc1 := 25) (l1 := [(3, .int (1 : Int32)), (0, .ref 0), (1, .int a), (2, .ref (166 + 2 * c))]) (st1 := [.int (2 : Int32), .ref (166 + 2 * c), .ref 0]) 9 rfl rfl rfl ?_
    refine zCv (mj := 92) (k := 0) (n := 2) rfl rfl rfl rfl (by decide) rfl rfl rfl rfl rfl rfl ?_
    refine e_92 hl hCI hc ?_
    refine kV ?_
    have hCI3 : CI (f_92 c (2 : Int32) l) n := ci_92 hCI
    replace k := bnd_i k
    generalize f_92 c (2 : Int32) l = l3 at k hCI3 ⊢
    refine zPs (pc1 := 30) (l1 := [(3, .int (1 : Int32)), (0, .ref 0), (1, .int a), (2, .ref (166 + 2 * c))]) (st1 := [.int a, .ref (166 + 2 * c)]) 2 rfl rfl rfl ?_
    refine zPutI (F := 325) (I := c) rfl rfl (icL (j := 4) hc rfl) rfl ?_
    refine zPs (pc1 := 35) (l1 := [(3, .int (1 : Int32)), (0, .ref 0), (1, .int a), (2, .ref (166 + 2 * c))]) (st1 := [.int (-1 : Int32), .ref (166 + 2 * c)]) 2 rfl rfl rfl ?_
    refine zPutI (F := 313) (I := c) rfl rfl (icL (j := 3) hc rfl) rfl ?_
    refine zPs (pc1 := 40) (l1 := [(3, .int (1 : Int32)), (0, .ref 0), (1, .int a), (2, .ref (166 + 2 * c))]) (st1 := [.ref 0, .ref (166 + 2 * c)]) 2 rfl rfl rfl ?_
    refine zGetI (F := 292) (I := 0) (v := l3 292 0) rfl rfl icNow rfl ?_
    refine zPs (pc1 := 46) (l1 := [(3, .int (1 : Int32)), (0, .ref 0), (1, .int a), (2, .ref (166 + 2 * c))]) (st1 := [.int (l3 292 0 + (6 : Int32)), .ref (166 + 2 * c)]) 2 rfl rfl rfl ?_
    refine zPutI (F := 316) (I := c) rfl rfl (icL (j := 5) hc rfl) rfl ?_
    refine zPs (pc1 := 50) (l1 := [(3, .int (1 : Int32)), (0, .ref 0), (1, .int a), (2, .ref (166 + 2 * c))]) (st1 := [.ref 0]) 1 rfl rfl rfl ?_
    refine zGetR (r := 3) rfl rfl ⟨by decide, rfl, by decide, rfl⟩ ?_
    refine zPs (pc1 := 54) (l1 := [(3, .int (1 : Int32)), (0, .ref 0), (1, .int a), (2, .ref (166 + 2 * c))]) (st1 := [.int a, .ref 3]) 1 rfl rfl rfl ?_
    refine zAalE (n := a.toNatClampNeg) hka.2 rfl rfl (irD hka.1) ?_
    refine zPs (pc1 := 60) (l1 := [(4, .ref (286 + a.toNatClampNeg)), (3, .int (1 : Int32)), (0, .ref 0), (1, .int a), (2, .ref (166 + 2 * c))]) (st1 := [.ref (166 + 2 * c), .ref (286 + a.toNatClampNeg)]) 3 rfl rfl rfl ?_
    refine zGetI (F := 410) (I := c) (v := l3 410 c) rfl rfl (icL (j := 0) hc rfl) rfl ?_
    refine zPutI (F := 331) (I := a.toNatClampNeg) rfl rfl (icD (j := 2) hka.1 rfl) rfl ?_
    refine zPs (pc1 := 77) (l1 := [(4, .ref (286 + a.toNatClampNeg)), (3, .int (1 : Int32)), (0, .ref 0), (1, .int a), (2, .ref (166 + 2 * c))]) (st1 := [.int (2 : Int32), .ref (286 + a.toNatClampNeg)]) 5 rfl rfl rfl ?_
    refine zPutI (F := 326) (I := a.toNatClampNeg) rfl rfl (icD (j := 0) hka.1 rfl) rfl ?_
    refine zRv rfl rfl ?_
    exact k
theorem ci_100 {l : Sg} {n : Nat} {a : Int32} {c : Nat} (h : CI l n) : CI (f_100 a c l) n := by
  unfold f_100
  (repeat' first | with_reducible exact h | with_reducible refine CI_ite ?_ ?_ | with_reducible refine CI_ite2 ?_ ?_ | with_reducible refine CI_ite3 ?_ ?_ | with_reducible refine CI_bnd ?_ | with_reducible refine CI_bnd' ?_ | with_reducible refine CI_bnd3 ?_ | with_reducible refine CI_bnd2 ?_ | with_reducible refine CI_bnd2' ?_ | with_reducible refine CI_bnd23 ?_ | with_reducible refine CI_up ?_ ?_ | with_reducible refine ci_1 ?_ | with_reducible refine ci_2 ?_ | with_reducible refine ci_17 ?_ | with_reducible refine ci_18 ?_ | with_reducible refine ci_19 ?_ | with_reducible refine ci_20 ?_ | with_reducible refine ci_25 ?_ | with_reducible refine ci_g_181 _ _ _ ?_ | with_reducible refine ci_181 ?_ | with_reducible refine ci_4 ?_ | with_reducible refine ci_g_6 _ _ _ ?_ | with_reducible refine ci_6 ?_ | with_reducible refine ci_g_5 _ _ _ _ (by omega) (by omega) ?_ | with_reducible refine ci_5 ?_ | with_reducible refine ci_22 ?_ | with_reducible refine ci_23 ?_ | with_reducible refine ci_92 ?_ | with_reducible refine ci_101 ?_ | with_reducible refine ci_91 ?_ | with_reducible refine ci_93 ?_ | with_reducible refine ci_90 ?_) <;> rfl
noncomputable def f_83 (n : Nat) (c : Nat) (m : Nat) (l : Sg) : Int32 := (if l 439 m = (0 : Int32) then (f_29 (l 292 0) l) else (if l 439 m = (1 : Int32) then (if l 317 c < l 440 m then (0 : Int32) else (1 : Int32)) else (if l 439 m = (2 : Int32) then (if (f_102 n (l 440 m) l) < l 441 m then (0 : Int32) else (1 : Int32)) else (if l 439 m = (3 : Int32) then (if ¬ (f_28 (l 292 0)) = l 440 m then (0 : Int32) else (1 : Int32)) else (f_84 (l 440 m) l)))))
theorem e_83 {l : Sg} {P : MO → Sg → Prop} {n : Nat} {c : Nat} {m : Nat} (hl : n ≤ 60) (hCI : CI l n) (hc : c < 60) (hm : m < 30) (k : Rk (Qv P l) (f_83 n c m l)) : Es false 83 [.ref 0, .ref (166 + 2 * c), .ref (46 + 4 * m)] l P := by
  unfold f_83 at k
  refine Es.of ?_
  refine zPs (pc1 := 1) (l1 := [(0, .ref 0), (1, .ref (166 + 2 * c)), (2, .ref (46 + 4 * m))]) (st1 := [.ref (46 + 4 * m)]) 1 rfl rfl rfl ?_
  refine zGetI (F := 439) (I := m) (v := l 439 m) rfl rfl (icN (j := 9) hm rfl) rfl ?_
  refine zSw rfl rfl ?_
  refine zSwS (fun h1 => ?_) (fun h1 => ?_)
  · replace k := ite_t h1 k
    refine zPs (pc1 := 37) (l1 := [(0, .ref 0), (1, .ref (166 + 2 * c)), (2, .ref (46 + 4 * m))]) (st1 := [.ref 0]) 1 rfl rfl rfl ?_
    refine zGetR (r := 4) rfl rfl ⟨by decide, rfl, by decide, rfl⟩ ?_
    refine zPs (pc1 := 41) (l1 := [(0, .ref 0), (1, .ref (166 + 2 * c)), (2, .ref (46 + 4 * m))]) (st1 := [.ref 0, .ref 4]) 1 rfl rfl rfl ?_
    refine zGetI (F := 292) (I := 0) (v := l 292 0) rfl rfl icNow rfl ?_
    refine zCv (mj := 29) (k := 4) (n := 1) rfl rfl rfl rfl (by decide) rfl rfl rfl rfl rfl rfl ?_
    refine e_29 ?_
    refine kI ?_
    refine zRz rfl rfl (f_29_01 ..) ?_
    exact k
  · replace k := ite_f h1 k
    refine zSwS (fun h2 => ?_) (fun h2 => ?_)
    · replace k := ite_t h2 k
      refine zPs (pc1 := 49) (l1 := [(0, .ref 0), (1, .ref (166 + 2 * c)), (2, .ref (46 + 4 * m))]) (st1 := [.ref (166 + 2 * c)]) 1 rfl rfl rfl ?_
      refine zGetI (F := 317) (I := c) (v := l 317 c) rfl rfl (icL (j := 6) hc rfl) rfl ?_
      refine zPs (pc1 := 53) (l1 := [(0, .ref 0), (1, .ref (166 + 2 * c)), (2, .ref (46 + 4 * m))]) (st1 := [.ref (46 + 4 * m), .int (l 317 c)]) 1 rfl rfl rfl ?_
      refine zGetI (F := 440) (I := m) (v := l 440 m) rfl rfl (icN (j := 10) hm rfl) rfl ?_
      refine zClt rfl (fun h3 => ?_) (fun h3 => ?_)
      · replace k := ite_t h3 k
        refine zPs (pc1 := 64) (l1 := [(0, .ref 0), (1, .ref (166 + 2 * c)), (2, .ref (46 + 4 * m))]) (st1 := [.int (0 : Int32)]) 1 rfl rfl rfl ?_
        refine zRz rfl rfl (Or.inl rfl) ?_
        exact k
      · replace k := ite_f h3 k
        refine zPs (pc1 := 64) (l1 := [(0, .ref 0), (1, .ref (166 + 2 * c)), (2, .ref (46 + 4 * m))]) (st1 := [.int (1 : Int32)]) 2 rfl rfl rfl ?_
        refine zRz rfl rfl (Or.inr rfl) ?_
        exact k
    · replace k := ite_f h2 k
      refine zSwS (fun h4 => ?_) (fun h4 => ?_)
      · replace k := ite_t h4 k
        refine zPs (pc1 := 67) (l1 := [(0, .ref 0), (1, .ref (166 + 2 * c)), (2, .ref (46 + 4 * m))]) (st1 := [.ref (46 + 4 * m), .ref 0]) 2 rfl rfl rfl ?_
        refine zGetI (F := 440) (I := m) (v := l 440 m) rfl rfl (icN (j := 10) hm rfl) rfl ?_
        refine zCv (mj := 102) (k := 0) (n := 1) rfl rfl rfl rfl (by decide) rfl rfl rfl rfl rfl rfl ?_
        refine e_102 hl hCI ?_
        refine kI ?_
        refine zPs (pc1 := 74) (l1 := [(0, .ref 0), (1, .ref (166 + 2 * c)), (2, .ref (46 + 4 * m))]) (st1 := [.ref (46 + 4 * m), .int (f_102 n (l 440 m) l)]) 1 rfl rfl rfl ?_
        refine zGetI (F := 441) (I := m) (v := l 441 m) rfl rfl (icN (j := 11) hm rfl) rfl ?_
        refine zClt rfl (fun h5 => ?_) (fun h5 => ?_)
        · replace k := ite_t h5 k
          refine zPs (pc1 := 85) (l1 := [(0, .ref 0), (1, .ref (166 + 2 * c)), (2, .ref (46 + 4 * m))]) (st1 := [.int (0 : Int32)]) 1 rfl rfl rfl ?_
          refine zRz rfl rfl (Or.inl rfl) ?_
          exact k
        · replace k := ite_f h5 k
          refine zPs (pc1 := 85) (l1 := [(0, .ref 0), (1, .ref (166 + 2 * c)), (2, .ref (46 + 4 * m))]) (st1 := [.int (1 : Int32)]) 2 rfl rfl rfl ?_
          refine zRz rfl rfl (Or.inr rfl) ?_
          exact k
      · replace k := ite_f h4 k
        refine zSwS (fun h6 => ?_) (fun h6 => ?_)
        · replace k := ite_t h6 k
          refine zPs (pc1 := 87) (l1 := [(0, .ref 0), (1, .ref (166 + 2 * c)), (2, .ref (46 + 4 * m))]) (st1 := [.ref 0]) 1 rfl rfl rfl ?_
          refine zGetI (F := 292) (I := 0) (v := l 292 0) rfl rfl icNow rfl ?_
          refine zCs (mj := 28) rfl rfl rfl rfl rfl rfl rfl rfl ?_
          refine e_28 ?_
          refine kI ?_
          refine zPs (pc1 := 94) (l1 := [(0, .ref 0), (1, .ref (166 + 2 * c)), (2, .ref (46 + 4 * m))]) (st1 := [.ref (46 + 4 * m), .int (f_28 (l 292 0))]) 1 rfl rfl rfl ?_
          refine zGetI (F := 440) (I := m) (v := l 440 m) rfl rfl (icN (j := 10) hm rfl) rfl ?_
          refine zCn rfl (fun h7 => ?_) (fun h7 => ?_)
          · replace k := ite_t h7 k
            refine zPs (pc1 := 105) (l1 := [(0, .ref 0), (1, .ref (166 + 2 * c)), (2, .ref (46 + 4 * m))]) (st1 := [.int (0 : Int32)]) 1 rfl rfl rfl ?_
            refine zRz rfl rfl (Or.inl rfl) ?_
            exact k
          · replace k := ite_f (not_not_intro h7) k
            refine zPs (pc1 := 105) (l1 := [(0, .ref 0), (1, .ref (166 + 2 * c)), (2, .ref (46 + 4 * m))]) (st1 := [.int (1 : Int32)]) 2 rfl rfl rfl ?_
            refine zRz rfl rfl (Or.inr rfl) ?_
            exact k
        · replace k := ite_f h6 k
          refine zSw0 ?_
          refine zPs (pc1 := 108) (l1 := [(0, .ref 0), (1, .ref (166 + 2 * c)), (2, .ref (46 + 4 * m))]) (st1 := [.ref (46 + 4 * m), .ref 0]) 2 rfl rfl rfl ?_
          refine zGetI (F := 440) (I := m) (v := l 440 m) rfl rfl (icN (j := 10) hm rfl) rfl ?_
          refine zCv (mj := 84) (k := 0) (n := 1) rfl rfl rfl rfl (by decide) rfl rfl rfl rfl rfl rfl ?_
          refine e_84 ?_
          refine kI ?_
          refine zRz rfl rfl (f_84_01 ..) ?_
          exact k
noncomputable def f_82 (n : Nat) (c : Nat) (m : Nat) (l : Sg) : Int32 × Sg := (if l 296 m = (1 : Int32) then ((-2 : Int32), (up2 l 316 c (l 292 0 + l 433 m))) else (if l 296 m = (2 : Int32) then (bnd (f_19 c (l 292 0 + l 303 m) (up2 l 315 c (0 : Int32))) fun l3 => ((-2 : Int32), l3)) else (if l 296 m = (3 : Int32) then (bnd (f_19 c (l 292 0 + l 303 m) (up2 l 315 c (0 : Int32))) fun l5 => ((-2 : Int32), l5)) else (if l 296 m = (4 : Int32) then (if (f_83 n c m l) = 0 then (l 302 m, l) else (l 301 m, l)) else (if l 296 m = (5 : Int32) then (bnd2 (f_22 c (l 302 m) l) fun v9 l9 => (if ¬ v9 = 0 then (l9 301 m, l9) else (bnd (f_91 c (3 : Int32) l9) fun l11 => ((-2 : Int32), l11)))) else (if l 296 m = (6 : Int32) then (bnd2 (f_23 c l) fun v13 l13 => (v13, l13)) else (if l 296 m = (7 : Int32) then (bnd (f_17 c m (l 292 0) l) fun l15 => (if (f_102 n (l15 442 m) l15) < l15 444 m then (bnd (f_92 c (1 : Int32) (up2 l15 316 c (l15 292 0 + l15 438 m))) fun l17 => ((-2 : Int32), l17)) else (l15 301 m, l15))) else (if l 296 m = (8 : Int32) then (if ¬ l 420 c = 0 then (bnd (f_92 c (3 : Int32) (up2 (up2 l 313 c (-1 : Int32)) 323 c (0 : Int32))) fun l20 => ((-2 : Int32), l20)) else (bnd (f_91 c (0 : Int32) l) fun l21 => ((-2 : Int32), l21))) else ((-1 : Int32), l)))))))))
theorem e_82 {l : Sg} {P : MO → Sg → Prop} {n : Nat} {c : Nat} {m : Nat} (hl : n ≤ 60) (hCI : CI l n) (hc : c < 60) (hm : m < 30) (k : Rk (Qb P) (f_82 n c m l)) : Es false 82 [.ref 0, .ref (166 + 2 * c), .ref (46 + 4 * m)] l P := by
  unfold f_82 at k
  refine Es.of ?_
  refine zPs (pc1 := 1) (l1 := [(0, .ref 0), (1, .ref (166 + 2 * c)), (2, .ref (46 + 4 * m))]) (st1 := [.ref (46 + 4 * m)]) 1 rfl rfl rfl ?_
  refine zGetI (F := 296) (I := m) (v := l 296 m) rfl rfl (icN (j := 0) hm rfl) rfl ?_
  refine zSw rfl rfl ?_
  refine zSwS (fun h1 => ?_) (fun h1 => ?_)
  · replace k := ite_t h1 k
    refine zPs (pc1 := 54) (l1 := [(0, .ref 0), (1, .ref (166 + 2 * c)), (2, .ref (46 + 4 * m))]) (st1 := [.ref 0, .ref (166 + 2 * c)]) 2 rfl rfl rfl ?_
    refine zGetI (F := 292) (I := 0) (v := l 292 0) rfl rfl icNow rfl ?_
    refine zPs (pc1 := 58) (l1 := [(0, .ref 0), (1, .ref (166 + 2 * c)), (2, .ref (46 + 4 * m))]) (st1 := [.ref (46 + 4 * m), .int (l 292 0), .ref (166 + 2 * c)]) 1 rfl rfl rfl ?_
    refine zGetI (F := 433) (I := m) (v := l 433 m) rfl rfl (icN (j := 3) hm rfl) rfl ?_
    refine zPs (pc1 := 62) (l1 := [(0, .ref 0), (1, .ref (166 + 2 * c)), (2, .ref (46 + 4 * m))]) (st1 := [.int (l 292 0 + l 433 m), .ref (166 + 2 * c)]) 1 rfl rfl rfl ?_
    refine zPutI (F := 316) (I := c) rfl rfl (icL (j := 5) hc rfl) rfl ?_
    refine zPs (pc1 := 67) (l1 := [(0, .ref 0), (1, .ref (166 + 2 * c)), (2, .ref (46 + 4 * m))]) (st1 := [.int (-2 : Int32)]) 1 rfl rfl rfl ?_
    refine zRi rfl rfl ?_
    exact k
  · replace k := ite_f h1 k
    refine zSwS (fun h2 => ?_) (fun h2 => ?_)
    · replace k := ite_t h2 k
      refine zPs (pc1 := 70) (l1 := [(0, .ref 0), (1, .ref (166 + 2 * c)), (2, .ref (46 + 4 * m))]) (st1 := [.int (0 : Int32), .ref (166 + 2 * c)]) 2 rfl rfl rfl ?_
      refine zPutI (F := 315) (I := c) rfl rfl (icL (j := 9) hc rfl) rfl ?_
      refine zPs (pc1 := 75) (l1 := [(0, .ref 0), (1, .ref (166 + 2 * c)), (2, .ref (46 + 4 * m))]) (st1 := [.ref 0, .ref (166 + 2 * c)]) 2 rfl rfl rfl ?_
      refine zGetI (F := 292) (I := 0) (v := l 292 0) rfl rfl icNow rfl ?_
      refine zPs (pc1 := 79) (l1 := [(0, .ref 0), (1, .ref (166 + 2 * c)), (2, .ref (46 + 4 * m))]) (st1 := [.ref (46 + 4 * m), .int (l 292 0), .ref (166 + 2 * c)]) 1 rfl rfl rfl ?_
      refine zGetI (F := 303) (I := m) (v := l 303 m) rfl rfl (icN (j := 4) hm rfl) rfl ?_
      refine zPs (pc1 := 83) (l1 := [(0, .ref 0), (1, .ref (166 + 2 * c)), (2, .ref (46 + 4 * m))]) (st1 := [.int (l 292 0 + l 303 m), .ref (166 + 2 * c)]) 1 rfl rfl rfl ?_
      refine zCv (mj := 19) (k := (166 + 2 * c)) (n := 1) rfl rfl rfl rfl (by have := hc; omega) (tagK_line hc) rfl rfl rfl rfl rfl ?_
      refine e_19 hc ?_
      refine kV ?_
      have hCI3 : CI (f_19 c (l 292 0 + l 303 m) (up2 l 315 c (0 : Int32))) n := ci_19 (CI_up hCI rfl)
      replace k := bnd_i k
      generalize f_19 c (l 292 0 + l 303 m) (up2 l 315 c (0 : Int32)) = l3 at k hCI3 ⊢
      refine zPs (pc1 := 88) (l1 := [(0, .ref 0), (1, .ref (166 + 2 * c)), (2, .ref (46 + 4 * m))]) (st1 := [.int (-2 : Int32)]) 1 rfl rfl rfl ?_
      refine zRi rfl rfl ?_
      exact k
    · replace k := ite_f h2 k
      refine zSwS (fun h4 => ?_) (fun h4 => ?_)
      · replace k := ite_t h4 k
        refine zPs (pc1 := 70) (l1 := [(0, .ref 0), (1, .ref (166 + 2 * c)), (2, .ref (46 + 4 * m))]) (st1 := [.int (0 : Int32), .ref (166 + 2 * c)]) 2 rfl rfl rfl ?_
        refine zPutI (F := 315) (I := c) rfl rfl (icL (j := 9) hc rfl) rfl ?_
        refine zPs (pc1 := 75) (l1 := [(0, .ref 0), (1, .ref (166 + 2 * c)), (2, .ref (46 + 4 * m))]) (st1 := [.ref 0, .ref (166 + 2 * c)]) 2 rfl rfl rfl ?_
        refine zGetI (F := 292) (I := 0) (v := l 292 0) rfl rfl icNow rfl ?_
        refine zPs (pc1 := 79) (l1 := [(0, .ref 0), (1, .ref (166 + 2 * c)), (2, .ref (46 + 4 * m))]) (st1 := [.ref (46 + 4 * m), .int (l 292 0), .ref (166 + 2 * c)]) 1 rfl rfl rfl ?_
        refine zGetI (F := 303) (I := m) (v := l 303 m) rfl rfl (icN (j := 4) hm rfl) rfl ?_
        refine zPs (pc1 := 83) (l1 := [(0, .ref 0), (1, .ref (166 + 2 * c)), (2, .ref (46 + 4 * m))]) (st1 := [.int (l 292 0 + l 303 m), .ref (166 + 2 * c)]) 1 rfl rfl rfl ?_
        refine zCv (mj := 19) (k := (166 + 2 * c)) (n := 1) rfl rfl rfl rfl (by have := hc; omega) (tagK_line hc) rfl rfl rfl rfl rfl ?_
        refine e_19 hc ?_
        refine kV ?_
        have hCI5 : CI (f_19 c (l 292 0 + l 303 m) (up2 l 315 c (0 : Int32))) n := ci_19 (CI_up hCI rfl)
        replace k := bnd_i k
        generalize f_19 c (l 292 0 + l 303 m) (up2 l 315 c (0 : Int32)) = l5 at k hCI5 ⊢
        refine zPs (pc1 := 88) (l1 := [(0, .ref 0), (1, .ref (166 + 2 * c)), (2, .ref (46 + 4 * m))]) (st1 := [.int (-2 : Int32)]) 1 rfl rfl rfl ?_
        refine zRi rfl rfl ?_
        exact k
      · replace k := ite_f h4 k
        refine zSwS (fun h6 => ?_) (fun h6 => ?_)
        · replace k := ite_t h6 k
          refine zPs (pc1 := 92) (l1 := [(0, .ref 0), (1, .ref (166 + 2 * c)), (2, .ref (46 + 4 * m))]) (st1 := [.ref (46 + 4 * m), .ref (166 + 2 * c), .ref 0]) 3 rfl rfl rfl ?_
          refine zCv (mj := 83) (k := 0) (n := 2) rfl rfl rfl rfl (by decide) rfl rfl rfl rfl rfl rfl ?_
          refine e_83 hl hCI hc hm ?_
          refine kI ?_
          refine zIfe rfl (fun h7 => ?_) (fun h7 => ?_)
          · replace k := ite_t h7 k
            refine zPs (pc1 := 106) (l1 := [(0, .ref 0), (1, .ref (166 + 2 * c)), (2, .ref (46 + 4 * m))]) (st1 := [.ref (46 + 4 * m)]) 1 rfl rfl rfl ?_
            refine zGetI (F := 302) (I := m) (v := l 302 m) rfl rfl (icN (j := 2) hm rfl) rfl ?_
            refine zRi rfl rfl ?_
            exact k
          · replace k := ite_f h7 k
            refine zPs (pc1 := 99) (l1 := [(0, .ref 0), (1, .ref (166 + 2 * c)), (2, .ref (46 + 4 * m))]) (st1 := [.ref (46 + 4 * m)]) 1 rfl rfl rfl ?_
            refine zGetI (F := 301) (I := m) (v := l 301 m) rfl rfl (icN (j := 1) hm rfl) rfl ?_
            refine zPs (pc1 := 109) (l1 := [(0, .ref 0), (1, .ref (166 + 2 * c)), (2, .ref (46 + 4 * m))]) (st1 := [.int (l 301 m)]) 1 rfl rfl rfl ?_
            refine zRi rfl rfl ?_
            exact k
        · replace k := ite_f h6 k
          refine zSwS (fun h8 => ?_) (fun h8 => ?_)
          · replace k := ite_t h8 k
            refine zPs (pc1 := 112) (l1 := [(0, .ref 0), (1, .ref (166 + 2 * c)), (2, .ref (46 + 4 * m))]) (st1 := [.ref (46 + 4 * m), .ref (166 + 2 * c)]) 2 rfl rfl rfl ?_
            refine zGetI (F := 302) (I := m) (v := l 302 m) rfl rfl (icN (j := 2) hm rfl) rfl ?_
            refine zCv (mj := 22) (k := (166 + 2 * c)) (n := 1) rfl rfl rfl rfl (by have := hc; omega) (tagK_line hc) rfl rfl rfl rfl rfl ?_
            refine e_22 hc ?_
            refine kI ?_
            have hCI9 : CI (f_22 c (l 302 m) l).2 n := ci_22 hCI
            replace k := bnd2_i k
            generalize (f_22 c (l 302 m) l).1 = v9 at k ⊢
            generalize (f_22 c (l 302 m) l).2 = l9 at k hCI9 ⊢
            refine zIfn rfl (fun h10 => ?_) (fun h10 => ?_)
            · replace k := ite_t h10 k
              refine zPs (pc1 := 131) (l1 := [(0, .ref 0), (1, .ref (166 + 2 * c)), (2, .ref (46 + 4 * m))]) (st1 := [.ref (46 + 4 * m)]) 1 rfl rfl rfl ?_
              refine zGetI (F := 301) (I := m) (v := l9 301 m) rfl rfl (icN (j := 1) hm rfl) rfl ?_
              refine zRi rfl rfl ?_
              exact k
            · replace k := ite_f (not_not_intro h10) k
              refine zPs (pc1 := 124) (l1 := [(0, .ref 0), (1, .ref (166 + 2 * c)), (2, .ref (46 + 4 * m))]) (st1 := [.int (3 : Int32), .ref (166 + 2 * c), .ref 0]) 3 rfl rfl rfl ?_
              refine zCv (mj := 91) (k := 0) (n := 2) rfl rfl rfl rfl (by decide) rfl rfl rfl rfl rfl rfl ?_
              refine e_91 hl hCI9 hc ?_
              refine kV ?_
              have hCI11 : CI (f_91 c (3 : Int32) l9) n := ci_91 hCI9
              replace k := bnd_i k
              generalize f_91 c (3 : Int32) l9 = l11 at k hCI11 ⊢
              refine zPs (pc1 := 129) (l1 := [(0, .ref 0), (1, .ref (166 + 2 * c)), (2, .ref (46 + 4 * m))]) (st1 := [.int (-2 : Int32)]) 1 rfl rfl rfl ?_
              refine zRi rfl rfl ?_
              exact k
          · replace k := ite_f h8 k
            refine zSwS (fun h12 => ?_) (fun h12 => ?_)
            · replace k := ite_t h12 k
              refine zPs (pc1 := 136) (l1 := [(0, .ref 0), (1, .ref (166 + 2 * c)), (2, .ref (46 + 4 * m))]) (st1 := [.ref (166 + 2 * c)]) 1 rfl rfl rfl ?_
              refine zCv (mj := 23) (k := (166 + 2 * c)) (n := 0) rfl rfl rfl rfl (by have := hc; omega) (tagK_line hc) rfl rfl rfl rfl rfl ?_
              refine e_23 hc ?_
              refine kI ?_
              have hCI13 : CI (f_23 c l).2 n := ci_23 hCI
              replace k := bnd2_i k
              generalize (f_23 c l).1 = v13 at k ⊢
              generalize (f_23 c l).2 = l13 at k hCI13 ⊢
              refine zRi rfl rfl ?_
              exact k
            · replace k := ite_f h12 k
              refine zSwS (fun h14 => ?_) (fun h14 => ?_)
              · replace k := ite_t h14 k
                refine zPs (pc1 := 143) (l1 := [(0, .ref 0), (1, .ref (166 + 2 * c)), (2, .ref (46 + 4 * m))]) (st1 := [.ref 0, .ref (46 + 4 * m), .ref (166 + 2 * c)]) 3 rfl rfl rfl ?_
                refine zGetI (F := 292) (I := 0) (v := l 292 0) rfl rfl icNow rfl ?_
                refine zCv (mj := 17) (k := (166 + 2 * c)) (n := 2) rfl rfl rfl rfl (by have := hc; omega) (tagK_line hc) rfl rfl rfl rfl rfl ?_
                refine e_17 hc hm ?_
                refine kV ?_
                have hCI15 : CI (f_17 c m (l 292 0) l) n := ci_17 hCI
                replace k := bnd_i k
                generalize f_17 c m (l 292 0) l = l15 at k hCI15 ⊢
                refine zPs (pc1 := 151) (l1 := [(0, .ref 0), (1, .ref (166 + 2 * c)), (2, .ref (46 + 4 * m))]) (st1 := [.ref (46 + 4 * m), .ref 0]) 2 rfl rfl rfl ?_
                refine zGetI (F := 442) (I := m) (v := l15 442 m) rfl rfl (icN (j := 12) hm rfl) rfl ?_
                refine zCv (mj := 102) (k := 0) (n := 1) rfl rfl rfl rfl (by decide) rfl rfl rfl rfl rfl rfl ?_
                refine e_102 hl hCI15 ?_
                refine kI ?_
                refine zPs (pc1 := 158) (l1 := [(0, .ref 0), (1, .ref (166 + 2 * c)), (2, .ref (46 + 4 * m))]) (st1 := [.ref (46 + 4 * m), .int (f_102 n (l15 442 m) l15)]) 1 rfl rfl rfl ?_
                refine zGetI (F := 444) (I := m) (v := l15 444 m) rfl rfl (icN (j := 14) hm rfl) rfl ?_
                refine zClt rfl (fun h16 => ?_) (fun h16 => ?_)
                · replace k := ite_t h16 k
                  refine zPs (pc1 := 171) (l1 := [(0, .ref 0), (1, .ref (166 + 2 * c)), (2, .ref (46 + 4 * m))]) (st1 := [.ref 0, .ref (166 + 2 * c)]) 2 rfl rfl rfl ?_
                  refine zGetI (F := 292) (I := 0) (v := l15 292 0) rfl rfl icNow rfl ?_
                  refine zPs (pc1 := 175) (l1 := [(0, .ref 0), (1, .ref (166 + 2 * c)), (2, .ref (46 + 4 * m))]) (st1 := [.ref (46 + 4 * m), .int (l15 292 0), .ref (166 + 2 * c)]) 1 rfl rfl rfl ?_
                  refine zGetI (F := 438) (I := m) (v := l15 438 m) rfl rfl (icN (j := 8) hm rfl) rfl ?_
                  refine zPs (pc1 := 179) (l1 := [(0, .ref 0), (1, .ref (166 + 2 * c)), (2, .ref (46 + 4 * m))]) (st1 := [.int (l15 292 0 + l15 438 m), .ref (166 + 2 * c)]) 1 rfl rfl rfl ?_
                  refine zPutI (F := 316) (I := c) rfl rfl (icL (j := 5) hc rfl) rfl ?_
                  refine zPs (pc1 := 185) (l1 := [(0, .ref 0), (1, .ref (166 + 2 * c)), (2, .ref (46 + 4 * m))]) (st1 := [.int (1 : Int32), .ref (166 + 2 * c), .ref 0]) 3 rfl rfl rfl ?_
                  refine zCv (mj := 92) (k := 0) (n := 2) rfl rfl rfl rfl (by decide) rfl rfl rfl rfl rfl rfl ?_
                  refine e_92 hl (CI_up hCI15 rfl) hc ?_
                  refine kV ?_
                  have hCI17 : CI (f_92 c (1 : Int32) (up2 l15 316 c (l15 292 0 + l15 438 m))) n := ci_92 (CI_up hCI15 rfl)
                  replace k := bnd_i k
                  generalize f_92 c (1 : Int32) (up2 l15 316 c (l15 292 0 + l15 438 m)) = l17 at k hCI17 ⊢
                  refine zPs (pc1 := 190) (l1 := [(0, .ref 0), (1, .ref (166 + 2 * c)), (2, .ref (46 + 4 * m))]) (st1 := [.int (-2 : Int32)]) 1 rfl rfl rfl ?_
                  refine zRi rfl rfl ?_
                  exact k
                · replace k := ite_f h16 k
                  refine zPs (pc1 := 165) (l1 := [(0, .ref 0), (1, .ref (166 + 2 * c)), (2, .ref (46 + 4 * m))]) (st1 := [.ref (46 + 4 * m)]) 1 rfl rfl rfl ?_
                  refine zGetI (F := 301) (I := m) (v := l15 301 m) rfl rfl (icN (j := 1) hm rfl) rfl ?_
                  refine zRi rfl rfl ?_
                  exact k
              · replace k := ite_f h14 k
                refine zSwS (fun h18 => ?_) (fun h18 => ?_)
                · replace k := ite_t h18 k
                  refine zPs (pc1 := 192) (l1 := [(0, .ref 0), (1, .ref (166 + 2 * c)), (2, .ref (46 + 4 * m))]) (st1 := [.ref (166 + 2 * c)]) 1 rfl rfl rfl ?_
                  refine zGetI (F := 420) (I := c) (v := l 420 c) rfl rfl (icL (j := 10) hc rfl) rfl ?_
                  refine zIfn rfl (fun h19 => ?_) (fun h19 => ?_)
                  · replace k := ite_t h19 k
                    refine zPs (pc1 := 209) (l1 := [(0, .ref 0), (1, .ref (166 + 2 * c)), (2, .ref (46 + 4 * m))]) (st1 := [.int (-1 : Int32), .ref (166 + 2 * c)]) 2 rfl rfl rfl ?_
                    refine zPutI (F := 313) (I := c) rfl rfl (icL (j := 3) hc rfl) rfl ?_
                    refine zPs (pc1 := 214) (l1 := [(0, .ref 0), (1, .ref (166 + 2 * c)), (2, .ref (46 + 4 * m))]) (st1 := [.int (0 : Int32), .ref (166 + 2 * c)]) 2 rfl rfl rfl ?_
                    refine zPutI (F := 323) (I := c) rfl rfl (icL (j := 15) hc rfl) rfl ?_
                    refine zPs (pc1 := 220) (l1 := [(0, .ref 0), (1, .ref (166 + 2 * c)), (2, .ref (46 + 4 * m))]) (st1 := [.int (3 : Int32), .ref (166 + 2 * c), .ref 0]) 3 rfl rfl rfl ?_
                    refine zCv (mj := 92) (k := 0) (n := 2) rfl rfl rfl rfl (by decide) rfl rfl rfl rfl rfl rfl ?_
                    refine e_92 hl (CI_up (CI_up hCI rfl) rfl) hc ?_
                    refine kV ?_
                    have hCI20 : CI (f_92 c (3 : Int32) (up2 (up2 l 313 c (-1 : Int32)) 323 c (0 : Int32))) n := ci_92 (CI_up (CI_up hCI rfl) rfl)
                    replace k := bnd_i k
                    generalize f_92 c (3 : Int32) (up2 (up2 l 313 c (-1 : Int32)) 323 c (0 : Int32)) = l20 at k hCI20 ⊢
                    refine zPs (pc1 := 225) (l1 := [(0, .ref 0), (1, .ref (166 + 2 * c)), (2, .ref (46 + 4 * m))]) (st1 := [.int (-2 : Int32)]) 1 rfl rfl rfl ?_
                    refine zRi rfl rfl ?_
                    exact k
                  · replace k := ite_f (not_not_intro h19) k
                    refine zPs (pc1 := 201) (l1 := [(0, .ref 0), (1, .ref (166 + 2 * c)), (2, .ref (46 + 4 * m))]) (st1 := [.int (0 : Int32), .ref (166 + 2 * c), .ref 0]) 3 rfl rfl rfl ?_
                    refine zCv (mj := 91) (k := 0) (n := 2) rfl rfl rfl rfl (by decide) rfl rfl rfl rfl rfl rfl ?_
                    refine e_91 hl hCI hc ?_
                    refine kV ?_
                    have hCI21 : CI (f_91 c (0 : Int32) l) n := ci_91 hCI
                    replace k := bnd_i k
                    generalize f_91 c (0 : Int32) l = l21 at k hCI21 ⊢
                    refine zPs (pc1 := 206) (l1 := [(0, .ref 0), (1, .ref (166 + 2 * c)), (2, .ref (46 + 4 * m))]) (st1 := [.int (-2 : Int32)]) 1 rfl rfl rfl ?_
                    refine zRi rfl rfl ?_
                    exact k
                · replace k := ite_f h18 k
                  refine zSw0 ?_
                  refine zPs (pc1 := 227) (l1 := [(0, .ref 0), (1, .ref (166 + 2 * c)), (2, .ref (46 + 4 * m))]) (st1 := [.int (-1 : Int32)]) 1 rfl rfl rfl ?_
                  refine zRi rfl rfl ?_
                  exact k
theorem ci_82 {l : Sg} {n : Nat} {c : Nat} {m : Nat} (h : CI l n) : CI (f_82 n c m l).2 n := by
  unfold f_82
  (repeat' first | with_reducible exact h | with_reducible refine CI_ite ?_ ?_ | with_reducible refine CI_ite2 ?_ ?_ | with_reducible refine CI_ite3 ?_ ?_ | with_reducible refine CI_bnd ?_ | with_reducible refine CI_bnd' ?_ | with_reducible refine CI_bnd3 ?_ | with_reducible refine CI_bnd2 ?_ | with_reducible refine CI_bnd2' ?_ | with_reducible refine CI_bnd23 ?_ | with_reducible refine CI_up ?_ ?_ | with_reducible refine ci_1 ?_ | with_reducible refine ci_2 ?_ | with_reducible refine ci_17 ?_ | with_reducible refine ci_18 ?_ | with_reducible refine ci_19 ?_ | with_reducible refine ci_20 ?_ | with_reducible refine ci_25 ?_ | with_reducible refine ci_g_181 _ _ _ ?_ | with_reducible refine ci_181 ?_ | with_reducible refine ci_4 ?_ | with_reducible refine ci_g_6 _ _ _ ?_ | with_reducible refine ci_6 ?_ | with_reducible refine ci_g_5 _ _ _ _ (by omega) (by omega) ?_ | with_reducible refine ci_5 ?_ | with_reducible refine ci_22 ?_ | with_reducible refine ci_23 ?_ | with_reducible refine ci_92 ?_ | with_reducible refine ci_101 ?_ | with_reducible refine ci_91 ?_ | with_reducible refine ci_93 ?_ | with_reducible refine ci_90 ?_ | with_reducible refine ci_100 ?_) <;> rfl
noncomputable def g_81 (n : Nat) (c : Nat) : Nat → Nat → Int32 → Sg → Sg
  | 0, _, a, l => l
  | d + 1, j, a, l => (if a = (-2 : Int32) then l else (if ¬ j = 20 then (bnd (f_93 (l 313 c) a l) fun l4 => (if isN a then (bnd2 (f_82 n c a.toNatClampNeg (up2 l4 313 c a)) fun v7 l7 => g_81 n c d (j + 1) v7 l7) else (bnd (f_91 c (0 : Int32) l4) fun l8 => l8))) else (if isN a then (bnd (f_91 c (2 : Int32) l) fun l11 => l11) else (bnd (f_93 (l 313 c) a l) fun l12 => (if isN a then (bnd2 (f_82 n c a.toNatClampNeg (up2 l12 313 c a)) fun v15 l15 => g_81 n c d (j + 1) v15 l15) else (bnd (f_91 c (0 : Int32) l12) fun l16 => l16))))))
theorem lg_81 {P : MO → Sg → Prop} {rc rs : Nat} {n : Nat} {c : Nat}(hl : n ≤ 60) (hc : c < 60) : ∀ (d j : Nat) (a : Int32) (l : Sg), j + d = 21 → CI l n → Rk (Qm P) (g_81 n c d j a l) → Ws false 81 rc rs 11 [(4, .int (i32 j)), (3, .int a), (0, .ref 0), (1, .ref (166 + 2 * c))] [] l P := by
  intro d
  induction d with
  | zero =>
    intro j a l hj hCI k
    obtain rfl : 21 = j := by omega
    rw [g_81] at k
    refine zPs (pc1 := 15) (l1 := [(4, .int (i32 21)), (3, .int a), (0, .ref 0), (1, .ref (166 + 2 * c))]) (st1 := [.int (20 : Int32), .int (i32 21)]) 2 rfl rfl rfl ?_
    refine nCgt (a := 21) (b := 20) (by omega) (by omega) rfl (fun h1 => ?_) (fun h1 => absurd (by omega) h1)
    refine zRv rfl rfl ?_
    exact k
  | succ d ih =>
    intro j a l hj hCI k
    have hjl : j < 21 := by omega
    rw [g_81] at k
    refine zPs (pc1 := 15) (l1 := [(4, .int (i32 j)), (3, .int a), (0, .ref 0), (1, .ref (166 + 2 * c))]) (st1 := [.int (20 : Int32), .int (i32 j)]) 2 rfl rfl rfl ?_
    refine nCgt (a := j) (b := 20) (by omega) (by omega) rfl (fun h1 => absurd h1 (by omega)) (fun h1 => ?_)
    refine zPs (pc1 := 21) (l1 := [(4, .int (i32 j)), (3, .int a), (0, .ref 0), (1, .ref (166 + 2 * c))]) (st1 := [.int (-2 : Int32), .int a]) 2 rfl rfl rfl ?_
    refine zCe rfl (fun h2 => ?_) (fun h2 => ?_)
    · replace k := ite_t h2 k
      refine zRv rfl rfl ?_
      exact k
    · replace k := ite_f h2 k
      refine zPs (pc1 := 28) (l1 := [(4, .int (i32 j)), (3, .int a), (0, .ref 0), (1, .ref (166 + 2 * c))]) (st1 := [.int (20 : Int32), .int (i32 j)]) 2 rfl rfl rfl ?_
      refine nCn (a := j) (b := 20) (by omega) (by omega) rfl (fun h3 => ?_) (fun h3 => ?_)
      · replace k := ite_t h3 k
        refine zPs (pc1 := 47) (l1 := [(4, .int (i32 j)), (3, .int a), (0, .ref 0), (1, .ref (166 + 2 * c))]) (st1 := [.ref (166 + 2 * c), .ref 0]) 2 rfl rfl rfl ?_
        refine zGetI (F := 313) (I := c) (v := l 313 c) rfl rfl (icL (j := 3) hc rfl) rfl ?_
        refine zPs (pc1 := 51) (l1 := [(4, .int (i32 j)), (3, .int a), (0, .ref 0), (1, .ref (166 + 2 * c))]) (st1 := [.int a, .int (l 313 c), .ref 0]) 1 rfl rfl rfl ?_
        refine zCv (mj := 93) (k := 0) (n := 2) rfl rfl rfl rfl (by decide) rfl rfl rfl rfl rfl rfl ?_
        refine e_93 hl hCI ?_
        refine kV ?_
        have hCI4 : CI (f_93 (l 313 c) a l) n := ci_93 hCI
        replace k := bnd_i k
        generalize f_93 (l 313 c) a l = l4 at k hCI4 ⊢
        refine zPs (pc1 := 55) (l1 := [(4, .int (i32 j)), (3, .int a), (0, .ref 0), (1, .ref (166 + 2 * c))]) (st1 := [.int a]) 1 rfl rfl rfl ?_
        refine zCs (mj := 76) rfl rfl rfl rfl rfl rfl rfl rfl ?_
        refine e_76 (fun h5 => ?_) (fun h5 => ?_)
        · replace k := ite_t h5 k
          have h6 := isN_lt h5
          refine kI ?_
          refine zPs (pc1 := 70) (l1 := [(4, .int (i32 j)), (3, .int a), (0, .ref 0), (1, .ref (166 + 2 * c))]) (st1 := [.int a, .ref (166 + 2 * c)]) 3 rfl rfl rfl ?_
          refine zPutI (F := 313) (I := c) rfl rfl (icL (j := 3) hc rfl) rfl ?_
          refine zPs (pc1 := 76) (l1 := [(4, .int (i32 j)), (3, .int a), (0, .ref 0), (1, .ref (166 + 2 * c))]) (st1 := [.ref 0, .ref (166 + 2 * c), .ref 0]) 3 rfl rfl rfl ?_
          refine zGetR (r := 1) rfl rfl ⟨by decide, rfl, by decide, rfl⟩ ?_
          refine zPs (pc1 := 80) (l1 := [(4, .int (i32 j)), (3, .int a), (0, .ref 0), (1, .ref (166 + 2 * c))]) (st1 := [.int a, .ref 1, .ref (166 + 2 * c), .ref 0]) 1 rfl rfl rfl ?_
          refine zAalE (n := a.toNatClampNeg) h6.2 rfl rfl (irN h6.1) ?_
          refine zCv (mj := 82) (k := 0) (n := 2) rfl rfl rfl rfl (by decide) rfl rfl rfl rfl rfl rfl ?_
          refine e_82 hl (CI_up hCI4 rfl) hc h6.1 ?_
          refine kI ?_
          have hCI7 : CI (f_82 n c a.toNatClampNeg (up2 l4 313 c a)).2 n := ci_82 (CI_up hCI4 rfl)
          replace k := bnd2_i k
          generalize (f_82 n c a.toNatClampNeg (up2 l4 313 c a)).1 = v7 at k ⊢
          generalize (f_82 n c a.toNatClampNeg (up2 l4 313 c a)).2 = l7 at k hCI7 ⊢
          refine zPs (pc1 := 88) (l1 := [(4, .int (i32 j + (1 : Int32))), (3, .int v7), (0, .ref 0), (1, .ref (166 + 2 * c))]) (st1 := []) 2 rfl rfl rfl ?_
          refine zTo (ml' := [(4, .int (i32 (j + 1))), (3, .int v7), (0, .ref 0), (1, .ref (166 + 2 * c))]) (st' := []) (by rw [show (i32 j + (1 : Int32)) = i32 (j + 1) from i32_add j 1]) rfl ?_
          refine zPs (pc1 := 11) (l1 := [(4, .int (i32 (j + 1))), (3, .int v7), (0, .ref 0), (1, .ref (166 + 2 * c))]) (st1 := []) 1 rfl rfl rfl ?_
          refine zMl (ml' := [(4, .int (i32 (j + 1))), (3, .int v7), (0, .ref 0), (1, .ref (166 + 2 * c))]) ⟨rfl, rfl, rfl, rfl, trivial⟩ rfl rfl ?_
          exact ih (j + 1) v7 l7 (by omega) hCI7 k
        · replace k := ite_f h5 k
          refine kI ?_
          refine zPs (pc1 := 64) (l1 := [(4, .int (i32 j)), (3, .int a), (0, .ref 0), (1, .ref (166 + 2 * c))]) (st1 := [.int (0 : Int32), .ref (166 + 2 * c), .ref 0]) 4 rfl rfl rfl ?_
          refine zCv (mj := 91) (k := 0) (n := 2) rfl rfl rfl rfl (by decide) rfl rfl rfl rfl rfl rfl ?_
          refine e_91 hl hCI4 hc ?_
          refine kV ?_
          have hCI8 : CI (f_91 c (0 : Int32) l4) n := ci_91 hCI4
          replace k := bnd_i k
          generalize f_91 c (0 : Int32) l4 = l8 at k hCI8 ⊢
          refine zRv rfl rfl ?_
          exact k
      · replace k := ite_f (not_not_intro h3) k
        refine zPs (pc1 := 32) (l1 := [(4, .int (i32 j)), (3, .int a), (0, .ref 0), (1, .ref (166 + 2 * c))]) (st1 := [.int a]) 1 rfl rfl rfl ?_
        refine zCs (mj := 76) rfl rfl rfl rfl rfl rfl rfl rfl ?_
        refine e_76 (fun h9 => ?_) (fun h9 => ?_)
        · replace k := ite_t h9 k
          have h10 := isN_lt h9
          refine kI ?_
          refine zPs (pc1 := 41) (l1 := [(4, .int (i32 j)), (3, .int a), (0, .ref 0), (1, .ref (166 + 2 * c))]) (st1 := [.int (2 : Int32), .ref (166 + 2 * c), .ref 0]) 4 rfl rfl rfl ?_
          refine zCv (mj := 91) (k := 0) (n := 2) rfl rfl rfl rfl (by decide) rfl rfl rfl rfl rfl rfl ?_
          refine e_91 hl hCI hc ?_
          refine kV ?_
          have hCI11 : CI (f_91 c (2 : Int32) l) n := ci_91 hCI
          replace k := bnd_i k
          generalize f_91 c (2 : Int32) l = l11 at k hCI11 ⊢
          refine zRv rfl rfl ?_
          exact k
        · replace k := ite_f h9 k
          refine kI ?_
          refine zPs (pc1 := 47) (l1 := [(4, .int (i32 j)), (3, .int a), (0, .ref 0), (1, .ref (166 + 2 * c))]) (st1 := [.ref (166 + 2 * c), .ref 0]) 3 rfl rfl rfl ?_
          refine zGetI (F := 313) (I := c) (v := l 313 c) rfl rfl (icL (j := 3) hc rfl) rfl ?_
          refine zPs (pc1 := 51) (l1 := [(4, .int (i32 j)), (3, .int a), (0, .ref 0), (1, .ref (166 + 2 * c))]) (st1 := [.int a, .int (l 313 c), .ref 0]) 1 rfl rfl rfl ?_
          refine zCv (mj := 93) (k := 0) (n := 2) rfl rfl rfl rfl (by decide) rfl rfl rfl rfl rfl rfl ?_
          refine e_93 hl hCI ?_
          refine kV ?_
          have hCI12 : CI (f_93 (l 313 c) a l) n := ci_93 hCI
          replace k := bnd_i k
          generalize f_93 (l 313 c) a l = l12 at k hCI12 ⊢
          refine zPs (pc1 := 55) (l1 := [(4, .int (i32 j)), (3, .int a), (0, .ref 0), (1, .ref (166 + 2 * c))]) (st1 := [.int a]) 1 rfl rfl rfl ?_
          refine zCs (mj := 76) rfl rfl rfl rfl rfl rfl rfl rfl ?_
          refine e_76 (fun h13 => ?_) (fun h13 => ?_)
          · replace k := ite_t h13 k
            have h14 := isN_lt h13
            refine kI ?_
            refine zPs (pc1 := 70) (l1 := [(4, .int (i32 j)), (3, .int a), (0, .ref 0), (1, .ref (166 + 2 * c))]) (st1 := [.int a, .ref (166 + 2 * c)]) 3 rfl rfl rfl ?_
            refine zPutI (F := 313) (I := c) rfl rfl (icL (j := 3) hc rfl) rfl ?_
            refine zPs (pc1 := 76) (l1 := [(4, .int (i32 j)), (3, .int a), (0, .ref 0), (1, .ref (166 + 2 * c))]) (st1 := [.ref 0, .ref (166 + 2 * c), .ref 0]) 3 rfl rfl rfl ?_
            refine zGetR (r := 1) rfl rfl ⟨by decide, rfl, by decide, rfl⟩ ?_
            refine zPs (pc1 := 80) (l1 := [(4, .int (i32 j)), (3, .int a), (0, .ref 0), (1, .ref (166 + 2 * c))]) (st1 := [.int a, .ref 1, .ref (166 + 2 * c), .ref 0]) 1 rfl rfl rfl ?_
            refine zAalE (n := a.toNatClampNeg) h14.2 rfl rfl (irN h14.1) ?_
            refine zCv (mj := 82) (k := 0) (n := 2) rfl rfl rfl rfl (by decide) rfl rfl rfl rfl rfl rfl ?_
            refine e_82 hl (CI_up hCI12 rfl) hc h14.1 ?_
            refine kI ?_
            have hCI15 : CI (f_82 n c a.toNatClampNeg (up2 l12 313 c a)).2 n := ci_82 (CI_up hCI12 rfl)
            replace k := bnd2_i k
            generalize (f_82 n c a.toNatClampNeg (up2 l12 313 c a)).1 = v15 at k ⊢
            generalize (f_82 n c a.toNatClampNeg (up2 l12 313 c a)).2 = l15 at k hCI15 ⊢
            refine zPs (pc1 := 88) (l1 := [(4, .int (i32 j + (1 : Int32))), (3, .int v15), (0, .ref 0), (1, .ref (166 + 2 * c))]) (st1 := []) 2 rfl rfl rfl ?_
            refine zTo (ml' := [(4, .int (i32 (j + 1))), (3, .int v15), (0, .ref 0), (1, .ref (166 + 2 * c))]) (st' := []) (by rw [show (i32 j + (1 : Int32)) = i32 (j + 1) from i32_add j 1]) rfl ?_
            refine zPs (pc1 := 11) (l1 := [(4, .int (i32 (j + 1))), (3, .int v15), (0, .ref 0), (1, .ref (166 + 2 * c))]) (st1 := []) 1 rfl rfl rfl ?_
            refine zMl (ml' := [(4, .int (i32 (j + 1))), (3, .int v15), (0, .ref 0), (1, .ref (166 + 2 * c))]) ⟨rfl, rfl, rfl, rfl, trivial⟩ rfl rfl ?_
            exact ih (j + 1) v15 l15 (by omega) hCI15 k
          · replace k := ite_f h13 k
            refine kI ?_
            refine zPs (pc1 := 64) (l1 := [(4, .int (i32 j)), (3, .int a), (0, .ref 0), (1, .ref (166 + 2 * c))]) (st1 := [.int (0 : Int32), .ref (166 + 2 * c), .ref 0]) 4 rfl rfl rfl ?_
            refine zCv (mj := 91) (k := 0) (n := 2) rfl rfl rfl rfl (by decide) rfl rfl rfl rfl rfl rfl ?_
            refine e_91 hl hCI12 hc ?_
            refine kV ?_
            have hCI16 : CI (f_91 c (0 : Int32) l12) n := ci_91 hCI12
            replace k := bnd_i k
            generalize f_91 c (0 : Int32) l12 = l16 at k hCI16 ⊢
            refine zRv rfl rfl ?_
            exact k
theorem ci_g_81 {n : Nat} {c : Nat} : ∀ (d j : Nat) (a : Int32) (l : Sg), CI l n → CI (g_81 n c d j a l) n := by
  intro d
  induction d with
  | zero =>
    intro j a l h
    rw [g_81]
    (repeat' first | with_reducible exact h | with_reducible refine CI_ite ?_ ?_ | with_reducible refine CI_ite2 ?_ ?_ | with_reducible refine CI_ite3 ?_ ?_ | with_reducible refine CI_bnd ?_ | with_reducible refine CI_bnd' ?_ | with_reducible refine CI_bnd3 ?_ | with_reducible refine CI_bnd2 ?_ | with_reducible refine CI_bnd2' ?_ | with_reducible refine CI_bnd23 ?_ | with_reducible refine CI_up ?_ ?_ | with_reducible refine ci_1 ?_ | with_reducible refine ci_2 ?_ | with_reducible refine ci_17 ?_ | with_reducible refine ci_18 ?_ | with_reducible refine ci_19 ?_ | with_reducible refine ci_20 ?_ | with_reducible refine ci_25 ?_ | with_reducible refine ci_g_181 _ _ _ ?_ | with_reducible refine ci_181 ?_ | with_reducible refine ci_4 ?_ | with_reducible refine ci_g_6 _ _ _ ?_ | with_reducible refine ci_6 ?_ | with_reducible refine ci_g_5 _ _ _ _ (by omega) (by omega) ?_ | with_reducible refine ci_5 ?_ | with_reducible refine ci_22 ?_ | with_reducible refine ci_23 ?_ | with_reducible refine ci_92 ?_ | with_reducible refine ci_101 ?_ | with_reducible refine ci_91 ?_ | with_reducible refine ci_93 ?_ | with_reducible refine ci_90 ?_ | with_reducible refine ci_100 ?_ | with_reducible refine ci_82 ?_) <;> rfl
  | succ d ih =>
    intro j a l h
    rw [g_81]
    (repeat' first | with_reducible exact h | with_reducible refine CI_ite ?_ ?_ | with_reducible refine CI_ite2 ?_ ?_ | with_reducible refine CI_ite3 ?_ ?_ | with_reducible refine CI_bnd ?_ | with_reducible refine CI_bnd' ?_ | with_reducible refine CI_bnd3 ?_ | with_reducible refine CI_bnd2 ?_ | with_reducible refine CI_bnd2' ?_ | with_reducible refine CI_bnd23 ?_ | with_reducible refine CI_up ?_ ?_ | with_reducible refine ci_1 ?_ | with_reducible refine ci_2 ?_ | with_reducible refine ci_17 ?_ | with_reducible refine ci_18 ?_ | with_reducible refine ci_19 ?_ | with_reducible refine ci_20 ?_ | with_reducible refine ci_25 ?_ | with_reducible refine ci_g_181 _ _ _ ?_ | with_reducible refine ci_181 ?_ | with_reducible refine ci_4 ?_ | with_reducible refine ci_g_6 _ _ _ ?_ | with_reducible refine ci_6 ?_ | with_reducible refine ci_g_5 _ _ _ _ (by omega) (by omega) ?_ | with_reducible refine ci_5 ?_ | with_reducible refine ci_22 ?_ | with_reducible refine ci_23 ?_ | with_reducible refine ci_92 ?_ | with_reducible refine ci_101 ?_ | with_reducible refine ci_91 ?_ | with_reducible refine ci_93 ?_ | with_reducible refine ci_90 ?_ | with_reducible refine ci_100 ?_ | with_reducible refine ci_82 ?_ | with_reducible refine ih _ _ _ ?_) <;> rfl
noncomputable def f_81 (n : Nat) (c : Nat) (t : Int32) (l : Sg) : Sg := (bnd (f_92 c (0 : Int32) l) fun l1 => g_81 n c 21 0 t l1)
theorem e_81 {l : Sg} {P : MO → Sg → Prop} {n : Nat} {c : Nat} {t : Int32} (hl : n ≤ 60) (hCI : CI l n) (hc : c < 60) (k : Rk (Qm P) (f_81 n c t l)) : Es false 81 [.ref 0, .ref (166 + 2 * c), .int t] l P := by
  unfold f_81 at k
  refine Es.of ?_
  refine zPs (pc1 := 3) (l1 := [(0, .ref 0), (1, .ref (166 + 2 * c)), (2, .int t)]) (st1 := [.int (0 : Int32), .ref (166 + 2 * c), .ref 0]) 3 rfl rfl rfl ?_
  refine zCv (mj := 92) (k := 0) (n := 2) rfl rfl rfl rfl (by decide) rfl rfl rfl rfl rfl rfl ?_
  refine e_92 hl hCI hc ?_
  refine kV ?_
  have hCI1 : CI (f_92 c (0 : Int32) l) n := ci_92 hCI
  replace k := bnd_i k
  generalize f_92 c (0 : Int32) l = l1 at k hCI1 ⊢
  refine zPs (pc1 := 11) (l1 := [(4, .int (0 : Int32)), (3, .int t), (0, .ref 0), (1, .ref (166 + 2 * c)), (2, .int t)]) (st1 := []) 4 rfl rfl rfl ?_
  refine zMl (ml' := [(4, .int (i32 0)), (3, .int t), (0, .ref 0), (1, .ref (166 + 2 * c))]) ⟨rfl, rfl, rfl, rfl, trivial⟩ rfl rfl ?_
  exact lg_81 hl hc 21 0 t l1 (by omega) hCI1 k
theorem ci_81 {l : Sg} {n : Nat} {c : Nat} {t : Int32} (h : CI l n) : CI (f_81 n c t l) n := by
  unfold f_81
  (repeat' first | with_reducible exact h | with_reducible refine CI_ite ?_ ?_ | with_reducible refine CI_ite2 ?_ ?_ | with_reducible refine CI_ite3 ?_ ?_ | with_reducible refine CI_bnd ?_ | with_reducible refine CI_bnd' ?_ | with_reducible refine CI_bnd3 ?_ | with_reducible refine CI_bnd2 ?_ | with_reducible refine CI_bnd2' ?_ | with_reducible refine CI_bnd23 ?_ | with_reducible refine CI_up ?_ ?_ | with_reducible refine ci_1 ?_ | with_reducible refine ci_2 ?_ | with_reducible refine ci_17 ?_ | with_reducible refine ci_18 ?_ | with_reducible refine ci_19 ?_ | with_reducible refine ci_20 ?_ | with_reducible refine ci_25 ?_ | with_reducible refine ci_g_181 _ _ _ ?_ | with_reducible refine ci_181 ?_ | with_reducible refine ci_4 ?_ | with_reducible refine ci_g_6 _ _ _ ?_ | with_reducible refine ci_6 ?_ | with_reducible refine ci_g_5 _ _ _ _ (by omega) (by omega) ?_ | with_reducible refine ci_5 ?_ | with_reducible refine ci_22 ?_ | with_reducible refine ci_23 ?_ | with_reducible refine ci_92 ?_ | with_reducible refine ci_101 ?_ | with_reducible refine ci_91 ?_ | with_reducible refine ci_93 ?_ | with_reducible refine ci_90 ?_ | with_reducible refine ci_100 ?_ | with_reducible refine ci_82 ?_ | with_reducible refine ci_g_81 _ _ _ _ ?_) <;> rfl
noncomputable def f_80 (n : Nat) (c : Nat) (t : Int32) (l : Sg) : Sg := (if isN t then (bnd (f_81 n c t (up2 l 310 t.toNatClampNeg (l 310 t.toNatClampNeg + (1 : Int32)))) fun l3 => l3) else (bnd (f_81 n c t l) fun l4 => l4))
theorem e_80 {l : Sg} {P : MO → Sg → Prop} {n : Nat} {c : Nat} {t : Int32} (hl : n ≤ 60) (hCI : CI l n) (hc : c < 60) (k : Rk (Qm P) (f_80 n c t l)) : Es false 80 [.ref 0, .ref (166 + 2 * c), .int t] l P := by
  unfold f_80 at k
  refine Es.of ?_
  refine zPs (pc1 := 1) (l1 := [(0, .ref 0), (1, .ref (166 + 2 * c)), (2, .int t)]) (st1 := [.int t]) 1 rfl rfl rfl ?_
  refine zCs (mj := 76) rfl rfl rfl rfl rfl rfl rfl rfl ?_
  refine e_76 (fun h1 => ?_) (fun h1 => ?_)
  · replace k := ite_t h1 k
    have h2 := isN_lt h1
    refine kI ?_
    refine zPs (pc1 := 8) (l1 := [(0, .ref 0), (1, .ref (166 + 2 * c)), (2, .int t)]) (st1 := [.ref 0]) 2 rfl rfl rfl ?_
    refine zGetR (r := 45) rfl rfl ⟨by decide, rfl, by decide, rfl⟩ ?_
    refine zPs (pc1 := 13) (l1 := [(0, .ref 0), (1, .ref (166 + 2 * c)), (2, .int t)]) (st1 := [.int t, .ref 45, .int t, .ref 45]) 2 rfl rfl rfl ?_
    refine zIalE (n := t.toNatClampNeg) (v := l 310 t.toNatClampNeg) h2.2 rfl (icBeg h2.1) rfl ?_
    refine zPs (pc1 := 16) (l1 := [(0, .ref 0), (1, .ref (166 + 2 * c)), (2, .int t)]) (st1 := [.int (l 310 t.toNatClampNeg + (1 : Int32)), .int t, .ref 45]) 2 rfl rfl rfl ?_
    refine zIasE (n := t.toNatClampNeg) (F := 310) (I := t.toNatClampNeg) h2.2 rfl (icBeg h2.1) ?_
    refine zPs (pc1 := 20) (l1 := [(0, .ref 0), (1, .ref (166 + 2 * c)), (2, .int t)]) (st1 := [.int t, .ref (166 + 2 * c), .ref 0]) 3 rfl rfl rfl ?_
    refine zCv (mj := 81) (k := 0) (n := 2) rfl rfl rfl rfl (by decide) rfl rfl rfl rfl rfl rfl ?_
    refine e_81 hl (CI_up hCI rfl) hc ?_
    refine kV ?_
    have hCI3 : CI (f_81 n c t (up2 l 310 t.toNatClampNeg (l 310 t.toNatClampNeg + (1 : Int32)))) n := ci_81 (CI_up hCI rfl)
    replace k := bnd_i k
    generalize f_81 n c t (up2 l 310 t.toNatClampNeg (l 310 t.toNatClampNeg + (1 : Int32))) = l3 at k hCI3 ⊢
    refine zRv rfl rfl ?_
    exact k
  · replace k := ite_f h1 k
    refine kI ?_
    refine zPs (pc1 := 20) (l1 := [(0, .ref 0), (1, .ref (166 + 2 * c)), (2, .int t)]) (st1 := [.int t, .ref (166 + 2 * c), .ref 0]) 4 rfl rfl rfl ?_
    refine zCv (mj := 81) (k := 0) (n := 2) rfl rfl rfl rfl (by decide) rfl rfl rfl rfl rfl rfl ?_
    refine e_81 hl hCI hc ?_
    refine kV ?_
    have hCI4 : CI (f_81 n c t l) n := ci_81 hCI
    replace k := bnd_i k
    generalize f_81 n c t l = l4 at k hCI4 ⊢
    refine zRv rfl rfl ?_
    exact k
theorem ci_80 {l : Sg} {n : Nat} {c : Nat} {t : Int32} (h : CI l n) : CI (f_80 n c t l) n := by
  unfold f_80
  (repeat' first | with_reducible exact h | with_reducible refine CI_ite ?_ ?_ | with_reducible refine CI_ite2 ?_ ?_ | with_reducible refine CI_ite3 ?_ ?_ | with_reducible refine CI_bnd ?_ | with_reducible refine CI_bnd' ?_ | with_reducible refine CI_bnd3 ?_ | with_reducible refine CI_bnd2 ?_ | with_reducible refine CI_bnd2' ?_ | with_reducible refine CI_bnd23 ?_ | with_reducible refine CI_up ?_ ?_ | with_reducible refine ci_1 ?_ | with_reducible refine ci_2 ?_ | with_reducible refine ci_17 ?_ | with_reducible refine ci_18 ?_ | with_reducible refine ci_19 ?_ | with_reducible refine ci_20 ?_ | with_reducible refine ci_25 ?_ | with_reducible refine ci_g_181 _ _ _ ?_ | with_reducible refine ci_181 ?_ | with_reducible refine ci_4 ?_ | with_reducible refine ci_g_6 _ _ _ ?_ | with_reducible refine ci_6 ?_ | with_reducible refine ci_g_5 _ _ _ _ (by omega) (by omega) ?_ | with_reducible refine ci_5 ?_ | with_reducible refine ci_22 ?_ | with_reducible refine ci_23 ?_ | with_reducible refine ci_92 ?_ | with_reducible refine ci_101 ?_ | with_reducible refine ci_91 ?_ | with_reducible refine ci_93 ?_ | with_reducible refine ci_90 ?_ | with_reducible refine ci_100 ?_ | with_reducible refine ci_82 ?_ | with_reducible refine ci_g_81 _ _ _ _ ?_ | with_reducible refine ci_81 ?_) <;> rfl
noncomputable def f_87 (c : Nat) (m : Nat) (l : Sg) : Int32 × Sg := (if ¬ l 296 m = (2 : Int32) then (if l 418 c < l 437 m then (if (l 315 c + (1 : Int32)) < l 305 m then (bnd (f_19 c (l 292 0 + l 303 m) (up2 l 315 c (l 315 c + (1 : Int32)))) fun l4 => ((-2 : Int32), l4)) else (l 302 m, (up2 l 315 c (l 315 c + (1 : Int32))))) else (if l 301 m = (-2 : Int32) then (if (l 315 c + (1 : Int32)) < l 305 m then (bnd (f_19 c (l 292 0 + l 303 m) (up2 (up2 l 317 c (f_21 c l)) 315 c (l 315 c + (1 : Int32)))) fun l7 => ((-2 : Int32), l7)) else (l 302 m, (up2 (up2 l 317 c (f_21 c l)) 315 c (l 315 c + (1 : Int32))))) else (l 301 m, (up2 l 317 c (f_21 c l))))) else (if (f_10 m (l 314 c) l) = (-2 : Int32) then (if (l 315 c + (1 : Int32)) < l 305 m then (bnd (f_19 c (l 292 0 + l 303 m) (up2 l 315 c (l 315 c + (1 : Int32)))) fun l10 => ((-2 : Int32), l10)) else (l 302 m, (up2 l 315 c (l 315 c + (1 : Int32))))) else ((f_10 m (l 314 c) l), l)))
theorem e_87 {l : Sg} {P : MO → Sg → Prop} {n : Nat} {c : Nat} {m : Nat} (hl : n ≤ 60) (hCI : CI l n) (hc : c < 60) (hm : m < 30) (k : Rk (Qb P) (f_87 c m l)) : Es false 87 [.ref 0, .ref (166 + 2 * c), .ref (46 + 4 * m)] l P := by
  unfold f_87 at k
  refine Es.of ?_
  refine zPs (pc1 := 4) (l1 := [(3, .int (-2 : Int32)), (0, .ref 0), (1, .ref (166 + 2 * c)), (2, .ref (46 + 4 * m))]) (st1 := [.ref (46 + 4 * m)]) 3 rfl rfl rfl ?_
  refine zGetI (F := 296) (I := m) (v := l 296 m) rfl rfl (icN (j := 0) hm rfl) rfl ?_
  refine zPs (pc1 := 8) (l1 := [(3, .int (-2 : Int32)), (0, .ref 0), (1, .ref (166 + 2 * c)), (2, .ref (46 + 4 * m))]) (st1 := [.int (2 : Int32), .int (l 296 m)]) 1 rfl rfl rfl ?_
  refine zCn rfl (fun h1 => ?_) (fun h1 => ?_)
  · replace k := ite_t h1 k
    refine zPs (pc1 := 27) (l1 := [(3, .int (-2 : Int32)), (0, .ref 0), (1, .ref (166 + 2 * c)), (2, .ref (46 + 4 * m))]) (st1 := [.ref (166 + 2 * c)]) 1 rfl rfl rfl ?_
    refine zGetI (F := 418) (I := c) (v := l 418 c) rfl rfl (icL (j := 8) hc rfl) rfl ?_
    refine zPs (pc1 := 31) (l1 := [(3, .int (-2 : Int32)), (0, .ref 0), (1, .ref (166 + 2 * c)), (2, .ref (46 + 4 * m))]) (st1 := [.ref (46 + 4 * m), .int (l 418 c)]) 1 rfl rfl rfl ?_
    refine zGetI (F := 437) (I := m) (v := l 437 m) rfl rfl (icN (j := 7) hm rfl) rfl ?_
    refine zClt rfl (fun h2 => ?_) (fun h2 => ?_)
    · replace k := ite_t h2 k
      refine zPs (pc1 := 60) (l1 := [(3, .int (-2 : Int32)), (0, .ref 0), (1, .ref (166 + 2 * c)), (2, .ref (46 + 4 * m))]) (st1 := [.ref (166 + 2 * c), .ref (166 + 2 * c)]) 5 rfl rfl rfl ?_
      refine zGetI (F := 315) (I := c) (v := l 315 c) rfl rfl (icL (j := 9) hc rfl) rfl ?_
      refine zPs (pc1 := 65) (l1 := [(3, .int (-2 : Int32)), (0, .ref 0), (1, .ref (166 + 2 * c)), (2, .ref (46 + 4 * m))]) (st1 := [.int (l 315 c + (1 : Int32)), .ref (166 + 2 * c)]) 2 rfl rfl rfl ?_
      refine zPutI (F := 315) (I := c) rfl rfl (icL (j := 9) hc rfl) rfl ?_
      refine zPs (pc1 := 69) (l1 := [(3, .int (-2 : Int32)), (0, .ref 0), (1, .ref (166 + 2 * c)), (2, .ref (46 + 4 * m))]) (st1 := [.ref (166 + 2 * c)]) 1 rfl rfl rfl ?_
      refine zGetI (F := 315) (I := c) (v := (l 315 c + (1 : Int32))) rfl rfl (icL (j := 9) hc rfl) (by simp [up2]) ?_
      refine zPs (pc1 := 73) (l1 := [(3, .int (-2 : Int32)), (0, .ref 0), (1, .ref (166 + 2 * c)), (2, .ref (46 + 4 * m))]) (st1 := [.ref (46 + 4 * m), .int (l 315 c + (1 : Int32))]) 1 rfl rfl rfl ?_
      refine zGetI (F := 305) (I := m) (v := l 305 m) rfl rfl (icN (j := 6) hm rfl) rfl ?_
      refine zClt rfl (fun h3 => ?_) (fun h3 => ?_)
      · replace k := ite_t h3 k
        refine zPs (pc1 := 86) (l1 := [(3, .int (-2 : Int32)), (0, .ref 0), (1, .ref (166 + 2 * c)), (2, .ref (46 + 4 * m))]) (st1 := [.ref 0, .ref (166 + 2 * c)]) 2 rfl rfl rfl ?_
        refine zGetI (F := 292) (I := 0) (v := l 292 0) rfl rfl icNow rfl ?_
        refine zPs (pc1 := 90) (l1 := [(3, .int (-2 : Int32)), (0, .ref 0), (1, .ref (166 + 2 * c)), (2, .ref (46 + 4 * m))]) (st1 := [.ref (46 + 4 * m), .int (l 292 0), .ref (166 + 2 * c)]) 1 rfl rfl rfl ?_
        refine zGetI (F := 303) (I := m) (v := l 303 m) rfl rfl (icN (j := 4) hm rfl) rfl ?_
        refine zPs (pc1 := 94) (l1 := [(3, .int (-2 : Int32)), (0, .ref 0), (1, .ref (166 + 2 * c)), (2, .ref (46 + 4 * m))]) (st1 := [.int (l 292 0 + l 303 m), .ref (166 + 2 * c)]) 1 rfl rfl rfl ?_
        refine zCv (mj := 19) (k := (166 + 2 * c)) (n := 1) rfl rfl rfl rfl (by have := hc; omega) (tagK_line hc) rfl rfl rfl rfl rfl ?_
        refine e_19 hc ?_
        refine kV ?_
        have hCI4 : CI (f_19 c (l 292 0 + l 303 m) (up2 l 315 c (l 315 c + (1 : Int32)))) n := ci_19 (CI_up hCI rfl)
        replace k := bnd_i k
        generalize f_19 c (l 292 0 + l 303 m) (up2 l 315 c (l 315 c + (1 : Int32))) = l4 at k hCI4 ⊢
        refine zPs (pc1 := 99) (l1 := [(3, .int (-2 : Int32)), (0, .ref 0), (1, .ref (166 + 2 * c)), (2, .ref (46 + 4 * m))]) (st1 := [.int (-2 : Int32)]) 1 rfl rfl rfl ?_
        refine zRi rfl rfl ?_
        exact k
      · replace k := ite_f h3 k
        refine zPs (pc1 := 80) (l1 := [(3, .int (-2 : Int32)), (0, .ref 0), (1, .ref (166 + 2 * c)), (2, .ref (46 + 4 * m))]) (st1 := [.ref (46 + 4 * m)]) 1 rfl rfl rfl ?_
        refine zGetI (F := 302) (I := m) (v := l 302 m) rfl rfl (icN (j := 2) hm rfl) rfl ?_
        refine zRi rfl rfl ?_
        exact k
    · replace k := ite_f h2 k
      refine zPs (pc1 := 39) (l1 := [(3, .int (-2 : Int32)), (0, .ref 0), (1, .ref (166 + 2 * c)), (2, .ref (46 + 4 * m))]) (st1 := [.ref (166 + 2 * c), .ref (166 + 2 * c)]) 2 rfl rfl rfl ?_
      refine zCv (mj := 21) (k := (166 + 2 * c)) (n := 0) rfl rfl rfl rfl (by have := hc; omega) (tagK_line hc) rfl rfl rfl rfl rfl ?_
      refine e_21 hc ?_
      refine kI ?_
      refine zPutI (F := 317) (I := c) rfl rfl (icL (j := 6) hc rfl) rfl ?_
      refine zPs (pc1 := 46) (l1 := [(3, .int (-2 : Int32)), (0, .ref 0), (1, .ref (166 + 2 * c)), (2, .ref (46 + 4 * m))]) (st1 := [.ref (46 + 4 * m)]) 1 rfl rfl rfl ?_
      refine zGetI (F := 301) (I := m) (v := l 301 m) rfl rfl (icN (j := 1) hm rfl) rfl ?_
      refine zPs (pc1 := 53) (l1 := [(3, .int (l 301 m)), (0, .ref 0), (1, .ref (166 + 2 * c)), (2, .ref (46 + 4 * m))]) (st1 := [.int (-2 : Int32), .int (l 301 m)]) 3 rfl rfl rfl ?_
      refine zCe rfl (fun h5 => ?_) (fun h5 => ?_)
      · replace k := ite_t h5 k
        refine zPs (pc1 := 60) (l1 := [(3, .int (l 301 m)), (0, .ref 0), (1, .ref (166 + 2 * c)), (2, .ref (46 + 4 * m))]) (st1 := [.ref (166 + 2 * c), .ref (166 + 2 * c)]) 2 rfl rfl rfl ?_
        refine zGetI (F := 315) (I := c) (v := l 315 c) rfl rfl (icL (j := 9) hc rfl) rfl ?_
        refine zPs (pc1 := 65) (l1 := [(3, .int (l 301 m)), (0, .ref 0), (1, .ref (166 + 2 * c)), (2, .ref (46 + 4 * m))]) (st1 := [.int (l 315 c + (1 : Int32)), .ref (166 + 2 * c)]) 2 rfl rfl rfl ?_
        refine zPutI (F := 315) (I := c) rfl rfl (icL (j := 9) hc rfl) rfl ?_
        refine zPs (pc1 := 69) (l1 := [(3, .int (l 301 m)), (0, .ref 0), (1, .ref (166 + 2 * c)), (2, .ref (46 + 4 * m))]) (st1 := [.ref (166 + 2 * c)]) 1 rfl rfl rfl ?_
        refine zGetI (F := 315) (I := c) (v := (l 315 c + (1 : Int32))) rfl rfl (icL (j := 9) hc rfl) (by simp [up2]) ?_
        refine zPs (pc1 := 73) (l1 := [(3, .int (l 301 m)), (0, .ref 0), (1, .ref (166 + 2 * c)), (2, .ref (46 + 4 * m))]) (st1 := [.ref (46 + 4 * m), .int (l 315 c + (1 : Int32))]) 1 rfl rfl rfl ?_
        refine zGetI (F := 305) (I := m) (v := l 305 m) rfl rfl (icN (j := 6) hm rfl) rfl ?_
        refine zClt rfl (fun h6 => ?_) (fun h6 => ?_)
        · replace k := ite_t h6 k
          refine zPs (pc1 := 86) (l1 := [(3, .int (l 301 m)), (0, .ref 0), (1, .ref (166 + 2 * c)), (2, .ref (46 + 4 * m))]) (st1 := [.ref 0, .ref (166 + 2 * c)]) 2 rfl rfl rfl ?_
          refine zGetI (F := 292) (I := 0) (v := l 292 0) rfl rfl icNow rfl ?_
          refine zPs (pc1 := 90) (l1 := [(3, .int (l 301 m)), (0, .ref 0), (1, .ref (166 + 2 * c)), (2, .ref (46 + 4 * m))]) (st1 := [.ref (46 + 4 * m), .int (l 292 0), .ref (166 + 2 * c)]) 1 rfl rfl rfl ?_
          refine zGetI (F := 303) (I := m) (v := l 303 m) rfl rfl (icN (j := 4) hm rfl) rfl ?_
          refine zPs (pc1 := 94) (l1 := [(3, .int (l 301 m)), (0, .ref 0), (1, .ref (166 + 2 * c)), (2, .ref (46 + 4 * m))]) (st1 := [.int (l 292 0 + l 303 m), .ref (166 + 2 * c)]) 1 rfl rfl rfl ?_
          refine zCv (mj := 19) (k := (166 + 2 * c)) (n := 1) rfl rfl rfl rfl (by have := hc; omega) (tagK_line hc) rfl rfl rfl rfl rfl ?_
          refine e_19 hc ?_
          refine kV ?_
          have hCI7 : CI (f_19 c (l 292 0 + l 303 m) (up2 (up2 l 317 c (f_21 c l)) 315 c (l 315 c + (1 : Int32)))) n := ci_19 (CI_up (CI_up hCI rfl) rfl)
          replace k := bnd_i k
          generalize f_19 c (l 292 0 + l 303 m) (up2 (up2 l 317 c (f_21 c l)) 315 c (l 315 c + (1 : Int32))) = l7 at k hCI7 ⊢
          refine zPs (pc1 := 99) (l1 := [(3, .int (l 301 m)), (0, .ref 0), (1, .ref (166 + 2 * c)), (2, .ref (46 + 4 * m))]) (st1 := [.int (-2 : Int32)]) 1 rfl rfl rfl ?_
          refine zRi rfl rfl ?_
          exact k
        · replace k := ite_f h6 k
          refine zPs (pc1 := 80) (l1 := [(3, .int (l 301 m)), (0, .ref 0), (1, .ref (166 + 2 * c)), (2, .ref (46 + 4 * m))]) (st1 := [.ref (46 + 4 * m)]) 1 rfl rfl rfl ?_
          refine zGetI (F := 302) (I := m) (v := l 302 m) rfl rfl (icN (j := 2) hm rfl) rfl ?_
          refine zRi rfl rfl ?_
          exact k
      · replace k := ite_f h5 k
        refine zPs (pc1 := 57) (l1 := [(3, .int (l 301 m)), (0, .ref 0), (1, .ref (166 + 2 * c)), (2, .ref (46 + 4 * m))]) (st1 := [.int (l 301 m)]) 1 rfl rfl rfl ?_
        refine zRi rfl rfl ?_
        exact k
  · replace k := ite_f (not_not_intro h1) k
    refine zPs (pc1 := 12) (l1 := [(3, .int (-2 : Int32)), (0, .ref 0), (1, .ref (166 + 2 * c)), (2, .ref (46 + 4 * m))]) (st1 := [.ref (46 + 4 * m)]) 1 rfl rfl rfl ?_
    refine zGetR (r := (47 + 4 * m)) rfl rfl (irKs hm) ?_
    refine zPs (pc1 := 16) (l1 := [(3, .int (-2 : Int32)), (0, .ref 0), (1, .ref (166 + 2 * c)), (2, .ref (46 + 4 * m))]) (st1 := [.ref (166 + 2 * c), .ref (47 + 4 * m)]) 1 rfl rfl rfl ?_
    refine zGetI (F := 314) (I := c) (v := l 314 c) rfl rfl (icL (j := 7) hc rfl) rfl ?_
    refine zCv (mj := 10) (k := (47 + 4 * m)) (n := 1) rfl rfl rfl rfl (by have := hm; omega) (tagK_keys hm) rfl rfl rfl rfl rfl ?_
    refine e_10 hm ?_
    refine kI ?_
    refine zPs (pc1 := 53) (l1 := [(3, .int (f_10 m (l 314 c) l)), (0, .ref 0), (1, .ref (166 + 2 * c)), (2, .ref (46 + 4 * m))]) (st1 := [.int (-2 : Int32), .int (f_10 m (l 314 c) l)]) 4 rfl rfl rfl ?_
    refine zCe rfl (fun h8 => ?_) (fun h8 => ?_)
    · replace k := ite_t h8 k
      refine zPs (pc1 := 60) (l1 := [(3, .int (f_10 m (l 314 c) l)), (0, .ref 0), (1, .ref (166 + 2 * c)), (2, .ref (46 + 4 * m))]) (st1 := [.ref (166 + 2 * c), .ref (166 + 2 * c)]) 2 rfl rfl rfl ?_
      refine zGetI (F := 315) (I := c) (v := l 315 c) rfl rfl (icL (j := 9) hc rfl) rfl ?_
      refine zPs (pc1 := 65) (l1 := [(3, .int (f_10 m (l 314 c) l)), (0, .ref 0), (1, .ref (166 + 2 * c)), (2, .ref (46 + 4 * m))]) (st1 := [.int (l 315 c + (1 : Int32)), .ref (166 + 2 * c)]) 2 rfl rfl rfl ?_
      refine zPutI (F := 315) (I := c) rfl rfl (icL (j := 9) hc rfl) rfl ?_
      refine zPs (pc1 := 69) (l1 := [(3, .int (f_10 m (l 314 c) l)), (0, .ref 0), (1, .ref (166 + 2 * c)), (2, .ref (46 + 4 * m))]) (st1 := [.ref (166 + 2 * c)]) 1 rfl rfl rfl ?_
      refine zGetI (F := 315) (I := c) (v := (l 315 c + (1 : Int32))) rfl rfl (icL (j := 9) hc rfl) (by simp [up2]) ?_
      refine zPs (pc1 := 73) (l1 := [(3, .int (f_10 m (l 314 c) l)), (0, .ref 0), (1, .ref (166 + 2 * c)), (2, .ref (46 + 4 * m))]) (st1 := [.ref (46 + 4 * m), .int (l 315 c + (1 : Int32))]) 1 rfl rfl rfl ?_
      refine zGetI (F := 305) (I := m) (v := l 305 m) rfl rfl (icN (j := 6) hm rfl) rfl ?_
      refine zClt rfl (fun h9 => ?_) (fun h9 => ?_)
      · replace k := ite_t h9 k
        refine zPs (pc1 := 86) (l1 := [(3, .int (f_10 m (l 314 c) l)), (0, .ref 0), (1, .ref (166 + 2 * c)), (2, .ref (46 + 4 * m))]) (st1 := [.ref 0, .ref (166 + 2 * c)]) 2 rfl rfl rfl ?_
        refine zGetI (F := 292) (I := 0) (v := l 292 0) rfl rfl icNow rfl ?_
        refine zPs (pc1 := 90) (l1 := [(3, .int (f_10 m (l 314 c) l)), (0, .ref 0), (1, .ref (166 + 2 * c)), (2, .ref (46 + 4 * m))]) (st1 := [.ref (46 + 4 * m), .int (l 292 0), .ref (166 + 2 * c)]) 1 rfl rfl rfl ?_
        refine zGetI (F := 303) (I := m) (v := l 303 m) rfl rfl (icN (j := 4) hm rfl) rfl ?_
        refine zPs (pc1 := 94) (l1 := [(3, .int (f_10 m (l 314 c) l)), (0, .ref 0), (1, .ref (166 + 2 * c)), (2, .ref (46 + 4 * m))]) (st1 := [.int (l 292 0 + l 303 m), .ref (166 + 2 * c)]) 1 rfl rfl rfl ?_
        refine zCv (mj := 19) (k := (166 + 2 * c)) (n := 1) rfl rfl rfl rfl (by have := hc; omega) (tagK_line hc) rfl rfl rfl rfl rfl ?_
        refine e_19 hc ?_
        refine kV ?_
        have hCI10 : CI (f_19 c (l 292 0 + l 303 m) (up2 l 315 c (l 315 c + (1 : Int32)))) n := ci_19 (CI_up hCI rfl)
        replace k := bnd_i k
        generalize f_19 c (l 292 0 + l 303 m) (up2 l 315 c (l 315 c + (1 : Int32))) = l10 at k hCI10 ⊢
        refine zPs (pc1 := 99) (l1 := [(3, .int (f_10 m (l 314 c) l)), (0, .ref 0), (1, .ref (166 + 2 * c)), (2, .ref (46 + 4 * m))]) (st1 := [.int (-2 : Int32)]) 1 rfl rfl rfl ?_
        refine zRi rfl rfl ?_
        exact k
      · replace k := ite_f h9 k
        refine zPs (pc1 := 80) (l1 := [(3, .int (f_10 m (l 314 c) l)), (0, .ref 0), (1, .ref (166 + 2 * c)), (2, .ref (46 + 4 * m))]) (st1 := [.ref (46 + 4 * m)]) 1 rfl rfl rfl ?_
        refine zGetI (F := 302) (I := m) (v := l 302 m) rfl rfl (icN (j := 2) hm rfl) rfl ?_
        refine zRi rfl rfl ?_
        exact k
    · replace k := ite_f h8 k
      refine zPs (pc1 := 57) (l1 := [(3, .int (f_10 m (l 314 c) l)), (0, .ref 0), (1, .ref (166 + 2 * c)), (2, .ref (46 + 4 * m))]) (st1 := [.int (f_10 m (l 314 c) l)]) 1 rfl rfl rfl ?_
      refine zRi rfl rfl ?_
      exact k
theorem ci_87 {l : Sg} {n : Nat} {c : Nat} {m : Nat} (h : CI l n) : CI (f_87 c m l).2 n := by
  unfold f_87
  (repeat' first | with_reducible exact h | with_reducible refine CI_ite ?_ ?_ | with_reducible refine CI_ite2 ?_ ?_ | with_reducible refine CI_ite3 ?_ ?_ | with_reducible refine CI_bnd ?_ | with_reducible refine CI_bnd' ?_ | with_reducible refine CI_bnd3 ?_ | with_reducible refine CI_bnd2 ?_ | with_reducible refine CI_bnd2' ?_ | with_reducible refine CI_bnd23 ?_ | with_reducible refine CI_up ?_ ?_ | with_reducible refine ci_1 ?_ | with_reducible refine ci_2 ?_ | with_reducible refine ci_17 ?_ | with_reducible refine ci_18 ?_ | with_reducible refine ci_19 ?_ | with_reducible refine ci_20 ?_ | with_reducible refine ci_25 ?_ | with_reducible refine ci_g_181 _ _ _ ?_ | with_reducible refine ci_181 ?_ | with_reducible refine ci_4 ?_ | with_reducible refine ci_g_6 _ _ _ ?_ | with_reducible refine ci_6 ?_ | with_reducible refine ci_g_5 _ _ _ _ (by omega) (by omega) ?_ | with_reducible refine ci_5 ?_ | with_reducible refine ci_22 ?_ | with_reducible refine ci_23 ?_ | with_reducible refine ci_92 ?_ | with_reducible refine ci_101 ?_ | with_reducible refine ci_91 ?_ | with_reducible refine ci_93 ?_ | with_reducible refine ci_90 ?_ | with_reducible refine ci_100 ?_ | with_reducible refine ci_82 ?_ | with_reducible refine ci_g_81 _ _ _ _ ?_ | with_reducible refine ci_81 ?_ | with_reducible refine ci_80 ?_) <;> rfl
noncomputable def f_86 (c : Nat) (m : Nat) (g : Int32) (l : Sg) : Int32 × Sg := (if ¬ g = (10 : Int32) then (if ¬ g = (11 : Int32) then (bnd (f_20 c g (l 292 0 + l 304 m) l) fun l3 => (if (f_26 m (l3 314 c) (l3 418 c) l3) = 0 then (bnd2 (f_87 c m l3) fun v5 l5 => (v5, l5)) else ((-2 : Int32), l3))) else (bnd2 (f_87 c m l) fun v6 l6 => (v6, l6))) else (bnd (f_19 c (l 292 0 + l 303 m) l) fun l7 => ((-2 : Int32), l7)))
theorem e_86 {l : Sg} {P : MO → Sg → Prop} {n : Nat} {c : Nat} {m : Nat} {g : Int32} (hl : n ≤ 60) (hCI : CI l n) (hc : c < 60) (hm : m < 30) (k : Rk (Qb P) (f_86 c m g l)) : Es false 86 [.ref 0, .ref (166 + 2 * c), .ref (46 + 4 * m), .int g] l P := by
  unfold f_86 at k
  refine Es.of ?_
  refine zPs (pc1 := 3) (l1 := [(0, .ref 0), (1, .ref (166 + 2 * c)), (2, .ref (46 + 4 * m)), (3, .int g)]) (st1 := [.int (10 : Int32), .int g]) 2 rfl rfl rfl ?_
  refine zCn rfl (fun h1 => ?_) (fun h1 => ?_)
  · replace k := ite_t h1 k
    refine zPs (pc1 := 25) (l1 := [(0, .ref 0), (1, .ref (166 + 2 * c)), (2, .ref (46 + 4 * m)), (3, .int g)]) (st1 := [.int (11 : Int32), .int g]) 2 rfl rfl rfl ?_
    refine zCn rfl (fun h2 => ?_) (fun h2 => ?_)
    · replace k := ite_t h2 k
      refine zPs (pc1 := 38) (l1 := [(0, .ref 0), (1, .ref (166 + 2 * c)), (2, .ref (46 + 4 * m)), (3, .int g)]) (st1 := [.ref 0, .int g, .ref (166 + 2 * c)]) 3 rfl rfl rfl ?_
      refine zGetI (F := 292) (I := 0) (v := l 292 0) rfl rfl icNow rfl ?_
      refine zPs (pc1 := 42) (l1 := [(0, .ref 0), (1, .ref (166 + 2 * c)), (2, .ref (46 + 4 * m)), (3, .int g)]) (st1 := [.ref (46 + 4 * m), .int (l 292 0), .int g, .ref (166 + 2 * c)]) 1 rfl rfl rfl ?_
      refine zGetI (F := 304) (I := m) (v := l 304 m) rfl rfl (icN (j := 5) hm rfl) rfl ?_
      refine zPs (pc1 := 46) (l1 := [(0, .ref 0), (1, .ref (166 + 2 * c)), (2, .ref (46 + 4 * m)), (3, .int g)]) (st1 := [.int (l 292 0 + l 304 m), .int g, .ref (166 + 2 * c)]) 1 rfl rfl rfl ?_
      refine zCv (mj := 20) (k := (166 + 2 * c)) (n := 2) rfl rfl rfl rfl (by have := hc; omega) (tagK_line hc) rfl rfl rfl rfl rfl ?_
      refine e_20 hc ?_
      refine kV ?_
      have hCI3 : CI (f_20 c g (l 292 0 + l 304 m) l) n := ci_20 hCI
      replace k := bnd_i k
      generalize f_20 c g (l 292 0 + l 304 m) l = l3 at k hCI3 ⊢
      refine zPs (pc1 := 51) (l1 := [(0, .ref 0), (1, .ref (166 + 2 * c)), (2, .ref (46 + 4 * m)), (3, .int g)]) (st1 := [.ref (166 + 2 * c), .ref (46 + 4 * m)]) 2 rfl rfl rfl ?_
      refine zGetI (F := 314) (I := c) (v := l3 314 c) rfl rfl (icL (j := 7) hc rfl) rfl ?_
      refine zPs (pc1 := 55) (l1 := [(0, .ref 0), (1, .ref (166 + 2 * c)), (2, .ref (46 + 4 * m)), (3, .int g)]) (st1 := [.ref (166 + 2 * c), .int (l3 314 c), .ref (46 + 4 * m)]) 1 rfl rfl rfl ?_
      refine zGetI (F := 418) (I := c) (v := l3 418 c) rfl rfl (icL (j := 8) hc rfl) rfl ?_
      refine zCv (mj := 26) (k := (46 + 4 * m)) (n := 2) rfl rfl rfl rfl (by have := hm; omega) (tagK_node hm) rfl rfl rfl rfl rfl ?_
      refine e_26 hm ?_
      refine kI ?_
      refine zIfe rfl (fun h4 => ?_) (fun h4 => ?_)
      · replace k := ite_t h4 k
        refine zPs (pc1 := 70) (l1 := [(0, .ref 0), (1, .ref (166 + 2 * c)), (2, .ref (46 + 4 * m)), (3, .int g)]) (st1 := [.ref (46 + 4 * m), .ref (166 + 2 * c), .ref 0]) 3 rfl rfl rfl ?_
        refine zCv (mj := 87) (k := 0) (n := 2) rfl rfl rfl rfl (by decide) rfl rfl rfl rfl rfl rfl ?_
        refine e_87 hl hCI3 hc hm ?_
        refine kI ?_
        have hCI5 : CI (f_87 c m l3).2 n := ci_87 hCI3
        replace k := bnd2_i k
        generalize (f_87 c m l3).1 = v5 at k ⊢
        generalize (f_87 c m l3).2 = l5 at k hCI5 ⊢
        refine zRi rfl rfl ?_
        exact k
      · replace k := ite_f h4 k
        refine zPs (pc1 := 66) (l1 := [(0, .ref 0), (1, .ref (166 + 2 * c)), (2, .ref (46 + 4 * m)), (3, .int g)]) (st1 := [.int (-2 : Int32)]) 1 rfl rfl rfl ?_
        refine zRi rfl rfl ?_
        exact k
    · replace k := ite_f (not_not_intro h2) k
      refine zPs (pc1 := 31) (l1 := [(0, .ref 0), (1, .ref (166 + 2 * c)), (2, .ref (46 + 4 * m)), (3, .int g)]) (st1 := [.ref (46 + 4 * m), .ref (166 + 2 * c), .ref 0]) 3 rfl rfl rfl ?_
      refine zCv (mj := 87) (k := 0) (n := 2) rfl rfl rfl rfl (by decide) rfl rfl rfl rfl rfl rfl ?_
      refine e_87 hl hCI hc hm ?_
      refine kI ?_
      have hCI6 : CI (f_87 c m l).2 n := ci_87 hCI
      replace k := bnd2_i k
      generalize (f_87 c m l).1 = v6 at k ⊢
      generalize (f_87 c m l).2 = l6 at k hCI6 ⊢
      refine zRi rfl rfl ?_
      exact k
  · replace k := ite_f (not_not_intro h1) k
    refine zPs (pc1 := 8) (l1 := [(0, .ref 0), (1, .ref (166 + 2 * c)), (2, .ref (46 + 4 * m)), (3, .int g)]) (st1 := [.ref 0, .ref (166 + 2 * c)]) 2 rfl rfl rfl ?_
    refine zGetI (F := 292) (I := 0) (v := l 292 0) rfl rfl icNow rfl ?_
    refine zPs (pc1 := 12) (l1 := [(0, .ref 0), (1, .ref (166 + 2 * c)), (2, .ref (46 + 4 * m)), (3, .int g)]) (st1 := [.ref (46 + 4 * m), .int (l 292 0), .ref (166 + 2 * c)]) 1 rfl rfl rfl ?_
    refine zGetI (F := 303) (I := m) (v := l 303 m) rfl rfl (icN (j := 4) hm rfl) rfl ?_
    refine zPs (pc1 := 16) (l1 := [(0, .ref 0), (1, .ref (166 + 2 * c)), (2, .ref (46 + 4 * m)), (3, .int g)]) (st1 := [.int (l 292 0 + l 303 m), .ref (166 + 2 * c)]) 1 rfl rfl rfl ?_
    refine zCv (mj := 19) (k := (166 + 2 * c)) (n := 1) rfl rfl rfl rfl (by have := hc; omega) (tagK_line hc) rfl rfl rfl rfl rfl ?_
    refine e_19 hc ?_
    refine kV ?_
    have hCI7 : CI (f_19 c (l 292 0 + l 303 m) l) n := ci_19 hCI
    replace k := bnd_i k
    generalize f_19 c (l 292 0 + l 303 m) l = l7 at k hCI7 ⊢
    refine zPs (pc1 := 21) (l1 := [(0, .ref 0), (1, .ref (166 + 2 * c)), (2, .ref (46 + 4 * m)), (3, .int g)]) (st1 := [.int (-2 : Int32)]) 1 rfl rfl rfl ?_
    refine zRi rfl rfl ?_
    exact k
theorem ci_86 {l : Sg} {n : Nat} {c : Nat} {m : Nat} {g : Int32} (h : CI l n) : CI (f_86 c m g l).2 n := by
  unfold f_86
  (repeat' first | with_reducible exact h | with_reducible refine CI_ite ?_ ?_ | with_reducible refine CI_ite2 ?_ ?_ | with_reducible refine CI_ite3 ?_ ?_ | with_reducible refine CI_bnd ?_ | with_reducible refine CI_bnd' ?_ | with_reducible refine CI_bnd3 ?_ | with_reducible refine CI_bnd2 ?_ | with_reducible refine CI_bnd2' ?_ | with_reducible refine CI_bnd23 ?_ | with_reducible refine CI_up ?_ ?_ | with_reducible refine ci_1 ?_ | with_reducible refine ci_2 ?_ | with_reducible refine ci_17 ?_ | with_reducible refine ci_18 ?_ | with_reducible refine ci_19 ?_ | with_reducible refine ci_20 ?_ | with_reducible refine ci_25 ?_ | with_reducible refine ci_g_181 _ _ _ ?_ | with_reducible refine ci_181 ?_ | with_reducible refine ci_4 ?_ | with_reducible refine ci_g_6 _ _ _ ?_ | with_reducible refine ci_6 ?_ | with_reducible refine ci_g_5 _ _ _ _ (by omega) (by omega) ?_ | with_reducible refine ci_5 ?_ | with_reducible refine ci_22 ?_ | with_reducible refine ci_23 ?_ | with_reducible refine ci_92 ?_ | with_reducible refine ci_101 ?_ | with_reducible refine ci_91 ?_ | with_reducible refine ci_93 ?_ | with_reducible refine ci_90 ?_ | with_reducible refine ci_100 ?_ | with_reducible refine ci_82 ?_ | with_reducible refine ci_g_81 _ _ _ _ ?_ | with_reducible refine ci_81 ?_ | with_reducible refine ci_80 ?_ | with_reducible refine ci_87 ?_) <;> rfl
noncomputable def f_85 (c : Nat) (g : Int32) (l : Sg) : Int32 × Sg := (if isN (l 313 c) then (if l 296 ((l 313 c).toNatClampNeg) = (2 : Int32) then (bnd2 (f_86 c ((l 313 c).toNatClampNeg) g l) fun v4 l4 => (v4, l4)) else (if l 296 ((l 313 c).toNatClampNeg) = (3 : Int32) then (bnd2 (f_86 c ((l 313 c).toNatClampNeg) g l) fun v6 l6 => (v6, l6)) else (if l 296 ((l 313 c).toNatClampNeg) = (7 : Int32) then (if ¬ g = (1 : Int32) then ((-2 : Int32), l) else (l 302 ((l 313 c).toNatClampNeg), l)) else ((-2 : Int32), l)))) else ((-2 : Int32), l))
theorem e_85 {l : Sg} {P : MO → Sg → Prop} {n : Nat} {c : Nat} {g : Int32} (hl : n ≤ 60) (hCI : CI l n) (hc : c < 60) (k : Rk (Qb P) (f_85 c g l)) : Es false 85 [.ref 0, .ref (166 + 2 * c), .int g] l P := by
  unfold f_85 at k
  refine Es.of ?_
  refine zPs (pc1 := 1) (l1 := [(0, .ref 0), (1, .ref (166 + 2 * c)), (2, .int g)]) (st1 := [.ref (166 + 2 * c)]) 1 rfl rfl rfl ?_
  refine zGetI (F := 313) (I := c) (v := l 313 c) rfl rfl (icL (j := 3) hc rfl) rfl ?_
  refine zCs (mj := 76) rfl rfl rfl rfl rfl rfl rfl rfl ?_
  refine e_76 (fun h1 => ?_) (fun h1 => ?_)
  · replace k := ite_t h1 k
    have h2 := isN_lt h1
    refine kI ?_
    refine zPs (pc1 := 14) (l1 := [(0, .ref 0), (1, .ref (166 + 2 * c)), (2, .int g)]) (st1 := [.ref 0]) 2 rfl rfl rfl ?_
    refine zGetR (r := 1) rfl rfl ⟨by decide, rfl, by decide, rfl⟩ ?_
    refine zPs (pc1 := 18) (l1 := [(0, .ref 0), (1, .ref (166 + 2 * c)), (2, .int g)]) (st1 := [.ref (166 + 2 * c), .ref 1]) 1 rfl rfl rfl ?_
    refine zGetI (F := 313) (I := c) (v := l 313 c) rfl rfl (icL (j := 3) hc rfl) rfl ?_
    refine zAalE (n := (l 313 c).toNatClampNeg) h2.2 rfl rfl (irN h2.1) ?_
    refine zPs (pc1 := 24) (l1 := [(3, .ref (46 + 4 * ((l 313 c).toNatClampNeg))), (0, .ref 0), (1, .ref (166 + 2 * c)), (2, .int g)]) (st1 := [.ref (46 + 4 * ((l 313 c).toNatClampNeg))]) 2 rfl rfl rfl ?_
    refine zGetI (F := 296) (I := (l 313 c).toNatClampNeg) (v := l 296 ((l 313 c).toNatClampNeg)) rfl rfl (icN (j := 0) h2.1 rfl) rfl ?_
    refine zSw rfl rfl ?_
    refine zSwS (fun h3 => ?_) (fun h3 => ?_)
    · replace k := ite_t h3 k
      refine zPs (pc1 := 64) (l1 := [(3, .ref (46 + 4 * ((l 313 c).toNatClampNeg))), (0, .ref 0), (1, .ref (166 + 2 * c)), (2, .int g)]) (st1 := [.int g, .ref (46 + 4 * ((l 313 c).toNatClampNeg)), .ref (166 + 2 * c), .ref 0]) 4 rfl rfl rfl ?_
      refine zCv (mj := 86) (k := 0) (n := 3) rfl rfl rfl rfl (by decide) rfl rfl rfl rfl rfl rfl ?_
      refine e_86 hl hCI hc h2.1 ?_
      refine kI ?_
      have hCI4 : CI (f_86 c ((l 313 c).toNatClampNeg) g l).2 n := ci_86 hCI
      replace k := bnd2_i k
      generalize (f_86 c ((l 313 c).toNatClampNeg) g l).1 = v4 at k ⊢
      generalize (f_86 c ((l 313 c).toNatClampNeg) g l).2 = l4 at k hCI4 ⊢
      refine zRi rfl rfl ?_
      exact k
    · replace k := ite_f h3 k
      refine zSwS (fun h5 => ?_) (fun h5 => ?_)
      · replace k := ite_t h5 k
        refine zPs (pc1 := 64) (l1 := [(3, .ref (46 + 4 * ((l 313 c).toNatClampNeg))), (0, .ref 0), (1, .ref (166 + 2 * c)), (2, .int g)]) (st1 := [.int g, .ref (46 + 4 * ((l 313 c).toNatClampNeg)), .ref (166 + 2 * c), .ref 0]) 4 rfl rfl rfl ?_
        refine zCv (mj := 86) (k := 0) (n := 3) rfl rfl rfl rfl (by decide) rfl rfl rfl rfl rfl rfl ?_
        refine e_86 hl hCI hc h2.1 ?_
        refine kI ?_
        have hCI6 : CI (f_86 c ((l 313 c).toNatClampNeg) g l).2 n := ci_86 hCI
        replace k := bnd2_i k
        generalize (f_86 c ((l 313 c).toNatClampNeg) g l).1 = v6 at k ⊢
        generalize (f_86 c ((l 313 c).toNatClampNeg) g l).2 = l6 at k hCI6 ⊢
        refine zRi rfl rfl ?_
        exact k
      · replace k := ite_f h5 k
        refine zSwS (fun h7 => ?_) (fun h7 => ?_)
        · replace k := ite_t h7 k
          refine zPs (pc1 := 70) (l1 := [(3, .ref (46 + 4 * ((l 313 c).toNatClampNeg))), (0, .ref 0), (1, .ref (166 + 2 * c)), (2, .int g)]) (st1 := [.int (1 : Int32), .int g]) 2 rfl rfl rfl ?_
          refine zCn rfl (fun h8 => ?_) (fun h8 => ?_)
          · replace k := ite_t h8 k
            refine zPs (pc1 := 82) (l1 := [(3, .ref (46 + 4 * ((l 313 c).toNatClampNeg))), (0, .ref 0), (1, .ref (166 + 2 * c)), (2, .int g)]) (st1 := [.int (-2 : Int32)]) 1 rfl rfl rfl ?_
            refine zRi rfl rfl ?_
            exact k
          · replace k := ite_f (not_not_intro h8) k
            refine zPs (pc1 := 74) (l1 := [(3, .ref (46 + 4 * ((l 313 c).toNatClampNeg))), (0, .ref 0), (1, .ref (166 + 2 * c)), (2, .int g)]) (st1 := [.ref (46 + 4 * ((l 313 c).toNatClampNeg))]) 1 rfl rfl rfl ?_
            refine zGetI (F := 302) (I := (l 313 c).toNatClampNeg) (v := l 302 ((l 313 c).toNatClampNeg)) rfl rfl (icN (j := 2) h2.1 rfl) rfl ?_
            refine zPs (pc1 := 82) (l1 := [(3, .ref (46 + 4 * ((l 313 c).toNatClampNeg))), (0, .ref 0), (1, .ref (166 + 2 * c)), (2, .int g)]) (st1 := [.int (l 302 ((l 313 c).toNatClampNeg))]) 1 rfl rfl rfl ?_
            refine zRi rfl rfl ?_
            exact k
        · replace k := ite_f h7 k
          refine zSw0 ?_
          refine zPs (pc1 := 85) (l1 := [(3, .ref (46 + 4 * ((l 313 c).toNatClampNeg))), (0, .ref 0), (1, .ref (166 + 2 * c)), (2, .int g)]) (st1 := [.int (-2 : Int32)]) 1 rfl rfl rfl ?_
          refine zRi rfl rfl ?_
          exact k
  · replace k := ite_f h1 k
    refine kI ?_
    refine zPs (pc1 := 12) (l1 := [(0, .ref 0), (1, .ref (166 + 2 * c)), (2, .int g)]) (st1 := [.int (-2 : Int32)]) 2 rfl rfl rfl ?_
    refine zRi rfl rfl ?_
    exact k
theorem ci_85 {l : Sg} {n : Nat} {c : Nat} {g : Int32} (h : CI l n) : CI (f_85 c g l).2 n := by
  unfold f_85
  (repeat' first | with_reducible exact h | with_reducible refine CI_ite ?_ ?_ | with_reducible refine CI_ite2 ?_ ?_ | with_reducible refine CI_ite3 ?_ ?_ | with_reducible refine CI_bnd ?_ | with_reducible refine CI_bnd' ?_ | with_reducible refine CI_bnd3 ?_ | with_reducible refine CI_bnd2 ?_ | with_reducible refine CI_bnd2' ?_ | with_reducible refine CI_bnd23 ?_ | with_reducible refine CI_up ?_ ?_ | with_reducible refine ci_1 ?_ | with_reducible refine ci_2 ?_ | with_reducible refine ci_17 ?_ | with_reducible refine ci_18 ?_ | with_reducible refine ci_19 ?_ | with_reducible refine ci_20 ?_ | with_reducible refine ci_25 ?_ | with_reducible refine ci_g_181 _ _ _ ?_ | with_reducible refine ci_181 ?_ | with_reducible refine ci_4 ?_ | with_reducible refine ci_g_6 _ _ _ ?_ | with_reducible refine ci_6 ?_ | with_reducible refine ci_g_5 _ _ _ _ (by omega) (by omega) ?_ | with_reducible refine ci_5 ?_ | with_reducible refine ci_22 ?_ | with_reducible refine ci_23 ?_ | with_reducible refine ci_92 ?_ | with_reducible refine ci_101 ?_ | with_reducible refine ci_91 ?_ | with_reducible refine ci_93 ?_ | with_reducible refine ci_90 ?_ | with_reducible refine ci_100 ?_ | with_reducible refine ci_82 ?_ | with_reducible refine ci_g_81 _ _ _ _ ?_ | with_reducible refine ci_81 ?_ | with_reducible refine ci_80 ?_ | with_reducible refine ci_87 ?_ | with_reducible refine ci_86 ?_) <;> rfl
noncomputable def f_89 (c : Nat) (l : Sg) : Int32 × Sg := (if isN (l 313 c) then (if l 296 ((l 313 c).toNatClampNeg) = (2 : Int32) then (bnd2 (f_87 c ((l 313 c).toNatClampNeg) l) fun v4 l4 => (v4, l4)) else (if ¬ l 296 ((l 313 c).toNatClampNeg) = (3 : Int32) then (l 301 ((l 313 c).toNatClampNeg), l) else (bnd2 (f_87 c ((l 313 c).toNatClampNeg) l) fun v6 l6 => (v6, l6)))) else ((-2 : Int32), l))
theorem e_89 {l : Sg} {P : MO → Sg → Prop} {n : Nat} {c : Nat} (hl : n ≤ 60) (hCI : CI l n) (hc : c < 60) (k : Rk (Qb P) (f_89 c l)) : Es false 89 [.ref 0, .ref (166 + 2 * c)] l P := by
  unfold f_89 at k
  refine Es.of ?_
  refine zPs (pc1 := 1) (l1 := [(0, .ref 0), (1, .ref (166 + 2 * c))]) (st1 := [.ref (166 + 2 * c)]) 1 rfl rfl rfl ?_
  refine zGetI (F := 313) (I := c) (v := l 313 c) rfl rfl (icL (j := 3) hc rfl) rfl ?_
  refine zCs (mj := 76) rfl rfl rfl rfl rfl rfl rfl rfl ?_
  refine e_76 (fun h1 => ?_) (fun h1 => ?_)
  · replace k := ite_t h1 k
    have h2 := isN_lt h1
    refine kI ?_
    refine zPs (pc1 := 14) (l1 := [(0, .ref 0), (1, .ref (166 + 2 * c))]) (st1 := [.ref 0]) 2 rfl rfl rfl ?_
    refine zGetR (r := 1) rfl rfl ⟨by decide, rfl, by decide, rfl⟩ ?_
    refine zPs (pc1 := 18) (l1 := [(0, .ref 0), (1, .ref (166 + 2 * c))]) (st1 := [.ref (166 + 2 * c), .ref 1]) 1 rfl rfl rfl ?_
    refine zGetI (F := 313) (I := c) (v := l 313 c) rfl rfl (icL (j := 3) hc rfl) rfl ?_
    refine zAalE (n := (l 313 c).toNatClampNeg) h2.2 rfl rfl (irN h2.1) ?_
    refine zPs (pc1 := 24) (l1 := [(2, .ref (46 + 4 * ((l 313 c).toNatClampNeg))), (0, .ref 0), (1, .ref (166 + 2 * c))]) (st1 := [.ref (46 + 4 * ((l 313 c).toNatClampNeg))]) 2 rfl rfl rfl ?_
    refine zGetI (F := 296) (I := (l 313 c).toNatClampNeg) (v := l 296 ((l 313 c).toNatClampNeg)) rfl rfl (icN (j := 0) h2.1 rfl) rfl ?_
    refine zPs (pc1 := 28) (l1 := [(2, .ref (46 + 4 * ((l 313 c).toNatClampNeg))), (0, .ref 0), (1, .ref (166 + 2 * c))]) (st1 := [.int (2 : Int32), .int (l 296 ((l 313 c).toNatClampNeg))]) 1 rfl rfl rfl ?_
    refine zCe rfl (fun h3 => ?_) (fun h3 => ?_)
    · replace k := ite_t h3 k
      refine zPs (pc1 := 42) (l1 := [(2, .ref (46 + 4 * ((l 313 c).toNatClampNeg))), (0, .ref 0), (1, .ref (166 + 2 * c))]) (st1 := [.ref (46 + 4 * ((l 313 c).toNatClampNeg)), .ref (166 + 2 * c), .ref 0]) 3 rfl rfl rfl ?_
      refine zCv (mj := 87) (k := 0) (n := 2) rfl rfl rfl rfl (by decide) rfl rfl rfl rfl rfl rfl ?_
      refine e_87 hl hCI hc h2.1 ?_
      refine kI ?_
      have hCI4 : CI (f_87 c ((l 313 c).toNatClampNeg) l).2 n := ci_87 hCI
      replace k := bnd2_i k
      generalize (f_87 c ((l 313 c).toNatClampNeg) l).1 = v4 at k ⊢
      generalize (f_87 c ((l 313 c).toNatClampNeg) l).2 = l4 at k hCI4 ⊢
      refine zRi rfl rfl ?_
      exact k
    · replace k := ite_f h3 k
      refine zPs (pc1 := 32) (l1 := [(2, .ref (46 + 4 * ((l 313 c).toNatClampNeg))), (0, .ref 0), (1, .ref (166 + 2 * c))]) (st1 := [.ref (46 + 4 * ((l 313 c).toNatClampNeg))]) 1 rfl rfl rfl ?_
      refine zGetI (F := 296) (I := (l 313 c).toNatClampNeg) (v := l 296 ((l 313 c).toNatClampNeg)) rfl rfl (icN (j := 0) h2.1 rfl) rfl ?_
      refine zPs (pc1 := 36) (l1 := [(2, .ref (46 + 4 * ((l 313 c).toNatClampNeg))), (0, .ref 0), (1, .ref (166 + 2 * c))]) (st1 := [.int (3 : Int32), .int (l 296 ((l 313 c).toNatClampNeg))]) 1 rfl rfl rfl ?_
      refine zCn rfl (fun h5 => ?_) (fun h5 => ?_)
      · replace k := ite_t h5 k
        refine zPs (pc1 := 47) (l1 := [(2, .ref (46 + 4 * ((l 313 c).toNatClampNeg))), (0, .ref 0), (1, .ref (166 + 2 * c))]) (st1 := [.ref (46 + 4 * ((l 313 c).toNatClampNeg))]) 1 rfl rfl rfl ?_
        refine zGetI (F := 301) (I := (l 313 c).toNatClampNeg) (v := l 301 ((l 313 c).toNatClampNeg)) rfl rfl (icN (j := 1) h2.1 rfl) rfl ?_
        refine zRi rfl rfl ?_
        exact k
      · replace k := ite_f (not_not_intro h5) k
        refine zPs (pc1 := 42) (l1 := [(2, .ref (46 + 4 * ((l 313 c).toNatClampNeg))), (0, .ref 0), (1, .ref (166 + 2 * c))]) (st1 := [.ref (46 + 4 * ((l 313 c).toNatClampNeg)), .ref (166 + 2 * c), .ref 0]) 3 rfl rfl rfl ?_
        refine zCv (mj := 87) (k := 0) (n := 2) rfl rfl rfl rfl (by decide) rfl rfl rfl rfl rfl rfl ?_
        refine e_87 hl hCI hc h2.1 ?_
        refine kI ?_
        have hCI6 : CI (f_87 c ((l 313 c).toNatClampNeg) l).2 n := ci_87 hCI
        replace k := bnd2_i k
        generalize (f_87 c ((l 313 c).toNatClampNeg) l).1 = v6 at k ⊢
        generalize (f_87 c ((l 313 c).toNatClampNeg) l).2 = l6 at k hCI6 ⊢
        refine zRi rfl rfl ?_
        exact k
  · replace k := ite_f h1 k
    refine kI ?_
    refine zPs (pc1 := 12) (l1 := [(0, .ref 0), (1, .ref (166 + 2 * c))]) (st1 := [.int (-2 : Int32)]) 2 rfl rfl rfl ?_
    refine zRi rfl rfl ?_
    exact k
theorem ci_89 {l : Sg} {n : Nat} {c : Nat} (h : CI l n) : CI (f_89 c l).2 n := by
  unfold f_89
  (repeat' first | with_reducible exact h | with_reducible refine CI_ite ?_ ?_ | with_reducible refine CI_ite2 ?_ ?_ | with_reducible refine CI_ite3 ?_ ?_ | with_reducible refine CI_bnd ?_ | with_reducible refine CI_bnd' ?_ | with_reducible refine CI_bnd3 ?_ | with_reducible refine CI_bnd2 ?_ | with_reducible refine CI_bnd2' ?_ | with_reducible refine CI_bnd23 ?_ | with_reducible refine CI_up ?_ ?_ | with_reducible refine ci_1 ?_ | with_reducible refine ci_2 ?_ | with_reducible refine ci_17 ?_ | with_reducible refine ci_18 ?_ | with_reducible refine ci_19 ?_ | with_reducible refine ci_20 ?_ | with_reducible refine ci_25 ?_ | with_reducible refine ci_g_181 _ _ _ ?_ | with_reducible refine ci_181 ?_ | with_reducible refine ci_4 ?_ | with_reducible refine ci_g_6 _ _ _ ?_ | with_reducible refine ci_6 ?_ | with_reducible refine ci_g_5 _ _ _ _ (by omega) (by omega) ?_ | with_reducible refine ci_5 ?_ | with_reducible refine ci_22 ?_ | with_reducible refine ci_23 ?_ | with_reducible refine ci_92 ?_ | with_reducible refine ci_101 ?_ | with_reducible refine ci_91 ?_ | with_reducible refine ci_93 ?_ | with_reducible refine ci_90 ?_ | with_reducible refine ci_100 ?_ | with_reducible refine ci_82 ?_ | with_reducible refine ci_g_81 _ _ _ _ ?_ | with_reducible refine ci_81 ?_ | with_reducible refine ci_80 ?_ | with_reducible refine ci_87 ?_ | with_reducible refine ci_86 ?_ | with_reducible refine ci_85 ?_) <;> rfl
noncomputable def g_88 (n : Nat) : Nat → Nat → Sg → Sg
  | 0, _, l => l
  | d + 1, j, l => (if l 316 j = l 292 0 then (if ¬ l 311 j = (4 : Int32) then (if l 311 j = 0 then (bnd2 (f_89 j l) fun v5 l5 => (if v5 = (-2 : Int32) then g_88 n d (j + 1)  l5 else (bnd (f_81 n j v5 l5) fun l7 => g_88 n d (j + 1)  l7))) else (if ¬ l 311 j = (1 : Int32) then g_88 n d (j + 1)  l else (bnd2 (f_89 j l) fun v9 l9 => (if v9 = (-2 : Int32) then g_88 n d (j + 1)  l9 else (bnd (f_81 n j v9 l9) fun l11 => g_88 n d (j + 1)  l11))))) else (bnd (f_90 j l) fun l12 => g_88 n d (j + 1)  l12)) else g_88 n d (j + 1)  l)
theorem lg_88 {P : MO → Sg → Prop} {rc rs : Nat} {n : Nat}(hl : n ≤ 60)  : ∀ (d j : Nat) (l : Sg), j + d = n → CI l n → Rk (Qm P) (g_88 n d j  l) → Ws false 88 rc rs 2 [(1, .int (i32 j)), (0, .ref 0)] [] l P := by
  intro d
  induction d with
  | zero =>
    intro j l hj hCI k
    obtain rfl : n = j := by omega
    rw [g_88] at k
    refine zPs (pc1 := 4) (l1 := [(1, .int (i32 n)), (0, .ref 0)]) (st1 := [.ref 0, .int (i32 n)]) 2 rfl rfl rfl ?_
    refine zGetI (F := 292) (I := 19) (v := i32 n) rfl rfl icCalls hCI.1 ?_
    refine nCge (a := n) (b := n) (by omega) (by omega) rfl (fun h1 => ?_) (fun h1 => absurd (Nat.le_refl _) h1)
    refine zRv rfl rfl ?_
    exact k
  | succ d ih =>
    intro j l hj hCI k
    have hjl : j < n := by omega
    rw [g_88] at k
    refine zPs (pc1 := 4) (l1 := [(1, .int (i32 j)), (0, .ref 0)]) (st1 := [.ref 0, .int (i32 j)]) 2 rfl rfl rfl ?_
    refine zGetI (F := 292) (I := 19) (v := i32 n) rfl rfl icCalls hCI.1 ?_
    refine nCge (a := j) (b := n) (by omega) (by omega) rfl (fun h1 => absurd h1 (by omega)) (fun h1 => ?_)
    refine zPs (pc1 := 11) (l1 := [(1, .int (i32 j)), (0, .ref 0)]) (st1 := [.ref 0]) 1 rfl rfl rfl ?_
    refine zGetR (r := 2) rfl rfl ⟨by decide, rfl, by decide, rfl⟩ ?_
    refine zPs (pc1 := 15) (l1 := [(1, .int (i32 j)), (0, .ref 0)]) (st1 := [.int (i32 j), .ref 2]) 1 rfl rfl rfl ?_
    refine zAal (n := j) rfl rfl (irL (by omega)) ?_
    refine zPs (pc1 := 18) (l1 := [(2, .ref (166 + 2 * j)), (1, .int (i32 j)), (0, .ref 0)]) (st1 := [.ref (166 + 2 * j)]) 2 rfl rfl rfl ?_
    refine zGetI (F := 316) (I := j) (v := l 316 j) rfl rfl (icL (j := 5) (by omega) rfl) rfl ?_
    refine zPs (pc1 := 22) (l1 := [(2, .ref (166 + 2 * j)), (1, .int (i32 j)), (0, .ref 0)]) (st1 := [.ref 0, .int (l 316 j)]) 1 rfl rfl rfl ?_
    refine zGetI (F := 292) (I := 0) (v := l 292 0) rfl rfl icNow rfl ?_
    refine zCe rfl (fun h2 => ?_) (fun h2 => ?_)
    · replace k := ite_t h2 k
      refine zPs (pc1 := 32) (l1 := [(2, .ref (166 + 2 * j)), (1, .int (i32 j)), (0, .ref 0)]) (st1 := [.ref (166 + 2 * j)]) 1 rfl rfl rfl ?_
      refine zGetI (F := 311) (I := j) (v := l 311 j) rfl rfl (icL (j := 1) (by omega) rfl) rfl ?_
      refine zPs (pc1 := 36) (l1 := [(2, .ref (166 + 2 * j)), (1, .int (i32 j)), (0, .ref 0)]) (st1 := [.int (4 : Int32), .int (l 311 j)]) 1 rfl rfl rfl ?_
      refine zCn rfl (fun h3 => ?_) (fun h3 => ?_)
      · replace k := ite_t h3 k
        refine zPs (pc1 := 48) (l1 := [(2, .ref (166 + 2 * j)), (1, .int (i32 j)), (0, .ref 0)]) (st1 := [.ref (166 + 2 * j)]) 1 rfl rfl rfl ?_
        refine zGetI (F := 311) (I := j) (v := l 311 j) rfl rfl (icL (j := 1) (by omega) rfl) rfl ?_
        refine zIfe rfl (fun h4 => ?_) (fun h4 => ?_)
        · replace k := ite_t h4 k
          refine zPs (pc1 := 64) (l1 := [(2, .ref (166 + 2 * j)), (1, .int (i32 j)), (0, .ref 0)]) (st1 := [.ref (166 + 2 * j), .ref 0]) 2 rfl rfl rfl ?_
          refine zCv (mj := 89) (k := 0) (n := 1) rfl rfl rfl rfl (by decide) rfl rfl rfl rfl rfl rfl ?_
          refine e_89 hl hCI (by omega) ?_
          refine kI ?_
          have hCI5 : CI (f_89 j l).2 n := ci_89 hCI
          replace k := bnd2_i k
          generalize (f_89 j l).1 = v5 at k ⊢
          generalize (f_89 j l).2 = l5 at k hCI5 ⊢
          refine zPs (pc1 := 71) (l1 := [(3, .int v5), (2, .ref (166 + 2 * j)), (1, .int (i32 j)), (0, .ref 0)]) (st1 := [.int (-2 : Int32), .int v5]) 3 rfl rfl rfl ?_
          refine zCe rfl (fun h6 => ?_) (fun h6 => ?_)
          · replace k := ite_t h6 k
            refine zPs (pc1 := 83) (l1 := [(1, .int (i32 j + (1 : Int32))), (3, .int v5), (2, .ref (166 + 2 * j)), (0, .ref 0)]) (st1 := []) 1 rfl rfl rfl ?_
            refine zTo (ml' := [(1, .int (i32 (j + 1))), (3, .int v5), (2, .ref (166 + 2 * j)), (0, .ref 0)]) (st' := []) (by rw [show (i32 j + (1 : Int32)) = i32 (j + 1) from i32_add j 1]) rfl ?_
            refine zPs (pc1 := 2) (l1 := [(1, .int (i32 (j + 1))), (3, .int v5), (2, .ref (166 + 2 * j)), (0, .ref 0)]) (st1 := []) 1 rfl rfl rfl ?_
            refine zMl (ml' := [(1, .int (i32 (j + 1))), (0, .ref 0)]) ⟨rfl, rfl, trivial⟩ rfl rfl ?_
            exact ih (j + 1) l5 (by omega) hCI5 k
          · replace k := ite_f h6 k
            refine zPs (pc1 := 77) (l1 := [(3, .int v5), (2, .ref (166 + 2 * j)), (1, .int (i32 j)), (0, .ref 0)]) (st1 := [.int v5, .ref (166 + 2 * j), .ref 0]) 3 rfl rfl rfl ?_
            refine zCv (mj := 81) (k := 0) (n := 2) rfl rfl rfl rfl (by decide) rfl rfl rfl rfl rfl rfl ?_
            refine e_81 hl hCI5 (by omega) ?_
            refine kV ?_
            have hCI7 : CI (f_81 n j v5 l5) n := ci_81 hCI5
            replace k := bnd_i k
            generalize f_81 n j v5 l5 = l7 at k hCI7 ⊢
            refine zPs (pc1 := 83) (l1 := [(1, .int (i32 j + (1 : Int32))), (3, .int v5), (2, .ref (166 + 2 * j)), (0, .ref 0)]) (st1 := []) 1 rfl rfl rfl ?_
            refine zTo (ml' := [(1, .int (i32 (j + 1))), (3, .int v5), (2, .ref (166 + 2 * j)), (0, .ref 0)]) (st' := []) (by rw [show (i32 j + (1 : Int32)) = i32 (j + 1) from i32_add j 1]) rfl ?_
            refine zPs (pc1 := 2) (l1 := [(1, .int (i32 (j + 1))), (3, .int v5), (2, .ref (166 + 2 * j)), (0, .ref 0)]) (st1 := []) 1 rfl rfl rfl ?_
            refine zMl (ml' := [(1, .int (i32 (j + 1))), (0, .ref 0)]) ⟨rfl, rfl, trivial⟩ rfl rfl ?_
            exact ih (j + 1) l7 (by omega) hCI7 k
        · replace k := ite_f h4 k
          refine zPs (pc1 := 55) (l1 := [(2, .ref (166 + 2 * j)), (1, .int (i32 j)), (0, .ref 0)]) (st1 := [.ref (166 + 2 * j)]) 1 rfl rfl rfl ?_
          refine zGetI (F := 311) (I := j) (v := l 311 j) rfl rfl (icL (j := 1) (by omega) rfl) rfl ?_
          refine zPs (pc1 := 59) (l1 := [(2, .ref (166 + 2 * j)), (1, .int (i32 j)), (0, .ref 0)]) (st1 := [.int (1 : Int32), .int (l 311 j)]) 1 rfl rfl rfl ?_
          refine zCn rfl (fun h8 => ?_) (fun h8 => ?_)
          · replace k := ite_t h8 k
            refine zPs (pc1 := 83) (l1 := [(1, .int (i32 j + (1 : Int32))), (2, .ref (166 + 2 * j)), (0, .ref 0)]) (st1 := []) 1 rfl rfl rfl ?_
            refine zTo (ml' := [(1, .int (i32 (j + 1))), (2, .ref (166 + 2 * j)), (0, .ref 0)]) (st' := []) (by rw [show (i32 j + (1 : Int32)) = i32 (j + 1) from i32_add j 1]) rfl ?_
            refine zPs (pc1 := 2) (l1 := [(1, .int (i32 (j + 1))), (2, .ref (166 + 2 * j)), (0, .ref 0)]) (st1 := []) 1 rfl rfl rfl ?_
            refine zMl (ml' := [(1, .int (i32 (j + 1))), (0, .ref 0)]) ⟨rfl, rfl, trivial⟩ rfl rfl ?_
            exact ih (j + 1) l (by omega) hCI k
          · replace k := ite_f (not_not_intro h8) k
            refine zPs (pc1 := 64) (l1 := [(2, .ref (166 + 2 * j)), (1, .int (i32 j)), (0, .ref 0)]) (st1 := [.ref (166 + 2 * j), .ref 0]) 2 rfl rfl rfl ?_
            refine zCv (mj := 89) (k := 0) (n := 1) rfl rfl rfl rfl (by decide) rfl rfl rfl rfl rfl rfl ?_
            refine e_89 hl hCI (by omega) ?_
            refine kI ?_
            have hCI9 : CI (f_89 j l).2 n := ci_89 hCI
            replace k := bnd2_i k
            generalize (f_89 j l).1 = v9 at k ⊢
            generalize (f_89 j l).2 = l9 at k hCI9 ⊢
            refine zPs (pc1 := 71) (l1 := [(3, .int v9), (2, .ref (166 + 2 * j)), (1, .int (i32 j)), (0, .ref 0)]) (st1 := [.int (-2 : Int32), .int v9]) 3 rfl rfl rfl ?_
            refine zCe rfl (fun h10 => ?_) (fun h10 => ?_)
            · replace k := ite_t h10 k
              refine zPs (pc1 := 83) (l1 := [(1, .int (i32 j + (1 : Int32))), (3, .int v9), (2, .ref (166 + 2 * j)), (0, .ref 0)]) (st1 := []) 1 rfl rfl rfl ?_
              refine zTo (ml' := [(1, .int (i32 (j + 1))), (3, .int v9), (2, .ref (166 + 2 * j)), (0, .ref 0)]) (st' := []) (by rw [show (i32 j + (1 : Int32)) = i32 (j + 1) from i32_add j 1]) rfl ?_
              refine zPs (pc1 := 2) (l1 := [(1, .int (i32 (j + 1))), (3, .int v9), (2, .ref (166 + 2 * j)), (0, .ref 0)]) (st1 := []) 1 rfl rfl rfl ?_
              refine zMl (ml' := [(1, .int (i32 (j + 1))), (0, .ref 0)]) ⟨rfl, rfl, trivial⟩ rfl rfl ?_
              exact ih (j + 1) l9 (by omega) hCI9 k
            · replace k := ite_f h10 k
              refine zPs (pc1 := 77) (l1 := [(3, .int v9), (2, .ref (166 + 2 * j)), (1, .int (i32 j)), (0, .ref 0)]) (st1 := [.int v9, .ref (166 + 2 * j), .ref 0]) 3 rfl rfl rfl ?_
              refine zCv (mj := 81) (k := 0) (n := 2) rfl rfl rfl rfl (by decide) rfl rfl rfl rfl rfl rfl ?_
              refine e_81 hl hCI9 (by omega) ?_
              refine kV ?_
              have hCI11 : CI (f_81 n j v9 l9) n := ci_81 hCI9
              replace k := bnd_i k
              generalize f_81 n j v9 l9 = l11 at k hCI11 ⊢
              refine zPs (pc1 := 83) (l1 := [(1, .int (i32 j + (1 : Int32))), (3, .int v9), (2, .ref (166 + 2 * j)), (0, .ref 0)]) (st1 := []) 1 rfl rfl rfl ?_
              refine zTo (ml' := [(1, .int (i32 (j + 1))), (3, .int v9), (2, .ref (166 + 2 * j)), (0, .ref 0)]) (st' := []) (by rw [show (i32 j + (1 : Int32)) = i32 (j + 1) from i32_add j 1]) rfl ?_
              refine zPs (pc1 := 2) (l1 := [(1, .int (i32 (j + 1))), (3, .int v9), (2, .ref (166 + 2 * j)), (0, .ref 0)]) (st1 := []) 1 rfl rfl rfl ?_
              refine zMl (ml' := [(1, .int (i32 (j + 1))), (0, .ref 0)]) ⟨rfl, rfl, trivial⟩ rfl rfl ?_
              exact ih (j + 1) l11 (by omega) hCI11 k
      · replace k := ite_f (not_not_intro h3) k
        refine zPs (pc1 := 41) (l1 := [(2, .ref (166 + 2 * j)), (1, .int (i32 j)), (0, .ref 0)]) (st1 := [.ref (166 + 2 * j), .ref 0]) 2 rfl rfl rfl ?_
        refine zCv (mj := 90) (k := 0) (n := 1) rfl rfl rfl rfl (by decide) rfl rfl rfl rfl rfl rfl ?_
        refine e_90 hl hCI (by omega) ?_
        refine kV ?_
        have hCI12 : CI (f_90 j l) n := ci_90 hCI
        replace k := bnd_i k
        generalize f_90 j l = l12 at k hCI12 ⊢
        refine zPs (pc1 := 83) (l1 := [(1, .int (i32 j + (1 : Int32))), (2, .ref (166 + 2 * j)), (0, .ref 0)]) (st1 := []) 2 rfl rfl rfl ?_
        refine zTo (ml' := [(1, .int (i32 (j + 1))), (2, .ref (166 + 2 * j)), (0, .ref 0)]) (st' := []) (by rw [show (i32 j + (1 : Int32)) = i32 (j + 1) from i32_add j 1]) rfl ?_
        refine zPs (pc1 := 2) (l1 := [(1, .int (i32 (j + 1))), (2, .ref (166 + 2 * j)), (0, .ref 0)]) (st1 := []) 1 rfl rfl rfl ?_
        refine zMl (ml' := [(1, .int (i32 (j + 1))), (0, .ref 0)]) ⟨rfl, rfl, trivial⟩ rfl rfl ?_
        exact ih (j + 1) l12 (by omega) hCI12 k
    · replace k := ite_f h2 k
      refine zPs (pc1 := 83) (l1 := [(1, .int (i32 j + (1 : Int32))), (2, .ref (166 + 2 * j)), (0, .ref 0)]) (st1 := []) 2 rfl rfl rfl ?_
      refine zTo (ml' := [(1, .int (i32 (j + 1))), (2, .ref (166 + 2 * j)), (0, .ref 0)]) (st' := []) (by rw [show (i32 j + (1 : Int32)) = i32 (j + 1) from i32_add j 1]) rfl ?_
      refine zPs (pc1 := 2) (l1 := [(1, .int (i32 (j + 1))), (2, .ref (166 + 2 * j)), (0, .ref 0)]) (st1 := []) 1 rfl rfl rfl ?_
      refine zMl (ml' := [(1, .int (i32 (j + 1))), (0, .ref 0)]) ⟨rfl, rfl, trivial⟩ rfl rfl ?_
      exact ih (j + 1) l (by omega) hCI k
theorem ci_g_88 {n : Nat}  : ∀ (d j : Nat) (l : Sg), CI l n → CI (g_88 n d j  l) n := by
  intro d
  induction d with
  | zero =>
    intro j l h
    rw [g_88]
    (repeat' first | with_reducible exact h | with_reducible refine CI_ite ?_ ?_ | with_reducible refine CI_ite2 ?_ ?_ | with_reducible refine CI_ite3 ?_ ?_ | with_reducible refine CI_bnd ?_ | with_reducible refine CI_bnd' ?_ | with_reducible refine CI_bnd3 ?_ | with_reducible refine CI_bnd2 ?_ | with_reducible refine CI_bnd2' ?_ | with_reducible refine CI_bnd23 ?_ | with_reducible refine CI_up ?_ ?_ | with_reducible refine ci_1 ?_ | with_reducible refine ci_2 ?_ | with_reducible refine ci_17 ?_ | with_reducible refine ci_18 ?_ | with_reducible refine ci_19 ?_ | with_reducible refine ci_20 ?_ | with_reducible refine ci_25 ?_ | with_reducible refine ci_g_181 _ _ _ ?_ | with_reducible refine ci_181 ?_ | with_reducible refine ci_4 ?_ | with_reducible refine ci_g_6 _ _ _ ?_ | with_reducible refine ci_6 ?_ | with_reducible refine ci_g_5 _ _ _ _ (by omega) (by omega) ?_ | with_reducible refine ci_5 ?_ | with_reducible refine ci_22 ?_ | with_reducible refine ci_23 ?_ | with_reducible refine ci_92 ?_ | with_reducible refine ci_101 ?_ | with_reducible refine ci_91 ?_ | with_reducible refine ci_93 ?_ | with_reducible refine ci_90 ?_ | with_reducible refine ci_100 ?_ | with_reducible refine ci_82 ?_ | with_reducible refine ci_g_81 _ _ _ _ ?_ | with_reducible refine ci_81 ?_ | with_reducible refine ci_80 ?_ | with_reducible refine ci_87 ?_ | with_reducible refine ci_86 ?_ | with_reducible refine ci_85 ?_ | with_reducible refine ci_89 ?_) <;> rfl
  | succ d ih =>
    intro j l h
    rw [g_88]
    (repeat' first | with_reducible exact h | with_reducible refine CI_ite ?_ ?_ | with_reducible refine CI_ite2 ?_ ?_ | with_reducible refine CI_ite3 ?_ ?_ | with_reducible refine CI_bnd ?_ | with_reducible refine CI_bnd' ?_ | with_reducible refine CI_bnd3 ?_ | with_reducible refine CI_bnd2 ?_ | with_reducible refine CI_bnd2' ?_ | with_reducible refine CI_bnd23 ?_ | with_reducible refine CI_up ?_ ?_ | with_reducible refine ci_1 ?_ | with_reducible refine ci_2 ?_ | with_reducible refine ci_17 ?_ | with_reducible refine ci_18 ?_ | with_reducible refine ci_19 ?_ | with_reducible refine ci_20 ?_ | with_reducible refine ci_25 ?_ | with_reducible refine ci_g_181 _ _ _ ?_ | with_reducible refine ci_181 ?_ | with_reducible refine ci_4 ?_ | with_reducible refine ci_g_6 _ _ _ ?_ | with_reducible refine ci_6 ?_ | with_reducible refine ci_g_5 _ _ _ _ (by omega) (by omega) ?_ | with_reducible refine ci_5 ?_ | with_reducible refine ci_22 ?_ | with_reducible refine ci_23 ?_ | with_reducible refine ci_92 ?_ | with_reducible refine ci_101 ?_ | with_reducible refine ci_91 ?_ | with_reducible refine ci_93 ?_ | with_reducible refine ci_90 ?_ | with_reducible refine ci_100 ?_ | with_reducible refine ci_82 ?_ | with_reducible refine ci_g_81 _ _ _ _ ?_ | with_reducible refine ci_81 ?_ | with_reducible refine ci_80 ?_ | with_reducible refine ci_87 ?_ | with_reducible refine ci_86 ?_ | with_reducible refine ci_85 ?_ | with_reducible refine ci_89 ?_ | with_reducible refine ih _ _ ?_) <;> rfl
noncomputable def f_88 (n : Nat) (l : Sg) : Sg := g_88 n n 0  l
theorem e_88 {l : Sg} {P : MO → Sg → Prop} {n : Nat}  (hl : n ≤ 60) (hCI : CI l n)  (k : Rk (Qm P) (f_88 n l)) : Es false 88 [.ref 0] l P := by
  unfold f_88 at k
  refine Es.of ?_
  refine zPs (pc1 := 2) (l1 := [(1, .int (0 : Int32)), (0, .ref 0)]) (st1 := []) 2 rfl rfl rfl ?_
  refine zMl (ml' := [(1, .int (i32 0)), (0, .ref 0)]) ⟨rfl, rfl, trivial⟩ rfl rfl ?_
  exact lg_88 hl n 0  l (by omega) hCI k
theorem ci_88 {l : Sg} {n : Nat}  (h : CI l n) : CI (f_88 n l) n := by
  unfold f_88
  (repeat' first | with_reducible exact h | with_reducible refine CI_ite ?_ ?_ | with_reducible refine CI_ite2 ?_ ?_ | with_reducible refine CI_ite3 ?_ ?_ | with_reducible refine CI_bnd ?_ | with_reducible refine CI_bnd' ?_ | with_reducible refine CI_bnd3 ?_ | with_reducible refine CI_bnd2 ?_ | with_reducible refine CI_bnd2' ?_ | with_reducible refine CI_bnd23 ?_ | with_reducible refine CI_up ?_ ?_ | with_reducible refine ci_1 ?_ | with_reducible refine ci_2 ?_ | with_reducible refine ci_17 ?_ | with_reducible refine ci_18 ?_ | with_reducible refine ci_19 ?_ | with_reducible refine ci_20 ?_ | with_reducible refine ci_25 ?_ | with_reducible refine ci_g_181 _ _ _ ?_ | with_reducible refine ci_181 ?_ | with_reducible refine ci_4 ?_ | with_reducible refine ci_g_6 _ _ _ ?_ | with_reducible refine ci_6 ?_ | with_reducible refine ci_g_5 _ _ _ _ (by omega) (by omega) ?_ | with_reducible refine ci_5 ?_ | with_reducible refine ci_22 ?_ | with_reducible refine ci_23 ?_ | with_reducible refine ci_92 ?_ | with_reducible refine ci_101 ?_ | with_reducible refine ci_91 ?_ | with_reducible refine ci_93 ?_ | with_reducible refine ci_90 ?_ | with_reducible refine ci_100 ?_ | with_reducible refine ci_82 ?_ | with_reducible refine ci_g_81 _ _ _ _ ?_ | with_reducible refine ci_81 ?_ | with_reducible refine ci_80 ?_ | with_reducible refine ci_87 ?_ | with_reducible refine ci_86 ?_ | with_reducible refine ci_85 ?_ | with_reducible refine ci_89 ?_ | with_reducible refine ci_g_88 _ _ _ ?_) <;> rfl
noncomputable def g_94  : Nat → Nat → Sg → Sg
  | 0, _, l => l
  | d + 1, j, l => (if ¬ l 326 j = (4 : Int32) then g_94  d (j + 1)  l else (if l 292 0 < l 330 j then g_94  d (j + 1)  l else (bnd (f_1 j (l 292 0) l) fun l4 => g_94  d (j + 1)  l4)))
theorem lg_94 {P : MO → Sg → Prop} {rc rs : Nat} {n : Nat} (hl : n ≤ 60)  : ∀ (d j : Nat) (l : Sg), j + d = 6 → CI l n → Rk (Qm P) (g_94  d j  l) → Ws false 94 rc rs 2 [(1, .int (i32 j)), (0, .ref 0)] [] l P := by
  intro d
  induction d with
  | zero =>
    intro j l hj hCI k
    obtain rfl : 6 = j := by omega
    rw [g_94] at k
    refine zPs (pc1 := 5) (l1 := [(1, .int (i32 6)), (0, .ref 0)]) (st1 := [.int (6 : Int32), .int (i32 6)]) 2 rfl rfl rfl ?_
    refine nCge (a := 6) (b := 6) (by omega) (by omega) rfl (fun h1 => ?_) (fun h1 => absurd (Nat.le_refl _) h1)
    refine zRv rfl rfl ?_
    exact k
  | succ d ih =>
    intro j l hj hCI k
    have hjl : j < 6 := by omega
    rw [g_94] at k
    refine zPs (pc1 := 5) (l1 := [(1, .int (i32 j)), (0, .ref 0)]) (st1 := [.int (6 : Int32), .int (i32 j)]) 2 rfl rfl rfl ?_
    refine nCge (a := j) (b := 6) (by omega) (by omega) rfl (fun h1 => absurd h1 (by omega)) (fun h1 => ?_)
    refine zPs (pc1 := 9) (l1 := [(1, .int (i32 j)), (0, .ref 0)]) (st1 := [.ref 0]) 1 rfl rfl rfl ?_
    refine zGetR (r := 3) rfl rfl ⟨by decide, rfl, by decide, rfl⟩ ?_
    refine zPs (pc1 := 13) (l1 := [(1, .int (i32 j)), (0, .ref 0)]) (st1 := [.int (i32 j), .ref 3]) 1 rfl rfl rfl ?_
    refine zAal (n := j) rfl rfl (irD (by omega)) ?_
    refine zPs (pc1 := 16) (l1 := [(2, .ref (286 + j)), (1, .int (i32 j)), (0, .ref 0)]) (st1 := [.ref (286 + j)]) 2 rfl rfl rfl ?_
    refine zGetI (F := 326) (I := j) (v := l 326 j) rfl rfl (icD (j := 0) (by omega) rfl) rfl ?_
    refine zPs (pc1 := 20) (l1 := [(2, .ref (286 + j)), (1, .int (i32 j)), (0, .ref 0)]) (st1 := [.int (4 : Int32), .int (l 326 j)]) 1 rfl rfl rfl ?_
    refine zCn rfl (fun h2 => ?_) (fun h2 => ?_)
    · replace k := ite_t h2 k
      refine zPs (pc1 := 45) (l1 := [(1, .int (i32 j + (1 : Int32))), (2, .ref (286 + j)), (0, .ref 0)]) (st1 := []) 1 rfl rfl rfl ?_
      refine zTo (ml' := [(1, .int (i32 (j + 1))), (2, .ref (286 + j)), (0, .ref 0)]) (st' := []) (by rw [show (i32 j + (1 : Int32)) = i32 (j + 1) from i32_add j 1]) rfl ?_
      refine zPs (pc1 := 2) (l1 := [(1, .int (i32 (j + 1))), (2, .ref (286 + j)), (0, .ref 0)]) (st1 := []) 1 rfl rfl rfl ?_
      refine zMl (ml' := [(1, .int (i32 (j + 1))), (0, .ref 0)]) ⟨rfl, rfl, trivial⟩ rfl rfl ?_
      exact ih (j + 1) l (by omega) hCI k
    · replace k := ite_f (not_not_intro h2) k
      refine zPs (pc1 := 24) (l1 := [(2, .ref (286 + j)), (1, .int (i32 j)), (0, .ref 0)]) (st1 := [.ref (286 + j)]) 1 rfl rfl rfl ?_
      refine zGetI (F := 330) (I := j) (v := l 330 j) rfl rfl (icD (j := 4) (by omega) rfl) rfl ?_
      refine zPs (pc1 := 28) (l1 := [(2, .ref (286 + j)), (1, .int (i32 j)), (0, .ref 0)]) (st1 := [.ref 0, .int (l 330 j)]) 1 rfl rfl rfl ?_
      refine zGetI (F := 292) (I := 0) (v := l 292 0) rfl rfl icNow rfl ?_
      refine zCgt rfl (fun h3 => ?_) (fun h3 => ?_)
      · replace k := ite_t h3 k
        refine zPs (pc1 := 45) (l1 := [(1, .int (i32 j + (1 : Int32))), (2, .ref (286 + j)), (0, .ref 0)]) (st1 := []) 1 rfl rfl rfl ?_
        refine zTo (ml' := [(1, .int (i32 (j + 1))), (2, .ref (286 + j)), (0, .ref 0)]) (st' := []) (by rw [show (i32 j + (1 : Int32)) = i32 (j + 1) from i32_add j 1]) rfl ?_
        refine zPs (pc1 := 2) (l1 := [(1, .int (i32 (j + 1))), (2, .ref (286 + j)), (0, .ref 0)]) (st1 := []) 1 rfl rfl rfl ?_
        refine zMl (ml' := [(1, .int (i32 (j + 1))), (0, .ref 0)]) ⟨rfl, rfl, trivial⟩ rfl rfl ?_
        exact ih (j + 1) l (by omega) hCI k
      · replace k := ite_f h3 k
        refine zPs (pc1 := 36) (l1 := [(2, .ref (286 + j)), (1, .int (i32 j)), (0, .ref 0)]) (st1 := [.ref 0, .ref (286 + j)]) 2 rfl rfl rfl ?_
        refine zGetI (F := 292) (I := 0) (v := l 292 0) rfl rfl icNow rfl ?_
        refine zCv (mj := 1) (k := (286 + j)) (n := 1) rfl rfl rfl rfl (by have := (by omega); omega) (tagK_desk (by omega)) rfl rfl rfl rfl rfl ?_
        refine e_1 (by omega) ?_
        refine kV ?_
        have hCI4 : CI (f_1 j (l 292 0) l) n := ci_1 hCI
        replace k := bnd_i k
        generalize f_1 j (l 292 0) l = l4 at k hCI4 ⊢
        refine zPs (pc1 := 45) (l1 := [(1, .int (i32 j + (1 : Int32))), (2, .ref (286 + j)), (0, .ref 0)]) (st1 := []) 1 rfl rfl rfl ?_
        refine zTo (ml' := [(1, .int (i32 (j + 1))), (2, .ref (286 + j)), (0, .ref 0)]) (st' := []) (by rw [show (i32 j + (1 : Int32)) = i32 (j + 1) from i32_add j 1]) rfl ?_
        refine zPs (pc1 := 2) (l1 := [(1, .int (i32 (j + 1))), (2, .ref (286 + j)), (0, .ref 0)]) (st1 := []) 1 rfl rfl rfl ?_
        refine zMl (ml' := [(1, .int (i32 (j + 1))), (0, .ref 0)]) ⟨rfl, rfl, trivial⟩ rfl rfl ?_
        exact ih (j + 1) l4 (by omega) hCI4 k
theorem ci_g_94 {n : Nat}  : ∀ (d j : Nat) (l : Sg), CI l n → CI (g_94  d j  l) n := by
  intro d
  induction d with
  | zero =>
    intro j l h
    rw [g_94]
    (repeat' first | with_reducible exact h | with_reducible refine CI_ite ?_ ?_ | with_reducible refine CI_ite2 ?_ ?_ | with_reducible refine CI_ite3 ?_ ?_ | with_reducible refine CI_bnd ?_ | with_reducible refine CI_bnd' ?_ | with_reducible refine CI_bnd3 ?_ | with_reducible refine CI_bnd2 ?_ | with_reducible refine CI_bnd2' ?_ | with_reducible refine CI_bnd23 ?_ | with_reducible refine CI_up ?_ ?_ | with_reducible refine ci_1 ?_ | with_reducible refine ci_2 ?_ | with_reducible refine ci_17 ?_ | with_reducible refine ci_18 ?_ | with_reducible refine ci_19 ?_ | with_reducible refine ci_20 ?_ | with_reducible refine ci_25 ?_ | with_reducible refine ci_g_181 _ _ _ ?_ | with_reducible refine ci_181 ?_ | with_reducible refine ci_4 ?_ | with_reducible refine ci_g_6 _ _ _ ?_ | with_reducible refine ci_6 ?_ | with_reducible refine ci_g_5 _ _ _ _ (by omega) (by omega) ?_ | with_reducible refine ci_5 ?_ | with_reducible refine ci_22 ?_ | with_reducible refine ci_23 ?_ | with_reducible refine ci_92 ?_ | with_reducible refine ci_101 ?_ | with_reducible refine ci_91 ?_ | with_reducible refine ci_93 ?_ | with_reducible refine ci_90 ?_ | with_reducible refine ci_100 ?_ | with_reducible refine ci_82 ?_ | with_reducible refine ci_g_81 _ _ _ _ ?_ | with_reducible refine ci_81 ?_ | with_reducible refine ci_80 ?_ | with_reducible refine ci_87 ?_ | with_reducible refine ci_86 ?_ | with_reducible refine ci_85 ?_ | with_reducible refine ci_89 ?_ | with_reducible refine ci_g_88 _ _ _ ?_ | with_reducible refine ci_88 ?_) <;> rfl
  | succ d ih =>
    intro j l h
    rw [g_94]
    (repeat' first | with_reducible exact h | with_reducible refine CI_ite ?_ ?_ | with_reducible refine CI_ite2 ?_ ?_ | with_reducible refine CI_ite3 ?_ ?_ | with_reducible refine CI_bnd ?_ | with_reducible refine CI_bnd' ?_ | with_reducible refine CI_bnd3 ?_ | with_reducible refine CI_bnd2 ?_ | with_reducible refine CI_bnd2' ?_ | with_reducible refine CI_bnd23 ?_ | with_reducible refine CI_up ?_ ?_ | with_reducible refine ci_1 ?_ | with_reducible refine ci_2 ?_ | with_reducible refine ci_17 ?_ | with_reducible refine ci_18 ?_ | with_reducible refine ci_19 ?_ | with_reducible refine ci_20 ?_ | with_reducible refine ci_25 ?_ | with_reducible refine ci_g_181 _ _ _ ?_ | with_reducible refine ci_181 ?_ | with_reducible refine ci_4 ?_ | with_reducible refine ci_g_6 _ _ _ ?_ | with_reducible refine ci_6 ?_ | with_reducible refine ci_g_5 _ _ _ _ (by omega) (by omega) ?_ | with_reducible refine ci_5 ?_ | with_reducible refine ci_22 ?_ | with_reducible refine ci_23 ?_ | with_reducible refine ci_92 ?_ | with_reducible refine ci_101 ?_ | with_reducible refine ci_91 ?_ | with_reducible refine ci_93 ?_ | with_reducible refine ci_90 ?_ | with_reducible refine ci_100 ?_ | with_reducible refine ci_82 ?_ | with_reducible refine ci_g_81 _ _ _ _ ?_ | with_reducible refine ci_81 ?_ | with_reducible refine ci_80 ?_ | with_reducible refine ci_87 ?_ | with_reducible refine ci_86 ?_ | with_reducible refine ci_85 ?_ | with_reducible refine ci_89 ?_ | with_reducible refine ci_g_88 _ _ _ ?_ | with_reducible refine ci_88 ?_ | with_reducible refine ih _ _ ?_) <;> rfl
noncomputable def f_94  (l : Sg) : Sg := g_94  6 0  l
theorem e_94 {l : Sg} {P : MO → Sg → Prop} {n : Nat}  (hl : n ≤ 60) (hCI : CI l n)  (k : Rk (Qm P) (f_94  l)) : Es false 94 [.ref 0] l P := by
  unfold f_94 at k
  refine Es.of ?_
  refine zPs (pc1 := 2) (l1 := [(1, .int (0 : Int32)), (0, .ref 0)]) (st1 := []) 2 rfl rfl rfl ?_
  refine zMl (ml' := [(1, .int (i32 0)), (0, .ref 0)]) ⟨rfl, rfl, trivial⟩ rfl rfl ?_
  exact lg_94 hl 6 0  l (by omega) hCI k
theorem ci_94 {l : Sg} {n : Nat}  (h : CI l n) : CI (f_94  l) n := by
  unfold f_94
  (repeat' first | with_reducible exact h | with_reducible refine CI_ite ?_ ?_ | with_reducible refine CI_ite2 ?_ ?_ | with_reducible refine CI_ite3 ?_ ?_ | with_reducible refine CI_bnd ?_ | with_reducible refine CI_bnd' ?_ | with_reducible refine CI_bnd3 ?_ | with_reducible refine CI_bnd2 ?_ | with_reducible refine CI_bnd2' ?_ | with_reducible refine CI_bnd23 ?_ | with_reducible refine CI_up ?_ ?_ | with_reducible refine ci_1 ?_ | with_reducible refine ci_2 ?_ | with_reducible refine ci_17 ?_ | with_reducible refine ci_18 ?_ | with_reducible refine ci_19 ?_ | with_reducible refine ci_20 ?_ | with_reducible refine ci_25 ?_ | with_reducible refine ci_g_181 _ _ _ ?_ | with_reducible refine ci_181 ?_ | with_reducible refine ci_4 ?_ | with_reducible refine ci_g_6 _ _ _ ?_ | with_reducible refine ci_6 ?_ | with_reducible refine ci_g_5 _ _ _ _ (by omega) (by omega) ?_ | with_reducible refine ci_5 ?_ | with_reducible refine ci_22 ?_ | with_reducible refine ci_23 ?_ | with_reducible refine ci_92 ?_ | with_reducible refine ci_101 ?_ | with_reducible refine ci_91 ?_ | with_reducible refine ci_93 ?_ | with_reducible refine ci_90 ?_ | with_reducible refine ci_100 ?_ | with_reducible refine ci_82 ?_ | with_reducible refine ci_g_81 _ _ _ _ ?_ | with_reducible refine ci_81 ?_ | with_reducible refine ci_80 ?_ | with_reducible refine ci_87 ?_ | with_reducible refine ci_86 ?_ | with_reducible refine ci_85 ?_ | with_reducible refine ci_89 ?_ | with_reducible refine ci_g_88 _ _ _ ?_ | with_reducible refine ci_88 ?_ | with_reducible refine ci_g_94 _ _ _ ?_) <;> rfl
noncomputable def g_96 (n : Nat) : Nat → Nat → Sg → Sg
  | 0, _, l => l
  | d + 1, j, l => (if isA (f_97 n l) then (if isCl n (f_99 n (l 327 ((f_97 n l).toNatClampNeg)) l) then (bnd (f_100 (f_97 n l) ((f_99 n (l 327 ((f_97 n l).toNatClampNeg)) l).toNatClampNeg) l) fun l6 => g_96 n d (j + 1)  l6) else g_96 n d (j + 1)  l) else l)
theorem lg_96 {P : MO → Sg → Prop} {rc rs : Nat} {n : Nat}(hl : n ≤ 60)  : ∀ (d j : Nat) (l : Sg), j + d = 6 → CI l n → Rk (Qm P) (g_96 n d j  l) → Ws false 96 rc rs 2 [(1, .int (i32 j)), (0, .ref 0)] [] l P := by
  intro d
  induction d with
  | zero =>
    intro j l hj hCI k
    obtain rfl : 6 = j := by omega
    rw [g_96] at k
    refine zPs (pc1 := 5) (l1 := [(1, .int (i32 6)), (0, .ref 0)]) (st1 := [.int (6 : Int32), .int (i32 6)]) 2 rfl rfl rfl ?_
    refine nCge (a := 6) (b := 6) (by omega) (by omega) rfl (fun h1 => ?_) (fun h1 => absurd (Nat.le_refl _) h1)
    refine zRv rfl rfl ?_
    exact k
  | succ d ih =>
    intro j l hj hCI k
    have hjl : j < 6 := by omega
    rw [g_96] at k
    refine zPs (pc1 := 5) (l1 := [(1, .int (i32 j)), (0, .ref 0)]) (st1 := [.int (6 : Int32), .int (i32 j)]) 2 rfl rfl rfl ?_
    refine nCge (a := j) (b := 6) (by omega) (by omega) rfl (fun h1 => absurd h1 (by omega)) (fun h1 => ?_)
    refine zPs (pc1 := 9) (l1 := [(1, .int (i32 j)), (0, .ref 0)]) (st1 := [.ref 0]) 1 rfl rfl rfl ?_
    refine zCv (mj := 97) (k := 0) (n := 0) rfl rfl rfl rfl (by decide) rfl rfl rfl rfl rfl rfl ?_
    refine e_97 hl hCI ?_
    refine kI ?_
    refine zPs (pc1 := 14) (l1 := [(2, .int (f_97 n l)), (1, .int (i32 j)), (0, .ref 0)]) (st1 := [.int (f_97 n l)]) 2 rfl rfl rfl ?_
    refine zCs (mj := 78) rfl rfl rfl rfl rfl rfl rfl rfl ?_
    refine e_78 (fun h2 => ?_) (fun h2 => ?_)
    · replace k := ite_t h2 k
      have h3 := rng_i32 (b := 6) (by decide) h2.1 h2.2
      refine kI ?_
      refine zPs (pc1 := 23) (l1 := [(2, .int (f_97 n l)), (1, .int (i32 j)), (0, .ref 0)]) (st1 := [.ref 0, .ref 0]) 3 rfl rfl rfl ?_
      refine zGetR (r := 3) rfl rfl ⟨by decide, rfl, by decide, rfl⟩ ?_
      refine zPs (pc1 := 27) (l1 := [(2, .int (f_97 n l)), (1, .int (i32 j)), (0, .ref 0)]) (st1 := [.int (f_97 n l), .ref 3, .ref 0]) 1 rfl rfl rfl ?_
      refine zAalE (n := (f_97 n l).toNatClampNeg) h3.2 rfl rfl (irD h3.1) ?_
      refine zGetI (F := 327) (I := (f_97 n l).toNatClampNeg) (v := l 327 ((f_97 n l).toNatClampNeg)) rfl rfl (icD (j := 1) h3.1 rfl) rfl ?_
      refine zCv (mj := 99) (k := 0) (n := 1) rfl rfl rfl rfl (by decide) rfl rfl rfl rfl rfl rfl ?_
      refine e_99 hl hCI ?_
      refine kI ?_
      refine zPs (pc1 := 37) (l1 := [(3, .int (f_99 n (l 327 ((f_97 n l).toNatClampNeg)) l)), (2, .int (f_97 n l)), (1, .int (i32 j)), (0, .ref 0)]) (st1 := [.int (f_99 n (l 327 ((f_97 n l).toNatClampNeg)) l), .ref 0]) 3 rfl rfl rfl ?_
      refine zCv (mj := 77) (k := 0) (n := 1) rfl rfl rfl rfl (by decide) rfl rfl rfl rfl rfl rfl ?_
      refine e_77 hCI.1 (fun h4 => ?_) (fun h4 => ?_)
      · replace k := ite_t h4 k
        have h5 := rng_i32 (b := n) (by omega) h4.1 h4.2
        refine kI ?_
        refine zPs (pc1 := 46) (l1 := [(3, .int (f_99 n (l 327 ((f_97 n l).toNatClampNeg)) l)), (2, .int (f_97 n l)), (1, .int (i32 j)), (0, .ref 0)]) (st1 := [.ref 0, .int (f_97 n l), .ref 0]) 4 rfl rfl rfl ?_
        refine zGetR (r := 2) rfl rfl ⟨by decide, rfl, by decide, rfl⟩ ?_
        refine zPs (pc1 := 50) (l1 := [(3, .int (f_99 n (l 327 ((f_97 n l).toNatClampNeg)) l)), (2, .int (f_97 n l)), (1, .int (i32 j)), (0, .ref 0)]) (st1 := [.int (f_99 n (l 327 ((f_97 n l).toNatClampNeg)) l), .ref 2, .int (f_97 n l), .ref 0]) 1 rfl rfl rfl ?_
        refine zAalE (n := (f_99 n (l 327 ((f_97 n l).toNatClampNeg)) l).toNatClampNeg) h5.2 rfl rfl (irL (Nat.lt_of_lt_of_le h5.1 hl)) ?_
        refine zCv (mj := 100) (k := 0) (n := 2) rfl rfl rfl rfl (by decide) rfl rfl rfl rfl rfl rfl ?_
        refine e_100 hl hCI (Nat.lt_of_lt_of_le h5.1 hl) h3 ?_
        refine kV ?_
        have hCI6 : CI (f_100 (f_97 n l) ((f_99 n (l 327 ((f_97 n l).toNatClampNeg)) l).toNatClampNeg) l) n := ci_100 hCI
        replace k := bnd_i k
        generalize f_100 (f_97 n l) ((f_99 n (l 327 ((f_97 n l).toNatClampNeg)) l).toNatClampNeg) l = l6 at k hCI6 ⊢
        refine zPs (pc1 := 57) (l1 := [(1, .int (i32 j + (1 : Int32))), (3, .int (f_99 n (l 327 ((f_97 n l).toNatClampNeg)) l)), (2, .int (f_97 n l)), (0, .ref 0)]) (st1 := []) 1 rfl rfl rfl ?_
        refine zTo (ml' := [(1, .int (i32 (j + 1))), (3, .int (f_99 n (l 327 ((f_97 n l).toNatClampNeg)) l)), (2, .int (f_97 n l)), (0, .ref 0)]) (st' := []) (by rw [show (i32 j + (1 : Int32)) = i32 (j + 1) from i32_add j 1]) rfl ?_
        refine zPs (pc1 := 2) (l1 := [(1, .int (i32 (j + 1))), (3, .int (f_99 n (l 327 ((f_97 n l).toNatClampNeg)) l)), (2, .int (f_97 n l)), (0, .ref 0)]) (st1 := []) 1 rfl rfl rfl ?_
        refine zMl (ml' := [(1, .int (i32 (j + 1))), (0, .ref 0)]) ⟨rfl, rfl, trivial⟩ rfl rfl ?_
        exact ih (j + 1) l6 (by omega) hCI6 k
      · replace k := ite_f h4 k
        refine kI ?_
        refine zPs (pc1 := 57) (l1 := [(1, .int (i32 j + (1 : Int32))), (3, .int (f_99 n (l 327 ((f_97 n l).toNatClampNeg)) l)), (2, .int (f_97 n l)), (0, .ref 0)]) (st1 := []) 2 rfl rfl rfl ?_
        refine zTo (ml' := [(1, .int (i32 (j + 1))), (3, .int (f_99 n (l 327 ((f_97 n l).toNatClampNeg)) l)), (2, .int (f_97 n l)), (0, .ref 0)]) (st' := []) (by rw [show (i32 j + (1 : Int32)) = i32 (j + 1) from i32_add j 1]) rfl ?_
        refine zPs (pc1 := 2) (l1 := [(1, .int (i32 (j + 1))), (3, .int (f_99 n (l 327 ((f_97 n l).toNatClampNeg)) l)), (2, .int (f_97 n l)), (0, .ref 0)]) (st1 := []) 1 rfl rfl rfl ?_
        refine zMl (ml' := [(1, .int (i32 (j + 1))), (0, .ref 0)]) ⟨rfl, rfl, trivial⟩ rfl rfl ?_
        exact ih (j + 1) l (by omega) hCI k
    · replace k := ite_f h2 k
      refine kI ?_
      refine zPs (pc1 := 20) (l1 := [(2, .int (f_97 n l)), (1, .int (i32 j)), (0, .ref 0)]) (st1 := []) 1 rfl rfl rfl ?_
      refine zRv rfl rfl ?_
      exact k
theorem ci_g_96 {n : Nat}  : ∀ (d j : Nat) (l : Sg), CI l n → CI (g_96 n d j  l) n := by
  intro d
  induction d with
  | zero =>
    intro j l h
    rw [g_96]
    (repeat' first | with_reducible exact h | with_reducible refine CI_ite ?_ ?_ | with_reducible refine CI_ite2 ?_ ?_ | with_reducible refine CI_ite3 ?_ ?_ | with_reducible refine CI_bnd ?_ | with_reducible refine CI_bnd' ?_ | with_reducible refine CI_bnd3 ?_ | with_reducible refine CI_bnd2 ?_ | with_reducible refine CI_bnd2' ?_ | with_reducible refine CI_bnd23 ?_ | with_reducible refine CI_up ?_ ?_ | with_reducible refine ci_1 ?_ | with_reducible refine ci_2 ?_ | with_reducible refine ci_17 ?_ | with_reducible refine ci_18 ?_ | with_reducible refine ci_19 ?_ | with_reducible refine ci_20 ?_ | with_reducible refine ci_25 ?_ | with_reducible refine ci_g_181 _ _ _ ?_ | with_reducible refine ci_181 ?_ | with_reducible refine ci_4 ?_ | with_reducible refine ci_g_6 _ _ _ ?_ | with_reducible refine ci_6 ?_ | with_reducible refine ci_g_5 _ _ _ _ (by omega) (by omega) ?_ | with_reducible refine ci_5 ?_ | with_reducible refine ci_22 ?_ | with_reducible refine ci_23 ?_ | with_reducible refine ci_92 ?_ | with_reducible refine ci_101 ?_ | with_reducible refine ci_91 ?_ | with_reducible refine ci_93 ?_ | with_reducible refine ci_90 ?_ | with_reducible refine ci_100 ?_ | with_reducible refine ci_82 ?_ | with_reducible refine ci_g_81 _ _ _ _ ?_ | with_reducible refine ci_81 ?_ | with_reducible refine ci_80 ?_ | with_reducible refine ci_87 ?_ | with_reducible refine ci_86 ?_ | with_reducible refine ci_85 ?_ | with_reducible refine ci_89 ?_ | with_reducible refine ci_g_88 _ _ _ ?_ | with_reducible refine ci_88 ?_ | with_reducible refine ci_g_94 _ _ _ ?_ | with_reducible refine ci_94 ?_) <;> rfl
  | succ d ih =>
    intro j l h
    rw [g_96]
    (repeat' first | with_reducible exact h | with_reducible refine CI_ite ?_ ?_ | with_reducible refine CI_ite2 ?_ ?_ | with_reducible refine CI_ite3 ?_ ?_ | with_reducible refine CI_bnd ?_ | with_reducible refine CI_bnd' ?_ | with_reducible refine CI_bnd3 ?_ | with_reducible refine CI_bnd2 ?_ | with_reducible refine CI_bnd2' ?_ | with_reducible refine CI_bnd23 ?_ | with_reducible refine CI_up ?_ ?_ | with_reducible refine ci_1 ?_ | with_reducible refine ci_2 ?_ | with_reducible refine ci_17 ?_ | with_reducible refine ci_18 ?_ | with_reducible refine ci_19 ?_ | with_reducible refine ci_20 ?_ | with_reducible refine ci_25 ?_ | with_reducible refine ci_g_181 _ _ _ ?_ | with_reducible refine ci_181 ?_ | with_reducible refine ci_4 ?_ | with_reducible refine ci_g_6 _ _ _ ?_ | with_reducible refine ci_6 ?_ | with_reducible refine ci_g_5 _ _ _ _ (by omega) (by omega) ?_ | with_reducible refine ci_5 ?_ | with_reducible refine ci_22 ?_ | with_reducible refine ci_23 ?_ | with_reducible refine ci_92 ?_ | with_reducible refine ci_101 ?_ | with_reducible refine ci_91 ?_ | with_reducible refine ci_93 ?_ | with_reducible refine ci_90 ?_ | with_reducible refine ci_100 ?_ | with_reducible refine ci_82 ?_ | with_reducible refine ci_g_81 _ _ _ _ ?_ | with_reducible refine ci_81 ?_ | with_reducible refine ci_80 ?_ | with_reducible refine ci_87 ?_ | with_reducible refine ci_86 ?_ | with_reducible refine ci_85 ?_ | with_reducible refine ci_89 ?_ | with_reducible refine ci_g_88 _ _ _ ?_ | with_reducible refine ci_88 ?_ | with_reducible refine ci_g_94 _ _ _ ?_ | with_reducible refine ci_94 ?_ | with_reducible refine ih _ _ ?_) <;> rfl
noncomputable def f_96 (n : Nat) (l : Sg) : Sg := g_96 n 6 0  l
theorem e_96 {l : Sg} {P : MO → Sg → Prop} {n : Nat}  (hl : n ≤ 60) (hCI : CI l n)  (k : Rk (Qm P) (f_96 n l)) : Es false 96 [.ref 0] l P := by
  unfold f_96 at k
  refine Es.of ?_
  refine zPs (pc1 := 2) (l1 := [(1, .int (0 : Int32)), (0, .ref 0)]) (st1 := []) 2 rfl rfl rfl ?_
  refine zMl (ml' := [(1, .int (i32 0)), (0, .ref 0)]) ⟨rfl, rfl, trivial⟩ rfl rfl ?_
  exact lg_96 hl 6 0  l (by omega) hCI k
theorem ci_96 {l : Sg} {n : Nat}  (h : CI l n) : CI (f_96 n l) n := by
  unfold f_96
  (repeat' first | with_reducible exact h | with_reducible refine CI_ite ?_ ?_ | with_reducible refine CI_ite2 ?_ ?_ | with_reducible refine CI_ite3 ?_ ?_ | with_reducible refine CI_bnd ?_ | with_reducible refine CI_bnd' ?_ | with_reducible refine CI_bnd3 ?_ | with_reducible refine CI_bnd2 ?_ | with_reducible refine CI_bnd2' ?_ | with_reducible refine CI_bnd23 ?_ | with_reducible refine CI_up ?_ ?_ | with_reducible refine ci_1 ?_ | with_reducible refine ci_2 ?_ | with_reducible refine ci_17 ?_ | with_reducible refine ci_18 ?_ | with_reducible refine ci_19 ?_ | with_reducible refine ci_20 ?_ | with_reducible refine ci_25 ?_ | with_reducible refine ci_g_181 _ _ _ ?_ | with_reducible refine ci_181 ?_ | with_reducible refine ci_4 ?_ | with_reducible refine ci_g_6 _ _ _ ?_ | with_reducible refine ci_6 ?_ | with_reducible refine ci_g_5 _ _ _ _ (by omega) (by omega) ?_ | with_reducible refine ci_5 ?_ | with_reducible refine ci_22 ?_ | with_reducible refine ci_23 ?_ | with_reducible refine ci_92 ?_ | with_reducible refine ci_101 ?_ | with_reducible refine ci_91 ?_ | with_reducible refine ci_93 ?_ | with_reducible refine ci_90 ?_ | with_reducible refine ci_100 ?_ | with_reducible refine ci_82 ?_ | with_reducible refine ci_g_81 _ _ _ _ ?_ | with_reducible refine ci_81 ?_ | with_reducible refine ci_80 ?_ | with_reducible refine ci_87 ?_ | with_reducible refine ci_86 ?_ | with_reducible refine ci_85 ?_ | with_reducible refine ci_89 ?_ | with_reducible refine ci_g_88 _ _ _ ?_ | with_reducible refine ci_88 ?_ | with_reducible refine ci_g_94 _ _ _ ?_ | with_reducible refine ci_94 ?_ | with_reducible refine ci_g_96 _ _ _ ?_) <;> rfl
noncomputable def f_95 (n : Nat) (l : Sg) : Sg := (bnd (f_96 n l) fun l1 => (bnd (f_5 l1) fun l2 => l2))
theorem e_95 {l : Sg} {P : MO → Sg → Prop} {n : Nat}  (hl : n ≤ 60) (hCI : CI l n)  (k : Rk (Qm P) (f_95 n l)) : Es false 95 [.ref 0] l P := by
  unfold f_95 at k
  refine Es.of ?_
  refine zPs (pc1 := 1) (l1 := [(0, .ref 0)]) (st1 := [.ref 0]) 1 rfl rfl rfl ?_
  refine zCv (mj := 96) (k := 0) (n := 0) rfl rfl rfl rfl (by decide) rfl rfl rfl rfl rfl rfl ?_
  refine e_96 hl hCI ?_
  refine kV ?_
  have hCI1 : CI (f_96 n l) n := ci_96 hCI
  replace k := bnd_i k
  generalize f_96 n l = l1 at k hCI1 ⊢
  refine zPs (pc1 := 5) (l1 := [(0, .ref 0)]) (st1 := [.ref 0]) 1 rfl rfl rfl ?_
  refine zGetR (r := 8) rfl rfl ⟨by decide, rfl, by decide, rfl⟩ ?_
  refine zCv (mj := 5) (k := 8) (n := 0) rfl rfl rfl rfl (by decide) rfl rfl rfl rfl rfl rfl ?_
  refine e_5 hl hCI1 ?_
  refine kV ?_
  have hCI2 : CI (f_5 l1) n := ci_5 hCI1
  replace k := bnd_i k
  generalize f_5 l1 = l2 at k hCI2 ⊢
  refine zRv rfl rfl ?_
  exact k
theorem ci_95 {l : Sg} {n : Nat}  (h : CI l n) : CI (f_95 n l) n := by
  unfold f_95
  (repeat' first | with_reducible exact h | with_reducible refine CI_ite ?_ ?_ | with_reducible refine CI_ite2 ?_ ?_ | with_reducible refine CI_ite3 ?_ ?_ | with_reducible refine CI_bnd ?_ | with_reducible refine CI_bnd' ?_ | with_reducible refine CI_bnd3 ?_ | with_reducible refine CI_bnd2 ?_ | with_reducible refine CI_bnd2' ?_ | with_reducible refine CI_bnd23 ?_ | with_reducible refine CI_up ?_ ?_ | with_reducible refine ci_1 ?_ | with_reducible refine ci_2 ?_ | with_reducible refine ci_17 ?_ | with_reducible refine ci_18 ?_ | with_reducible refine ci_19 ?_ | with_reducible refine ci_20 ?_ | with_reducible refine ci_25 ?_ | with_reducible refine ci_g_181 _ _ _ ?_ | with_reducible refine ci_181 ?_ | with_reducible refine ci_4 ?_ | with_reducible refine ci_g_6 _ _ _ ?_ | with_reducible refine ci_6 ?_ | with_reducible refine ci_g_5 _ _ _ _ (by omega) (by omega) ?_ | with_reducible refine ci_5 ?_ | with_reducible refine ci_22 ?_ | with_reducible refine ci_23 ?_ | with_reducible refine ci_92 ?_ | with_reducible refine ci_101 ?_ | with_reducible refine ci_91 ?_ | with_reducible refine ci_93 ?_ | with_reducible refine ci_90 ?_ | with_reducible refine ci_100 ?_ | with_reducible refine ci_82 ?_ | with_reducible refine ci_g_81 _ _ _ _ ?_ | with_reducible refine ci_81 ?_ | with_reducible refine ci_80 ?_ | with_reducible refine ci_87 ?_ | with_reducible refine ci_86 ?_ | with_reducible refine ci_85 ?_ | with_reducible refine ci_89 ?_ | with_reducible refine ci_g_88 _ _ _ ?_ | with_reducible refine ci_88 ?_ | with_reducible refine ci_g_94 _ _ _ ?_ | with_reducible refine ci_94 ?_ | with_reducible refine ci_g_96 _ _ _ ?_ | with_reducible refine ci_96 ?_) <;> rfl
