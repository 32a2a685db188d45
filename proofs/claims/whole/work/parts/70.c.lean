/-! ===== the model: its face, what is so ===== -/
noncomputable def f_106  (l : Sg) : Int32 := l 292 41
theorem e_106 {l : Sg} {P : MO → Sg → Prop}   (k : Rk (Qv P l) (f_106  l)) : Es true 106 [.ref 292] l P := by
  unfold f_106 at k
  refine Es.of ?_
  refine zPs (pc1 := 1) (l1 := [(0, .ref 292)]) (st1 := [.ref 292]) 1 rfl rfl rfl ?_
  refine zGetI (F := 292) (I := 41) (v := l 292 41) rfl rfl icThr rfl ?_
  refine zRi rfl rfl ?_
  exact k
noncomputable def f_167 (n : Nat) (t : Nat) (l : Sg) : Int32 × Sg := (i32 n, (up2 l 292 41 (0 : Int32)))
theorem e_167 {l : Sg} {P : MO → Sg → Prop} {n : Nat}  {t : Nat} (hl : n ≤ 60) (htl : t ≤ 20000) (hCI : CZ l n t)  (k : Rk (Qb P) (f_167 n t l)) : Es true 167 [.ref 292] l P := by
  unfold f_167 at k
  refine Es.of ?_
  refine zPs (pc1 := 2) (l1 := [(0, .ref 292)]) (st1 := [.int (0 : Int32), .ref 292]) 2 rfl rfl rfl ?_
  refine zPutI (F := 292) (I := 41) rfl rfl icThr rfl ?_
  refine zPs (pc1 := 6) (l1 := [(0, .ref 292)]) (st1 := [.ref 292]) 1 rfl rfl rfl ?_
  refine zGetI (F := 292) (I := 19) (v := i32 n) rfl rfl icNum (CZ_thr hCI).1 ?_
  refine zRi rfl rfl ?_
  exact k
noncomputable def f_168 (n : Nat) (t : Nat) (x0 : Int32) (l : Sg) : Int32 × Sg := (if isC n x0 then (l 311 x0.toNatClampNeg, (up2 l 292 41 (0 : Int32))) else ((0 : Int32), (up2 l 292 41 (1 : Int32))))
theorem e_168 {l : Sg} {P : MO → Sg → Prop} {n : Nat} {x0 : Int32} {t : Nat} (hl : n ≤ 60) (htl : t ≤ 20000) (hCI : CZ l n t)  (k : Rk (Qb P) (f_168 n t x0 l)) : Es true 168 [.ref 292, .int x0] l P := by
  unfold f_168 at k
  refine Es.of ?_
  refine zPs (pc1 := 2) (l1 := [(0, .ref 292), (1, .int x0)]) (st1 := [.int x0, .ref 292]) 2 rfl rfl rfl ?_
  refine zCv (mj := 151) (k := 292) (n := 1) rfl rfl rfl rfl (by decide) rfl rfl rfl rfl rfl rfl ?_
  refine d_151 hl hCI.1 (fun h1 => ?_) (fun h1 => ?_)
  · replace k := ite_t h1 k
    have h2 := rng_i32 (b := n) (by omega) h1.1 h1.2
    refine kI ?_
    refine zZ (z' := (up2 l 292 41 (0 : Int32))) rfl ?_
    refine zPs (pc1 := 9) (l1 := [(0, .ref 292), (1, .int x0)]) (st1 := [.ref 292]) 2 rfl rfl rfl ?_
    refine zGetR (r := 311) rfl rfl ⟨by decide, rfl, by decide, rfl⟩ ?_
    refine zPs (pc1 := 13) (l1 := [(0, .ref 292), (1, .int x0)]) (st1 := [.int x0, .ref 311]) 1 rfl rfl rfl ?_
    refine zIalE (n := x0.toNatClampNeg) (v := l 311 x0.toNatClampNeg) h2.2 rfl (icM (k := 311) (L := 60) rfl (Nat.lt_of_lt_of_le h2.1 hl)) rfl ?_
    refine zPs (pc1 := 18) (l1 := [(0, .ref 292), (1, .int x0)]) (st1 := [.int (l 311 x0.toNatClampNeg)]) 1 rfl rfl rfl ?_
    refine zRi rfl rfl ?_
    exact k
  · replace k := ite_f h1 k
    refine kI ?_
    refine zZ (z' := (up2 l 292 41 (1 : Int32))) rfl ?_
    refine zPs (pc1 := 18) (l1 := [(0, .ref 292), (1, .int x0)]) (st1 := [.int (0 : Int32)]) 2 rfl rfl rfl ?_
    refine zRi rfl rfl ?_
    exact k
noncomputable def f_169 (n : Nat) (t : Nat) (x0 : Int32) (l : Sg) : Int32 × Sg := (if isC n x0 then (if ¬ l 311 x0.toNatClampNeg = (5 : Int32) then ((-1 : Int32), (up2 l 292 41 (0 : Int32))) else (l 312 x0.toNatClampNeg, (up2 l 292 41 (0 : Int32)))) else ((0 : Int32), (up2 l 292 41 (1 : Int32))))
theorem e_169 {l : Sg} {P : MO → Sg → Prop} {n : Nat} {x0 : Int32} {t : Nat} (hl : n ≤ 60) (htl : t ≤ 20000) (hCI : CZ l n t)  (k : Rk (Qb P) (f_169 n t x0 l)) : Es true 169 [.ref 292, .int x0] l P := by
  unfold f_169 at k
  refine Es.of ?_
  refine zPs (pc1 := 2) (l1 := [(0, .ref 292), (1, .int x0)]) (st1 := [.int x0, .ref 292]) 2 rfl rfl rfl ?_
  refine zCv (mj := 151) (k := 292) (n := 1) rfl rfl rfl rfl (by decide) rfl rfl rfl rfl rfl rfl ?_
  refine d_151 hl hCI.1 (fun h1 => ?_) (fun h1 => ?_)
  · replace k := ite_t h1 k
    have h2 := rng_i32 (b := n) (by omega) h1.1 h1.2
    refine kI ?_
    refine zZ (z' := (up2 l 292 41 (0 : Int32))) rfl ?_
    refine zPs (pc1 := 13) (l1 := [(0, .ref 292), (1, .int x0)]) (st1 := [.ref 292]) 2 rfl rfl rfl ?_
    refine zGetR (r := 311) rfl rfl ⟨by decide, rfl, by decide, rfl⟩ ?_
    refine zPs (pc1 := 17) (l1 := [(0, .ref 292), (1, .int x0)]) (st1 := [.int x0, .ref 311]) 1 rfl rfl rfl ?_
    refine zIalE (n := x0.toNatClampNeg) (v := l 311 x0.toNatClampNeg) h2.2 rfl (icM (k := 311) (L := 60) rfl (Nat.lt_of_lt_of_le h2.1 hl)) rfl ?_
    refine zPs (pc1 := 19) (l1 := [(0, .ref 292), (1, .int x0)]) (st1 := [.int (5 : Int32), .int (l 311 x0.toNatClampNeg)]) 1 rfl rfl rfl ?_
    refine zCn rfl (fun h3 => ?_) (fun h3 => ?_)
    · replace k := ite_t h3 k
      refine zPs (pc1 := 32) (l1 := [(0, .ref 292), (1, .int x0)]) (st1 := [.int (-1 : Int32)]) 1 rfl rfl rfl ?_
      refine zRi rfl rfl ?_
      exact k
    · replace k := ite_f (not_not_intro h3) k
      refine zPs (pc1 := 23) (l1 := [(0, .ref 292), (1, .int x0)]) (st1 := [.ref 292]) 1 rfl rfl rfl ?_
      refine zGetR (r := 312) rfl rfl ⟨by decide, rfl, by decide, rfl⟩ ?_
      refine zPs (pc1 := 27) (l1 := [(0, .ref 292), (1, .int x0)]) (st1 := [.int x0, .ref 312]) 1 rfl rfl rfl ?_
      refine zIalE (n := x0.toNatClampNeg) (v := l 312 x0.toNatClampNeg) h2.2 rfl (icM (k := 312) (L := 60) rfl (Nat.lt_of_lt_of_le h2.1 hl)) rfl ?_
      refine zPs (pc1 := 32) (l1 := [(0, .ref 292), (1, .int x0)]) (st1 := [.int (l 312 x0.toNatClampNeg)]) 1 rfl rfl rfl ?_
      refine zRi rfl rfl ?_
      exact k
  · replace k := ite_f h1 k
    refine kI ?_
    refine zZ (z' := (up2 l 292 41 (1 : Int32))) rfl ?_
    refine zPs (pc1 := 32) (l1 := [(0, .ref 292), (1, .int x0)]) (st1 := [.int (0 : Int32)]) 3 rfl rfl rfl ?_
    refine zRi rfl rfl ?_
    exact k
noncomputable def f_170 (n : Nat) (t : Nat) (x0 : Int32) (l : Sg) : Int32 × Sg := (if isC n x0 then (if (2 : Int32) ≤ l 311 x0.toNatClampNeg then ((-1 : Int32), (up2 l 292 41 (0 : Int32))) else (l 313 x0.toNatClampNeg, (up2 l 292 41 (0 : Int32)))) else ((0 : Int32), (up2 l 292 41 (1 : Int32))))
theorem e_170 {l : Sg} {P : MO → Sg → Prop} {n : Nat} {x0 : Int32} {t : Nat} (hl : n ≤ 60) (htl : t ≤ 20000) (hCI : CZ l n t)  (k : Rk (Qb P) (f_170 n t x0 l)) : Es true 170 [.ref 292, .int x0] l P := by
  unfold f_170 at k
  refine Es.of ?_
  refine zPs (pc1 := 2) (l1 := [(0, .ref 292), (1, .int x0)]) (st1 := [.int x0, .ref 292]) 2 rfl rfl rfl ?_
  refine zCv (mj := 151) (k := 292) (n := 1) rfl rfl rfl rfl (by decide) rfl rfl rfl rfl rfl rfl ?_
  refine d_151 hl hCI.1 (fun h1 => ?_) (fun h1 => ?_)
  · replace k := ite_t h1 k
    have h2 := rng_i32 (b := n) (by omega) h1.1 h1.2
    refine kI ?_
    refine zZ (z' := (up2 l 292 41 (0 : Int32))) rfl ?_
    refine zPs (pc1 := 13) (l1 := [(0, .ref 292), (1, .int x0)]) (st1 := [.ref 292]) 2 rfl rfl rfl ?_
    refine zGetR (r := 311) rfl rfl ⟨by decide, rfl, by decide, rfl⟩ ?_
    refine zPs (pc1 := 17) (l1 := [(0, .ref 292), (1, .int x0)]) (st1 := [.int x0, .ref 311]) 1 rfl rfl rfl ?_
    refine zIalE (n := x0.toNatClampNeg) (v := l 311 x0.toNatClampNeg) h2.2 rfl (icM (k := 311) (L := 60) rfl (Nat.lt_of_lt_of_le h2.1 hl)) rfl ?_
    refine zPs (pc1 := 19) (l1 := [(0, .ref 292), (1, .int x0)]) (st1 := [.int (2 : Int32), .int (l 311 x0.toNatClampNeg)]) 1 rfl rfl rfl ?_
    refine zCge rfl (fun h3 => ?_) (fun h3 => ?_)
    · replace k := ite_t h3 k
      refine zPs (pc1 := 32) (l1 := [(0, .ref 292), (1, .int x0)]) (st1 := [.int (-1 : Int32)]) 1 rfl rfl rfl ?_
      refine zRi rfl rfl ?_
      exact k
    · replace k := ite_f h3 k
      refine zPs (pc1 := 23) (l1 := [(0, .ref 292), (1, .int x0)]) (st1 := [.ref 292]) 1 rfl rfl rfl ?_
      refine zGetR (r := 313) rfl rfl ⟨by decide, rfl, by decide, rfl⟩ ?_
      refine zPs (pc1 := 27) (l1 := [(0, .ref 292), (1, .int x0)]) (st1 := [.int x0, .ref 313]) 1 rfl rfl rfl ?_
      refine zIalE (n := x0.toNatClampNeg) (v := l 313 x0.toNatClampNeg) h2.2 rfl (icM (k := 313) (L := 60) rfl (Nat.lt_of_lt_of_le h2.1 hl)) rfl ?_
      refine zPs (pc1 := 32) (l1 := [(0, .ref 292), (1, .int x0)]) (st1 := [.int (l 313 x0.toNatClampNeg)]) 1 rfl rfl rfl ?_
      refine zRi rfl rfl ?_
      exact k
  · replace k := ite_f h1 k
    refine kI ?_
    refine zZ (z' := (up2 l 292 41 (1 : Int32))) rfl ?_
    refine zPs (pc1 := 32) (l1 := [(0, .ref 292), (1, .int x0)]) (st1 := [.int (0 : Int32)]) 3 rfl rfl rfl ?_
    refine zRi rfl rfl ?_
    exact k
noncomputable def f_171 (n : Nat) (t : Nat) (x0 : Int32) (l : Sg) : Int32 × Sg := (if isC n x0 then (l 317 x0.toNatClampNeg, (up2 l 292 41 (0 : Int32))) else ((0 : Int32), (up2 l 292 41 (1 : Int32))))
theorem e_171 {l : Sg} {P : MO → Sg → Prop} {n : Nat} {x0 : Int32} {t : Nat} (hl : n ≤ 60) (htl : t ≤ 20000) (hCI : CZ l n t)  (k : Rk (Qb P) (f_171 n t x0 l)) : Es true 171 [.ref 292, .int x0] l P := by
  unfold f_171 at k
  refine Es.of ?_
  refine zPs (pc1 := 2) (l1 := [(0, .ref 292), (1, .int x0)]) (st1 := [.int x0, .ref 292]) 2 rfl rfl rfl ?_
  refine zCv (mj := 151) (k := 292) (n := 1) rfl rfl rfl rfl (by decide) rfl rfl rfl rfl rfl rfl ?_
  refine d_151 hl hCI.1 (fun h1 => ?_) (fun h1 => ?_)
  · replace k := ite_t h1 k
    have h2 := rng_i32 (b := n) (by omega) h1.1 h1.2
    refine kI ?_
    refine zZ (z' := (up2 l 292 41 (0 : Int32))) rfl ?_
    refine zPs (pc1 := 9) (l1 := [(0, .ref 292), (1, .int x0)]) (st1 := [.ref 292]) 2 rfl rfl rfl ?_
    refine zGetR (r := 317) rfl rfl ⟨by decide, rfl, by decide, rfl⟩ ?_
    refine zPs (pc1 := 13) (l1 := [(0, .ref 292), (1, .int x0)]) (st1 := [.int x0, .ref 317]) 1 rfl rfl rfl ?_
    refine zIalE (n := x0.toNatClampNeg) (v := l 317 x0.toNatClampNeg) h2.2 rfl (icM (k := 317) (L := 60) rfl (Nat.lt_of_lt_of_le h2.1 hl)) rfl ?_
    refine zPs (pc1 := 18) (l1 := [(0, .ref 292), (1, .int x0)]) (st1 := [.int (l 317 x0.toNatClampNeg)]) 1 rfl rfl rfl ?_
    refine zRi rfl rfl ?_
    exact k
  · replace k := ite_f h1 k
    refine kI ?_
    refine zZ (z' := (up2 l 292 41 (1 : Int32))) rfl ?_
    refine zPs (pc1 := 18) (l1 := [(0, .ref 292), (1, .int x0)]) (st1 := [.int (0 : Int32)]) 2 rfl rfl rfl ?_
    refine zRi rfl rfl ?_
    exact k
theorem k31 {m q : Nat} {x y : Int32} (h1 : i32 m = x) (h2 : i32 q = y) : i32 (31 * m + q) = 31 * x + y := by
  subst h1
  subst h2
  rw [show (31 : Int32) = i32 31 from rfl, i32_mul, i32_add]
theorem isT_nn {x : Int32} (h : isT x) (h2 : 0 ≤ x) : x.toNatClampNeg < 30 ∧ i32 x.toNatClampNeg = x := isN_lt ⟨h2, h.2⟩
noncomputable def g_172 (n : Nat) (c : Nat) : Nat → Nat → Int32 → Sg → Int32 × Sg
  | 0, _, a, l => (if isW l c then (a, l) else ((-1 : Int32), l))
  | d + 1, j, a, l => (if isW l c then (if isW l j then (if ¬ l 320 j = l 320 c then g_172 n c d (j + 1) (a + (0 : Int32)) l else (if score l c < score l j ∨ (score l j = score l c ∧ j < c) then g_172 n c d (j + 1) (a + (1 : Int32)) l else g_172 n c d (j + 1) (a + (0 : Int32)) l)) else g_172 n c d (j + 1) (a + (0 : Int32)) l) else (if isW l c then (a, l) else ((-1 : Int32), l)))
theorem lg_172 {l : Sg} {P : MO → Sg → Prop} {rc rs : Nat} {n : Nat} {c : Nat}{t : Nat} (hl : n ≤ 60) (htl : t ≤ 20000) (hCI : CZ l n t) (hc : c < 60) : ∀ (d j : Nat) (a : Int32), j + d = n → Rk (Qb P) (g_172 n c d j a l) → Ws true 172 rc rs 14 [(3, .int (i32 j)), (2, .int a), (0, .ref 292), (1, .int (i32 c))] [] l P := by
  intro d
  induction d with
  | zero =>
    intro j a hj k
    obtain rfl : n = j := by omega
    rw [g_172] at k
    refine zPs (pc1 := 16) (l1 := [(3, .int (i32 n)), (2, .int a), (0, .ref 292), (1, .int (i32 c))]) (st1 := [.ref 292, .int (i32 n)]) 2 rfl rfl rfl ?_
    refine zGetI (F := 292) (I := 19) (v := i32 n) rfl rfl icNum hCI.1 ?_
    refine nCge (a := n) (b := n) (by omega) (by omega) rfl (fun h1 => ?_) (fun h1 => absurd (Nat.le_refl _) h1)
    refine zPs (pc1 := 78) (l1 := [(3, .int (i32 n)), (2, .int a), (0, .ref 292), (1, .int (i32 c))]) (st1 := [.int (i32 c), .ref 292]) 2 rfl rfl rfl ?_
    refine zCv (mj := 128) (k := 292) (n := 1) rfl rfl rfl rfl (by decide) rfl rfl rfl rfl rfl rfl ?_
    refine c_128 hc (fun h2 => ?_) (fun h2 => ?_)
    · replace k := ite_t h2 k
      refine kI ?_
      refine zPs (pc1 := 89) (l1 := [(3, .int (i32 n)), (2, .int a), (0, .ref 292), (1, .int (i32 c))]) (st1 := [.int a]) 3 rfl rfl rfl ?_
      refine zRi rfl rfl ?_
      exact k
    · replace k := ite_f h2 k
      refine kI ?_
      refine zPs (pc1 := 89) (l1 := [(3, .int (i32 n)), (2, .int a), (0, .ref 292), (1, .int (i32 c))]) (st1 := [.int (-1 : Int32)]) 2 rfl rfl rfl ?_
      refine zRi rfl rfl ?_
      exact k
  | succ d ih =>
    intro j a hj k
    have hjl : j < n := by omega
    rw [g_172] at k
    refine zPs (pc1 := 16) (l1 := [(3, .int (i32 j)), (2, .int a), (0, .ref 292), (1, .int (i32 c))]) (st1 := [.ref 292, .int (i32 j)]) 2 rfl rfl rfl ?_
    refine zGetI (F := 292) (I := 19) (v := i32 n) rfl rfl icNum hCI.1 ?_
    refine nCge (a := j) (b := n) (by omega) (by omega) rfl (fun h1 => absurd h1 (by omega)) (fun h1 => ?_)
    refine zPs (pc1 := 24) (l1 := [(3, .int (i32 j)), (2, .int a), (0, .ref 292), (1, .int (i32 c))]) (st1 := [.int (i32 c), .ref 292]) 2 rfl rfl rfl ?_
    refine zCv (mj := 128) (k := 292) (n := 1) rfl rfl rfl rfl (by decide) rfl rfl rfl rfl rfl rfl ?_
    refine c_128 hc (fun h2 => ?_) (fun h2 => ?_)
    · replace k := ite_t h2 k
      refine kI ?_
      refine zPs (pc1 := 33) (l1 := [(3, .int (i32 j)), (2, .int a), (0, .ref 292), (1, .int (i32 c))]) (st1 := [.int (i32 j), .ref 292, .int a]) 4 rfl rfl rfl ?_
      refine zCv (mj := 128) (k := 292) (n := 1) rfl rfl rfl rfl (by decide) rfl rfl rfl rfl rfl rfl ?_
      refine c_128 (by omega) (fun h3 => ?_) (fun h3 => ?_)
      · replace k := ite_t h3 k
        refine kI ?_
        refine zPs (pc1 := 40) (l1 := [(3, .int (i32 j)), (2, .int a), (0, .ref 292), (1, .int (i32 c))]) (st1 := [.ref 292, .int a]) 2 rfl rfl rfl ?_
        refine zGetR (r := 320) rfl rfl ⟨by decide, rfl, by decide, rfl⟩ ?_
        refine zPs (pc1 := 44) (l1 := [(3, .int (i32 j)), (2, .int a), (0, .ref 292), (1, .int (i32 c))]) (st1 := [.int (i32 j), .ref 320, .int a]) 1 rfl rfl rfl ?_
        refine zIal (n := j) (v := l 320 j) rfl (icM (k := 320) (L := 60) rfl (by omega)) rfl ?_
        refine zPs (pc1 := 46) (l1 := [(3, .int (i32 j)), (2, .int a), (0, .ref 292), (1, .int (i32 c))]) (st1 := [.ref 292, .int (l 320 j), .int a]) 1 rfl rfl rfl ?_
        refine zGetR (r := 320) rfl rfl ⟨by decide, rfl, by decide, rfl⟩ ?_
        refine zPs (pc1 := 50) (l1 := [(3, .int (i32 j)), (2, .int a), (0, .ref 292), (1, .int (i32 c))]) (st1 := [.int (i32 c), .ref 320, .int (l 320 j), .int a]) 1 rfl rfl rfl ?_
        refine zIal (n := c) (v := l 320 c) rfl (icM (k := 320) (L := 60) rfl hc) rfl ?_
        refine zCn rfl (fun h4 => ?_) (fun h4 => ?_)
        · replace k := ite_t h4 k
          refine zPs (pc1 := 73) (l1 := [(3, .int (i32 j + (1 : Int32))), (2, .int (a + (0 : Int32))), (0, .ref 292), (1, .int (i32 c))]) (st1 := []) 4 rfl rfl rfl ?_
          refine zTo (ml' := [(3, .int (i32 (j + 1))), (2, .int (a + (0 : Int32))), (0, .ref 292), (1, .int (i32 c))]) (st' := []) (by rw [show (i32 j + (1 : Int32)) = i32 (j + 1) from i32_add j 1]) rfl ?_
          refine zPs (pc1 := 14) (l1 := [(3, .int (i32 (j + 1))), (2, .int (a + (0 : Int32))), (0, .ref 292), (1, .int (i32 c))]) (st1 := []) 1 rfl rfl rfl ?_
          refine zMl (ml' := [(3, .int (i32 (j + 1))), (2, .int (a + (0 : Int32))), (0, .ref 292), (1, .int (i32 c))]) ⟨rfl, rfl, rfl, rfl, trivial⟩ rfl rfl ?_
          exact ih (j + 1) (a + (0 : Int32)) (by omega) k
        · replace k := ite_f (not_not_intro h4) k
          refine zPs (pc1 := 57) (l1 := [(3, .int (i32 j)), (2, .int a), (0, .ref 292), (1, .int (i32 c))]) (st1 := [.int (i32 c), .int (i32 j), .ref 292, .int a]) 3 rfl rfl rfl ?_
          refine zCv (mj := 131) (k := 292) (n := 2) rfl rfl rfl rfl (by decide) rfl rfl rfl rfl rfl rfl ?_
          refine c_131 (by omega) hc (fun h5 => ?_) (fun h5 => ?_)
          · replace k := ite_t (show score l c < score l j ∨ (score l j = score l c ∧ j < c) from h5) k
            refine kI ?_
            refine zPs (pc1 := 73) (l1 := [(3, .int (i32 j + (1 : Int32))), (2, .int (a + (1 : Int32))), (0, .ref 292), (1, .int (i32 c))]) (st1 := []) 6 rfl rfl rfl ?_
            refine zTo (ml' := [(3, .int (i32 (j + 1))), (2, .int (a + (1 : Int32))), (0, .ref 292), (1, .int (i32 c))]) (st' := []) (by rw [show (i32 j + (1 : Int32)) = i32 (j + 1) from i32_add j 1]) rfl ?_
            refine zPs (pc1 := 14) (l1 := [(3, .int (i32 (j + 1))), (2, .int (a + (1 : Int32))), (0, .ref 292), (1, .int (i32 c))]) (st1 := []) 1 rfl rfl rfl ?_
            refine zMl (ml' := [(3, .int (i32 (j + 1))), (2, .int (a + (1 : Int32))), (0, .ref 292), (1, .int (i32 c))]) ⟨rfl, rfl, rfl, rfl, trivial⟩ rfl rfl ?_
            exact ih (j + 1) (a + (1 : Int32)) (by omega) k
          · replace k := ite_f (show ¬ (score l c < score l j ∨ (score l j = score l c ∧ j < c)) from h5) k
            refine kI ?_
            refine zPs (pc1 := 73) (l1 := [(3, .int (i32 j + (1 : Int32))), (2, .int (a + (0 : Int32))), (0, .ref 292), (1, .int (i32 c))]) (st1 := []) 5 rfl rfl rfl ?_
            refine zTo (ml' := [(3, .int (i32 (j + 1))), (2, .int (a + (0 : Int32))), (0, .ref 292), (1, .int (i32 c))]) (st' := []) (by rw [show (i32 j + (1 : Int32)) = i32 (j + 1) from i32_add j 1]) rfl ?_
            refine zPs (pc1 := 14) (l1 := [(3, .int (i32 (j + 1))), (2, .int (a + (0 : Int32))), (0, .ref 292), (1, .int (i32 c))]) (st1 := []) 1 rfl rfl rfl ?_
            refine zMl (ml' := [(3, .int (i32 (j + 1))), (2, .int (a + (0 : Int32))), (0, .ref 292), (1, .int (i32 c))]) ⟨rfl, rfl, rfl, rfl, trivial⟩ rfl rfl ?_
            exact ih (j + 1) (a + (0 : Int32)) (by omega) k
      · replace k := ite_f h3 k
        refine kI ?_
        refine zPs (pc1 := 73) (l1 := [(3, .int (i32 j + (1 : Int32))), (2, .int (a + (0 : Int32))), (0, .ref 292), (1, .int (i32 c))]) (st1 := []) 5 rfl rfl rfl ?_
        refine zTo (ml' := [(3, .int (i32 (j + 1))), (2, .int (a + (0 : Int32))), (0, .ref 292), (1, .int (i32 c))]) (st' := []) (by rw [show (i32 j + (1 : Int32)) = i32 (j + 1) from i32_add j 1]) rfl ?_
        refine zPs (pc1 := 14) (l1 := [(3, .int (i32 (j + 1))), (2, .int (a + (0 : Int32))), (0, .ref 292), (1, .int (i32 c))]) (st1 := []) 1 rfl rfl rfl ?_
        refine zMl (ml' := [(3, .int (i32 (j + 1))), (2, .int (a + (0 : Int32))), (0, .ref 292), (1, .int (i32 c))]) ⟨rfl, rfl, rfl, rfl, trivial⟩ rfl rfl ?_
        exact ih (j + 1) (a + (0 : Int32)) (by omega) k
    · replace k := ite_f h2 k
      refine kI ?_
      refine zPs (pc1 := 78) (l1 := [(3, .int (i32 j)), (2, .int a), (0, .ref 292), (1, .int (i32 c))]) (st1 := [.int (i32 c), .ref 292]) 3 rfl rfl rfl ?_
      refine zCv (mj := 128) (k := 292) (n := 1) rfl rfl rfl rfl (by decide) rfl rfl rfl rfl rfl rfl ?_
      refine c_128 hc (fun h6 => ?_) (fun h6 => ?_)
      · replace k := ite_t h6 k
        refine kI ?_
        refine zPs (pc1 := 89) (l1 := [(3, .int (i32 j)), (2, .int a), (0, .ref 292), (1, .int (i32 c))]) (st1 := [.int a]) 3 rfl rfl rfl ?_
        refine zRi rfl rfl ?_
        exact k
      · replace k := ite_f h6 k
        refine kI ?_
        refine zPs (pc1 := 89) (l1 := [(3, .int (i32 j)), (2, .int a), (0, .ref 292), (1, .int (i32 c))]) (st1 := [.int (-1 : Int32)]) 2 rfl rfl rfl ?_
        refine zRi rfl rfl ?_
        exact k
noncomputable def f_172 (n : Nat) (t : Nat) (x0 : Int32) (l : Sg) : Int32 × Sg := (if isC n x0 then g_172 n x0.toNatClampNeg n 0 0 (up2 l 292 41 (0 : Int32)) else ((0 : Int32), (up2 l 292 41 (1 : Int32))))
theorem e_172 {l : Sg} {P : MO → Sg → Prop} {n : Nat} {x0 : Int32} {t : Nat} (hl : n ≤ 60) (htl : t ≤ 20000) (hCI : CZ l n t)  (k : Rk (Qb P) (f_172 n t x0 l)) : Es true 172 [.ref 292, .int x0] l P := by
  unfold f_172 at k
  refine Es.of ?_
  refine zPs (pc1 := 2) (l1 := [(0, .ref 292), (1, .int x0)]) (st1 := [.int x0, .ref 292]) 2 rfl rfl rfl ?_
  refine zCv (mj := 151) (k := 292) (n := 1) rfl rfl rfl rfl (by decide) rfl rfl rfl rfl rfl rfl ?_
  refine d_151 hl hCI.1 (fun h1 => ?_) (fun h1 => ?_)
  · replace k := ite_t h1 k
    have h2 := rng_i32 (b := n) (by omega) h1.1 h1.2
    refine kI ?_
    refine zZ (z' := (up2 l 292 41 (0 : Int32))) rfl ?_
    refine zPs (pc1 := 14) (l1 := [(3, .int (0 : Int32)), (2, .int (0 : Int32)), (0, .ref 292), (1, .int x0)]) (st1 := []) 5 rfl rfl rfl ?_
    refine zMl (ml' := [(3, .int (i32 0)), (2, .int (0 : Int32)), (0, .ref 292), (1, .int (i32 x0.toNatClampNeg))]) ⟨rfl, rfl, rfl, (congrArg (fun v => some (Value.int v)) h2.2.symm), trivial⟩ rfl rfl ?_
    exact lg_172 hl htl (CZ_thr hCI) (Nat.lt_of_lt_of_le h2.1 hl) n 0 0 (by omega) k
  · replace k := ite_f h1 k
    refine kI ?_
    refine zZ (z' := (up2 l 292 41 (1 : Int32))) rfl ?_
    refine zPs (pc1 := 9) (l1 := [(0, .ref 292), (1, .int x0)]) (st1 := [.int (0 : Int32)]) 2 rfl rfl rfl ?_
    refine zRi rfl rfl ?_
    exact k
theorem g_172_mem {n c : Nat} : ∀ d j a l, (g_172 n c d j a l).2 = l
  | 0, j, a, l => by
    rw [g_172]
    repeat' split
    all_goals rfl
  | d + 1, j, a, l => by
    rw [g_172]
    repeat' split
    all_goals first | rfl | exact g_172_mem d _ _ _
theorem CZ_172 {n n' t t' : Nat} {x : Int32} {l : Sg} (h : CZ l n t) : CZ (f_172 n' t' x l).2 n t := by
  unfold f_172
  split
  · rw [g_172_mem]; exact CZ_thr h
  · exact CZ_thr h
noncomputable def f_173 (n : Nat) (t : Nat) (x0 : Int32) (l : Sg) : Int32 × Sg := (bnd2 (f_172 n t x0 l) fun v1 l1 => (v1, l1))
theorem e_173 {l : Sg} {P : MO → Sg → Prop} {n : Nat} {x0 : Int32} {t : Nat} (hl : n ≤ 60) (htl : t ≤ 20000) (hCI : CZ l n t)  (k : Rk (Qb P) (f_173 n t x0 l)) : Es true 173 [.ref 292, .int x0] l P := by
  unfold f_173 at k
  refine Es.of ?_
  refine zPs (pc1 := 2) (l1 := [(0, .ref 292), (1, .int x0)]) (st1 := [.int x0, .ref 292]) 2 rfl rfl rfl ?_
  refine zCv (mj := 172) (k := 292) (n := 1) rfl rfl rfl rfl (by decide) rfl rfl rfl rfl rfl rfl ?_
  refine e_172 hl htl hCI ?_
  refine kI ?_
  have hCI1 : CZ (f_172 n t x0 l).2 n t := CZ_172 hCI
  replace k := bnd2_i k
  generalize (f_172 n t x0 l).1 = v1 at k ⊢
  generalize (f_172 n t x0 l).2 = l1 at k hCI1 ⊢
  refine zRi rfl rfl ?_
  exact k
noncomputable def f_174 (n : Nat) (t : Nat) (x0 : Int32) (l : Sg) : Int32 × Sg := (bnd2 (f_172 n t x0 l) fun v1 l1 => (v1, l1))
theorem e_174 {l : Sg} {P : MO → Sg → Prop} {n : Nat} {x0 : Int32} {t : Nat} (hl : n ≤ 60) (htl : t ≤ 20000) (hCI : CZ l n t)  (k : Rk (Qb P) (f_174 n t x0 l)) : Es true 174 [.ref 292, .int x0] l P := by
  unfold f_174 at k
  refine Es.of ?_
  refine zPs (pc1 := 2) (l1 := [(0, .ref 292), (1, .int x0)]) (st1 := [.int x0, .ref 292]) 2 rfl rfl rfl ?_
  refine zCv (mj := 172) (k := 292) (n := 1) rfl rfl rfl rfl (by decide) rfl rfl rfl rfl rfl rfl ?_
  refine e_172 hl htl hCI ?_
  refine kI ?_
  have hCI1 : CZ (f_172 n t x0 l).2 n t := CZ_172 hCI
  replace k := bnd2_i k
  generalize (f_172 n t x0 l).1 = v1 at k ⊢
  generalize (f_172 n t x0 l).2 = l1 at k hCI1 ⊢
  refine zRi rfl rfl ?_
  exact k
noncomputable def f_175 (n : Nat) (t : Nat) (x0 : Int32) (l : Sg) : Int32 × Sg := (if (0 : Int32) ≤ x0 ∧ x0 ≤ (5 : Int32) then (i32 (cntW (up2 l 292 41 (0 : Int32)) x0 n), (up2 l 292 41 (0 : Int32))) else ((0 : Int32), (up2 l 292 41 (1 : Int32))))
theorem e_175 {l : Sg} {P : MO → Sg → Prop} {n : Nat} {x0 : Int32} {t : Nat} (hl : n ≤ 60) (htl : t ≤ 20000) (hCI : CZ l n t)  (k : Rk (Qb P) (f_175 n t x0 l)) : Es true 175 [.ref 292, .int x0] l P := by
  unfold f_175 at k
  refine Es.of ?_
  refine zPs (pc1 := 4) (l1 := [(0, .ref 292), (1, .int x0)]) (st1 := [.int (5 : Int32), .int (0 : Int32), .int x0, .ref 292]) 4 rfl rfl rfl ?_
  refine zCs (mj := 107) rfl rfl rfl rfl rfl rfl rfl rfl ?_
  refine d_107 (fun h1 => ?_) (fun h1 => ?_)
  · replace k := ite_t h1 k
    have h2 := rng_le (b := 5) (by decide) (Int32.le_trans (by decide) h1.1) h1.2
    refine kI ?_
    refine zPs (pc1 := 15) (l1 := [(0, .ref 292), (1, .int x0)]) (st1 := [.int (0 : Int32), .ref 292]) 3 rfl rfl rfl ?_
    refine zPutI (F := 292) (I := 41) rfl rfl icThr rfl ?_
    refine zPs (pc1 := 19) (l1 := [(0, .ref 292), (1, .int x0)]) (st1 := [.ref 292]) 1 rfl rfl rfl ?_
    refine zGetI (F := 292) (I := 41) (v := (0 : Int32)) rfl rfl icThr (by simp [up2]) ?_
    refine zPs (pc1 := 31) (l1 := [(0, .ref 292), (1, .int x0)]) (st1 := [.int x0, .ref 292]) 3 rfl rfl rfl ?_
    refine zCv (mj := 129) (k := 292) (n := 1) rfl rfl rfl rfl (by decide) rfl rfl rfl rfl rfl rfl ?_
    refine c_129 hl (CZ_thr hCI).1 ?_
    refine kI ?_
    refine zRi rfl rfl ?_
    exact k
  · replace k := ite_f h1 k
    refine kI ?_
    refine zPs (pc1 := 15) (l1 := [(0, .ref 292), (1, .int x0)]) (st1 := [.int (1 : Int32), .ref 292]) 2 rfl rfl rfl ?_
    refine zPutI (F := 292) (I := 41) rfl rfl icThr rfl ?_
    refine zPs (pc1 := 19) (l1 := [(0, .ref 292), (1, .int x0)]) (st1 := [.ref 292]) 1 rfl rfl rfl ?_
    refine zGetI (F := 292) (I := 41) (v := (1 : Int32)) rfl rfl icThr (by simp [up2]) ?_
    refine zPs (pc1 := 34) (l1 := [(0, .ref 292), (1, .int x0)]) (st1 := [.int (0 : Int32)]) 3 rfl rfl rfl ?_
    refine zRi rfl rfl ?_
    exact k
noncomputable def f_176 (n : Nat) (t : Nat) (x0 : Int32) (l : Sg) : Int32 × Sg := (if isA x0 then (l 326 x0.toNatClampNeg, (up2 l 292 41 (0 : Int32))) else ((0 : Int32), (up2 l 292 41 (1 : Int32))))
theorem e_176 {l : Sg} {P : MO → Sg → Prop} {n : Nat} {x0 : Int32} {t : Nat} (hl : n ≤ 60) (htl : t ≤ 20000) (hCI : CZ l n t)  (k : Rk (Qb P) (f_176 n t x0 l)) : Es true 176 [.ref 292, .int x0] l P := by
  unfold f_176 at k
  refine Es.of ?_
  refine zPs (pc1 := 2) (l1 := [(0, .ref 292), (1, .int x0)]) (st1 := [.int x0, .ref 292]) 2 rfl rfl rfl ?_
  refine zCv (mj := 156) (k := 292) (n := 1) rfl rfl rfl rfl (by decide) rfl rfl rfl rfl rfl rfl ?_
  refine d_156 (fun h1 => ?_) (fun h1 => ?_)
  · replace k := ite_t h1 k
    have h2 := rng_i32 (b := 6) (by decide) h1.1 h1.2
    refine kI ?_
    refine zZ (z' := (up2 l 292 41 (0 : Int32))) rfl ?_
    refine zPs (pc1 := 9) (l1 := [(0, .ref 292), (1, .int x0)]) (st1 := [.ref 292]) 2 rfl rfl rfl ?_
    refine zGetR (r := 326) rfl rfl ⟨by decide, rfl, by decide, rfl⟩ ?_
    refine zPs (pc1 := 13) (l1 := [(0, .ref 292), (1, .int x0)]) (st1 := [.int x0, .ref 326]) 1 rfl rfl rfl ?_
    refine zIalE (n := x0.toNatClampNeg) (v := l 326 x0.toNatClampNeg) h2.2 rfl (icM (k := 326) (L := 6) rfl h2.1) rfl ?_
    refine zPs (pc1 := 18) (l1 := [(0, .ref 292), (1, .int x0)]) (st1 := [.int (l 326 x0.toNatClampNeg)]) 1 rfl rfl rfl ?_
    refine zRi rfl rfl ?_
    exact k
  · replace k := ite_f h1 k
    refine kI ?_
    refine zZ (z' := (up2 l 292 41 (1 : Int32))) rfl ?_
    refine zPs (pc1 := 18) (l1 := [(0, .ref 292), (1, .int x0)]) (st1 := [.int (0 : Int32)]) 2 rfl rfl rfl ?_
    refine zRi rfl rfl ?_
    exact k
noncomputable def f_177 (n : Nat) (t : Nat) (x0 : Int32) (l : Sg) : Int32 × Sg := (if isA x0 then (l 331 x0.toNatClampNeg, (up2 l 292 41 (0 : Int32))) else ((0 : Int32), (up2 l 292 41 (1 : Int32))))
theorem e_177 {l : Sg} {P : MO → Sg → Prop} {n : Nat} {x0 : Int32} {t : Nat} (hl : n ≤ 60) (htl : t ≤ 20000) (hCI : CZ l n t)  (k : Rk (Qb P) (f_177 n t x0 l)) : Es true 177 [.ref 292, .int x0] l P := by
  unfold f_177 at k
  refine Es.of ?_
  refine zPs (pc1 := 2) (l1 := [(0, .ref 292), (1, .int x0)]) (st1 := [.int x0, .ref 292]) 2 rfl rfl rfl ?_
  refine zCv (mj := 156) (k := 292) (n := 1) rfl rfl rfl rfl (by decide) rfl rfl rfl rfl rfl rfl ?_
  refine d_156 (fun h1 => ?_) (fun h1 => ?_)
  · replace k := ite_t h1 k
    have h2 := rng_i32 (b := 6) (by decide) h1.1 h1.2
    refine kI ?_
    refine zZ (z' := (up2 l 292 41 (0 : Int32))) rfl ?_
    refine zPs (pc1 := 9) (l1 := [(0, .ref 292), (1, .int x0)]) (st1 := [.ref 292]) 2 rfl rfl rfl ?_
    refine zGetR (r := 331) rfl rfl ⟨by decide, rfl, by decide, rfl⟩ ?_
    refine zPs (pc1 := 13) (l1 := [(0, .ref 292), (1, .int x0)]) (st1 := [.int x0, .ref 331]) 1 rfl rfl rfl ?_
    refine zIalE (n := x0.toNatClampNeg) (v := l 331 x0.toNatClampNeg) h2.2 rfl (icM (k := 331) (L := 6) rfl h2.1) rfl ?_
    refine zPs (pc1 := 18) (l1 := [(0, .ref 292), (1, .int x0)]) (st1 := [.int (l 331 x0.toNatClampNeg)]) 1 rfl rfl rfl ?_
    refine zRi rfl rfl ?_
    exact k
  · replace k := ite_f h1 k
    refine kI ?_
    refine zZ (z' := (up2 l 292 41 (1 : Int32))) rfl ?_
    refine zPs (pc1 := 18) (l1 := [(0, .ref 292), (1, .int x0)]) (st1 := [.int (0 : Int32)]) 2 rfl rfl rfl ?_
    refine zRi rfl rfl ?_
    exact k
noncomputable def f_179 (n : Nat) (t : Nat) (x0 : Int32) (l : Sg) : Int32 × Sg := (if isN x0 then (l 310 x0.toNatClampNeg, (up2 l 292 41 (0 : Int32))) else ((0 : Int32), (up2 l 292 41 (1 : Int32))))
theorem e_179 {l : Sg} {P : MO → Sg → Prop} {n : Nat} {x0 : Int32} {t : Nat} (hl : n ≤ 60) (htl : t ≤ 20000) (hCI : CZ l n t)  (k : Rk (Qb P) (f_179 n t x0 l)) : Es true 179 [.ref 292, .int x0] l P := by
  unfold f_179 at k
  refine Es.of ?_
  refine zPs (pc1 := 2) (l1 := [(0, .ref 292), (1, .int x0)]) (st1 := [.int x0, .ref 292]) 2 rfl rfl rfl ?_
  refine zCs (mj := 108) rfl rfl rfl rfl rfl rfl rfl rfl ?_
  refine d_108 (fun h1 => ?_) (fun h1 => ?_)
  · replace k := ite_t h1 k
    have h2 := isN_lt h1
    refine kI ?_
    refine zPs (pc1 := 13) (l1 := [(0, .ref 292), (1, .int x0)]) (st1 := [.int (0 : Int32), .ref 292]) 3 rfl rfl rfl ?_
    refine zPutI (F := 292) (I := 41) rfl rfl icThr rfl ?_
    refine zPs (pc1 := 17) (l1 := [(0, .ref 292), (1, .int x0)]) (st1 := [.ref 292]) 1 rfl rfl rfl ?_
    refine zGetI (F := 292) (I := 41) (v := (0 : Int32)) rfl rfl icThr (by simp [up2]) ?_
    refine zPs (pc1 := 28) (l1 := [(0, .ref 292), (1, .int x0)]) (st1 := [.ref 292]) 2 rfl rfl rfl ?_
    refine zGetR (r := 310) rfl rfl ⟨by decide, rfl, by decide, rfl⟩ ?_
    refine zPs (pc1 := 32) (l1 := [(0, .ref 292), (1, .int x0)]) (st1 := [.int x0, .ref 310]) 1 rfl rfl rfl ?_
    refine zIalE (n := x0.toNatClampNeg) (v := l 310 x0.toNatClampNeg) h2.2 rfl (icM (k := 310) (L := 30) rfl h2.1) rfl ?_
    refine zRi rfl rfl ?_
    exact k
  · replace k := ite_f h1 k
    refine kI ?_
    refine zPs (pc1 := 13) (l1 := [(0, .ref 292), (1, .int x0)]) (st1 := [.int (1 : Int32), .ref 292]) 2 rfl rfl rfl ?_
    refine zPutI (F := 292) (I := 41) rfl rfl icThr rfl ?_
    refine zPs (pc1 := 17) (l1 := [(0, .ref 292), (1, .int x0)]) (st1 := [.ref 292]) 1 rfl rfl rfl ?_
    refine zGetI (F := 292) (I := 41) (v := (1 : Int32)) rfl rfl icThr (by simp [up2]) ?_
    refine zPs (pc1 := 33) (l1 := [(0, .ref 292), (1, .int x0)]) (st1 := [.int (0 : Int32)]) 3 rfl rfl rfl ?_
    refine zRi rfl rfl ?_
    exact k
noncomputable def f_178 (n : Nat) (t : Nat) (x0 : Int32) (x1 : Int32) (l : Sg) : Int32 × Sg := (if isN x0 then (if isT x1 then (if 0 ≤ x1 then (l 309 (31 * x0.toNatClampNeg + x1.toNatClampNeg), (up2 l 292 41 (0 : Int32))) else (l 309 (31 * x0.toNatClampNeg + 30), (up2 l 292 41 (0 : Int32)))) else ((0 : Int32), (up2 l 292 41 (1 : Int32)))) else ((0 : Int32), (up2 l 292 41 (1 : Int32))))
theorem e_178 {l : Sg} {P : MO → Sg → Prop} {n : Nat} {x0 : Int32} {x1 : Int32} {t : Nat} (hl : n ≤ 60) (htl : t ≤ 20000) (hCI : CZ l n t)  (k : Rk (Qb P) (f_178 n t x0 x1 l)) : Es true 178 [.ref 292, .int x0, .int x1] l P := by
  unfold f_178 at k
  refine Es.of ?_
  refine zPs (pc1 := 2) (l1 := [(0, .ref 292), (1, .int x0), (2, .int x1)]) (st1 := [.int x0, .ref 292]) 2 rfl rfl rfl ?_
  refine zCs (mj := 108) rfl rfl rfl rfl rfl rfl rfl rfl ?_
  refine d_108 (fun h1 => ?_) (fun h1 => ?_)
  · replace k := ite_t h1 k
    have h2 := isN_lt h1
    refine kI ?_
    refine zPs (pc1 := 9) (l1 := [(0, .ref 292), (1, .int x0), (2, .int x1)]) (st1 := [.int x1, .ref 292]) 2 rfl rfl rfl ?_
    refine zCs (mj := 109) rfl rfl rfl rfl rfl rfl rfl rfl ?_
    refine c_109 (fun h3 => ?_) (fun h3 => ?_)
    · replace k := ite_t h3 k
      refine kI ?_
      refine zPs (pc1 := 20) (l1 := [(0, .ref 292), (1, .int x0), (2, .int x1)]) (st1 := [.int (0 : Int32), .ref 292]) 3 rfl rfl rfl ?_
      refine zPutI (F := 292) (I := 41) rfl rfl icThr rfl ?_
      refine zPs (pc1 := 24) (l1 := [(0, .ref 292), (1, .int x0), (2, .int x1)]) (st1 := [.ref 292]) 1 rfl rfl rfl ?_
      refine zGetI (F := 292) (I := 41) (v := (0 : Int32)) rfl rfl icThr (by simp [up2]) ?_
      refine zPs (pc1 := 35) (l1 := [(0, .ref 292), (1, .int x0), (2, .int x1)]) (st1 := [.ref 292]) 2 rfl rfl rfl ?_
      refine zGetR (r := 309) rfl rfl ⟨by decide, rfl, by decide, rfl⟩ ?_
      refine zPs (pc1 := 43) (l1 := [(0, .ref 292), (1, .int x0), (2, .int x1)]) (st1 := [.int x1, .int ((31 : Int32) * x0), .ref 309]) 4 rfl rfl rfl ?_
      refine zIfge rfl (fun h4 => ?_) (fun h4 => ?_)
      · replace k := ite_t h4 k
        have h5 := isT_nn h3 h4
        refine zPs (pc1 := 53) (l1 := [(0, .ref 292), (1, .int x0), (2, .int x1)]) (st1 := [.int (((31 : Int32) * x0) + x1), .ref 309]) 2 rfl rfl rfl ?_
        refine zIalE (n := 31 * x0.toNatClampNeg + x1.toNatClampNeg) (v := l 309 (31 * x0.toNatClampNeg + x1.toNatClampNeg)) (k31 h2.2 h5.2) rfl (icM (k := 309) (L := 930) rfl (by have := h2.1; have := h5.1; omega)) rfl ?_
        refine zRi rfl rfl ?_
        exact k
      · replace k := ite_f h4 k
        refine zPs (pc1 := 53) (l1 := [(0, .ref 292), (1, .int x0), (2, .int x1)]) (st1 := [.int (((31 : Int32) * x0) + (30 : Int32)), .ref 309]) 3 rfl rfl rfl ?_
        refine zIalE (n := 31 * x0.toNatClampNeg + 30) (v := l 309 (31 * x0.toNatClampNeg + 30)) (k31 (q := 30) h2.2 rfl) rfl (icM (k := 309) (L := 930) rfl (by have := h2.1; omega)) rfl ?_
        refine zRi rfl rfl ?_
        exact k
    · replace k := ite_f h3 k
      refine kI ?_
      refine zPs (pc1 := 20) (l1 := [(0, .ref 292), (1, .int x0), (2, .int x1)]) (st1 := [.int (1 : Int32), .ref 292]) 2 rfl rfl rfl ?_
      refine zPutI (F := 292) (I := 41) rfl rfl icThr rfl ?_
      refine zPs (pc1 := 24) (l1 := [(0, .ref 292), (1, .int x0), (2, .int x1)]) (st1 := [.ref 292]) 1 rfl rfl rfl ?_
      refine zGetI (F := 292) (I := 41) (v := (1 : Int32)) rfl rfl icThr (by simp [up2]) ?_
      refine zPs (pc1 := 54) (l1 := [(0, .ref 292), (1, .int x0), (2, .int x1)]) (st1 := [.int (0 : Int32)]) 3 rfl rfl rfl ?_
      refine zRi rfl rfl ?_
      exact k
  · replace k := ite_f h1 k
    refine kI ?_
    refine zPs (pc1 := 20) (l1 := [(0, .ref 292), (1, .int x0), (2, .int x1)]) (st1 := [.int (1 : Int32), .ref 292]) 2 rfl rfl rfl ?_
    refine zPutI (F := 292) (I := 41) rfl rfl icThr rfl ?_
    refine zPs (pc1 := 24) (l1 := [(0, .ref 292), (1, .int x0), (2, .int x1)]) (st1 := [.ref 292]) 1 rfl rfl rfl ?_
    refine zGetI (F := 292) (I := 41) (v := (1 : Int32)) rfl rfl icThr (by simp [up2]) ?_
    refine zPs (pc1 := 54) (l1 := [(0, .ref 292), (1, .int x0), (2, .int x1)]) (st1 := [.int (0 : Int32)]) 3 rfl rfl rfl ?_
    refine zRi rfl rfl ?_
    exact k
