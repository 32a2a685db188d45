/-! ===== the model: its face, calls and agents ===== -/
abbrev isC (n : Nat) (x : Int32) : Prop := 0 ≤ x ∧ x < i32 n
theorem isC_iff {n : Nat} {x : Int32} (hl : n ≤ 60) : (0 ≤ x ∧ x ≤ i32 n - 1) ↔ isC n x := by
  have e1 : (i32 n).toInt = n := i32_int (by omega)
  have e2 : (i32 n - 1).toInt = (n : Int) - 1 := by
    rw [Int32.toInt_sub, e1, show (1 : Int32).toInt = 1 from rfl]
    apply Int.bmod_eq_of_le <;> omega
  unfold isC
  simp only [Int32.le_iff_toInt_le, Int32.lt_iff_toInt_lt, e1, e2]
  omega
theorem d_151 {z : Sg} {P : MO → Sg → Prop} {n : Nat} (hl : n ≤ 60) (hn : z 292 19 = i32 n) {a : Int32} (k1 : isC n a → P (.inl (some (.int 1))) (thr z 0)) (k0 : ¬ isC n a → P (.inl (some (.int 0))) (thr z 1)) : Es true 151 [.ref 292, .int a] z P := by
  refine Es.of ?_
  refine zPs (pc1 := 4) (l1 := [(0, .ref 292), (1, .int a)]) (st1 := [.ref 292, .int (0 : Int32), .int a, .ref 292]) 4 rfl rfl rfl ?_
  refine zGetI (v := i32 n) rfl rfl icNum hn ?_
  refine zPs (pc1 := 9) (l1 := [(0, .ref 292), (1, .int a)]) (st1 := [.int (i32 n - (1 : Int32)), .int (0 : Int32), .int a, .ref 292]) 2 rfl rfl rfl ?_
  refine zCs (mj := 107) rfl rfl rfl rfl rfl rfl rfl rfl ?_
  refine c_107 (fun h1 h2 => ?_) (fun h3 => ?_)
  · refine kI ?_
    refine zPs (pc1 := 20) (l1 := [(0, .ref 292), (1, .int a)]) (st1 := [.int (0 : Int32), .ref 292]) 3 rfl rfl rfl ?_
    refine zPutI rfl rfl icThr rfl ?_
    refine zPs (pc1 := 24) (l1 := [(0, .ref 292), (1, .int a)]) (st1 := [.ref 292]) 1 rfl rfl rfl ?_
    refine zGetI (v := (0 : Int32)) rfl rfl icThr (by simp [up2]) ?_
    refine zPs (pc1 := 35) (l1 := [(0, .ref 292), (1, .int a)]) (st1 := [.int (1 : Int32)]) 3 rfl rfl rfl ?_
    refine zRz rfl rfl (Or.inr rfl) ?_
    exact k1 ((isC_iff hl).mp ⟨h1, h2⟩)
  · refine kI ?_
    refine zPs (pc1 := 20) (l1 := [(0, .ref 292), (1, .int a)]) (st1 := [.int (1 : Int32), .ref 292]) 2 rfl rfl rfl ?_
    refine zPutI rfl rfl icThr rfl ?_
    refine zPs (pc1 := 24) (l1 := [(0, .ref 292), (1, .int a)]) (st1 := [.ref 292]) 1 rfl rfl rfl ?_
    refine zGetI (v := (1 : Int32)) rfl rfl icThr (by simp [up2]) ?_
    refine zPs (pc1 := 35) (l1 := [(0, .ref 292), (1, .int a)]) (st1 := [.int (0 : Int32)]) 2 rfl rfl rfl ?_
    refine zRz rfl rfl (Or.inl rfl) ?_
    exact k0 (fun q => h3 ((isC_iff hl).mpr q))
theorem isA_iff {x : Int32} : (0 ≤ x ∧ x ≤ 5) ↔ isA x := by
  unfold isA
  simp only [Int32.le_iff_toInt_le, Int32.lt_iff_toInt_lt, show (5 : Int32).toInt = 5 from rfl, show (6 : Int32).toInt = 6 from rfl]
  omega
theorem d_156 {z : Sg} {P : MO → Sg → Prop} {a : Int32} (k1 : isA a → P (.inl (some (.int 1))) (thr z 0)) (k0 : ¬ isA a → P (.inl (some (.int 0))) (thr z 1)) : Es true 156 [.ref 292, .int a] z P := by
  refine Es.of ?_
  refine zPs (pc1 := 4) (l1 := [(0, .ref 292), (1, .int a)]) (st1 := [.int (5 : Int32), .int (0 : Int32), .int a, .ref 292]) 4 rfl rfl rfl ?_
  refine zCs (mj := 107) rfl rfl rfl rfl rfl rfl rfl rfl ?_
  refine c_107 (fun h1 h2 => ?_) (fun h3 => ?_)
  · refine kI ?_
    refine zPs (pc1 := 15) (l1 := [(0, .ref 292), (1, .int a)]) (st1 := [.int (0 : Int32), .ref 292]) 3 rfl rfl rfl ?_
    refine zPutI rfl rfl icThr rfl ?_
    refine zPs (pc1 := 19) (l1 := [(0, .ref 292), (1, .int a)]) (st1 := [.ref 292]) 1 rfl rfl rfl ?_
    refine zGetI (v := (0 : Int32)) rfl rfl icThr (by simp [up2]) ?_
    refine zPs (pc1 := 30) (l1 := [(0, .ref 292), (1, .int a)]) (st1 := [.int (1 : Int32)]) 3 rfl rfl rfl ?_
    refine zRz rfl rfl (Or.inr rfl) ?_
    exact k1 (isA_iff.mp ⟨h1, h2⟩)
  · refine kI ?_
    refine zPs (pc1 := 15) (l1 := [(0, .ref 292), (1, .int a)]) (st1 := [.int (1 : Int32), .ref 292]) 2 rfl rfl rfl ?_
    refine zPutI rfl rfl icThr rfl ?_
    refine zPs (pc1 := 19) (l1 := [(0, .ref 292), (1, .int a)]) (st1 := [.ref 292]) 1 rfl rfl rfl ?_
    refine zGetI (v := (1 : Int32)) rfl rfl icThr (by simp [up2]) ?_
    refine zPs (pc1 := 30) (l1 := [(0, .ref 292), (1, .int a)]) (st1 := [.int (0 : Int32)]) 2 rfl rfl rfl ?_
    refine zRz rfl rfl (Or.inl rfl) ?_
    exact k0 (fun q => h3 (isA_iff.mpr q))
theorem isN_m1 {x : Int32} (h : isN x) : ¬ x = -1 := by
  rintro rfl
  exact absurd h.1 (by decide)
noncomputable def f_157 (a : Nat) (l : Sg) : Int32 := (if l 326 a = (2 : Int32) then (1 : Int32) else (if ¬ l 326 a = (3 : Int32) then (0 : Int32) else (1 : Int32)))
theorem e_157 {l : Sg} {P : MO → Sg → Prop} {a : Nat}  (ha : a < 6) (k : Rk (Qv P l) (f_157 a l)) : Es true 157 [.ref 292, .int (i32 a)] l P := by
  unfold f_157 at k
  refine Es.of ?_
  refine zPs (pc1 := 1) (l1 := [(0, .ref 292), (1, .int (i32 a))]) (st1 := [.ref 292]) 1 rfl rfl rfl ?_
  refine zGetR (r := 326) rfl rfl ⟨by decide, rfl, by decide, rfl⟩ ?_
  refine zPs (pc1 := 5) (l1 := [(0, .ref 292), (1, .int (i32 a))]) (st1 := [.int (i32 a), .ref 326]) 1 rfl rfl rfl ?_
  refine zIal (n := a) (v := l 326 a) rfl (icM (k := 326) (L := 6) rfl ha) rfl ?_
  refine zPs (pc1 := 7) (l1 := [(0, .ref 292), (1, .int (i32 a))]) (st1 := [.int (2 : Int32), .int (l 326 a)]) 1 rfl rfl rfl ?_
  refine zCe rfl (fun h1 => ?_) (fun h1 => ?_)
  · replace k := ite_t h1 k
    refine zPs (pc1 := 25) (l1 := [(0, .ref 292), (1, .int (i32 a))]) (st1 := [.int (1 : Int32)]) 2 rfl rfl rfl ?_
    refine zRz rfl rfl (Or.inr rfl) ?_
    exact k
  · replace k := ite_f h1 k
    refine zPs (pc1 := 11) (l1 := [(0, .ref 292), (1, .int (i32 a))]) (st1 := [.ref 292]) 1 rfl rfl rfl ?_
    refine zGetR (r := 326) rfl rfl ⟨by decide, rfl, by decide, rfl⟩ ?_
    refine zPs (pc1 := 15) (l1 := [(0, .ref 292), (1, .int (i32 a))]) (st1 := [.int (i32 a), .ref 326]) 1 rfl rfl rfl ?_
    refine zIal (n := a) (v := l 326 a) rfl (icM (k := 326) (L := 6) rfl ha) rfl ?_
    refine zPs (pc1 := 17) (l1 := [(0, .ref 292), (1, .int (i32 a))]) (st1 := [.int (3 : Int32), .int (l 326 a)]) 1 rfl rfl rfl ?_
    refine zCn rfl (fun h2 => ?_) (fun h2 => ?_)
    · replace k := ite_t h2 k
      refine zPs (pc1 := 25) (l1 := [(0, .ref 292), (1, .int (i32 a))]) (st1 := [.int (0 : Int32)]) 1 rfl rfl rfl ?_
      refine zRz rfl rfl (Or.inl rfl) ?_
      exact k
    · replace k := ite_f (not_not_intro h2) k
      refine zPs (pc1 := 25) (l1 := [(0, .ref 292), (1, .int (i32 a))]) (st1 := [.int (1 : Int32)]) 2 rfl rfl rfl ?_
      refine zRz rfl rfl (Or.inr rfl) ?_
      exact k
noncomputable def f_150 (n : Nat) (t : Nat) (x0 : Int32) (l : Sg) : Int32 × Sg := (if isN x0 then (if ¬ n = 60 then (bnd (sGoes (up2 (up2 (up2 (up2 l 292 41 (0 : Int32)) 292 19 (i32 (n + 1))) 320 n (-1 : Int32)) 310 x0.toNatClampNeg (l 310 x0.toNatClampNeg + (1 : Int32))) (n + 1) t n none x0) fun l4 => (bnd (sTakes l4 (n + 1)) fun l5 => (i32 n, l5))) else ((0 : Int32), (up2 l 292 41 (2 : Int32)))) else ((0 : Int32), (up2 l 292 41 (1 : Int32))))
theorem e_150 {l : Sg} {P : MO → Sg → Prop} {n : Nat} {x0 : Int32} {t : Nat} (hl : n ≤ 60) (htl : t ≤ 20000) (hCI : CZ l n t)  (k : Rk (Qb P) (f_150 n t x0 l)) : Es true 150 [.ref 292, .int x0] l P := by
  unfold f_150 at k
  refine Es.of ?_
  refine zPs (pc1 := 2) (l1 := [(0, .ref 292), (1, .int x0)]) (st1 := [.int x0, .ref 292]) 2 rfl rfl rfl ?_
  refine zCs (mj := 108) rfl rfl rfl rfl rfl rfl rfl rfl ?_
  refine d_108 (fun h1 => ?_) (fun h1 => ?_)
  · replace k := ite_t h1 k
    have h2 := isN_lt h1
    refine kI ?_
    refine zPs (pc1 := 13) (l1 := [(0, .ref 292), (1, .int x0)]) (st1 := [.ref 292, .ref 292]) 2 rfl rfl rfl ?_
    refine zGetI (F := 292) (I := 19) (v := i32 n) rfl rfl icNum hCI.1 ?_
    refine zPs (pc1 := 18) (l1 := [(0, .ref 292), (1, .int x0)]) (st1 := [.int (60 : Int32), .int (i32 n), .ref 292]) 1 rfl rfl rfl ?_
    refine nCn (a := n) (b := 60) (by omega) (by omega) rfl (fun h3 => ?_) (fun h3 => ?_)
    · replace k := ite_t h3 k
      refine zPs (pc1 := 26) (l1 := [(0, .ref 292), (1, .int x0)]) (st1 := [.int (0 : Int32), .ref 292]) 1 rfl rfl rfl ?_
      refine zPutI (F := 292) (I := 41) rfl rfl icThr rfl ?_
      refine zPs (pc1 := 30) (l1 := [(0, .ref 292), (1, .int x0)]) (st1 := [.ref 292]) 1 rfl rfl rfl ?_
      refine zGetI (F := 292) (I := 41) (v := (0 : Int32)) rfl rfl icThr (by simp [up2]) ?_
      refine zPs (pc1 := 39) (l1 := [(0, .ref 292), (1, .int x0)]) (st1 := [.ref 292]) 2 rfl rfl rfl ?_
      refine zGetI (F := 292) (I := 19) (v := i32 n) rfl rfl icNum (CZ_thr hCI).1 ?_
      refine zPs (pc1 := 45) (l1 := [(2, .int (i32 n)), (0, .ref 292), (1, .int x0)]) (st1 := [.ref 292, .ref 292]) 3 rfl rfl rfl ?_
      refine zGetI (F := 292) (I := 19) (v := i32 n) rfl rfl icNum (CZ_thr hCI).1 ?_
      refine zPs (pc1 := 50) (l1 := [(2, .int (i32 n)), (0, .ref 292), (1, .int x0)]) (st1 := [.int (i32 n + (1 : Int32)), .ref 292]) 2 rfl rfl rfl ?_
      refine zTo (ml' := [(2, .int (i32 n)), (0, .ref 292), (1, .int x0)]) (st' := [.int (i32 (n + 1)), .ref 292]) rfl (by rw [show (i32 n + (1 : Int32)) = i32 (n + 1) from i32_add n 1]) ?_
      refine zPutI (F := 292) (I := 19) rfl rfl icNum rfl ?_
      refine zPs (pc1 := 54) (l1 := [(2, .int (i32 n)), (0, .ref 292), (1, .int x0)]) (st1 := [.ref 292]) 1 rfl rfl rfl ?_
      refine zGetR (r := 320) rfl rfl ⟨by decide, rfl, by decide, rfl⟩ ?_
      refine zPs (pc1 := 59) (l1 := [(2, .int (i32 n)), (0, .ref 292), (1, .int x0)]) (st1 := [.int (-1 : Int32), .int (i32 n), .ref 320]) 2 rfl rfl rfl ?_
      refine zIas (n := n) (F := 320) (I := n) rfl (icM (k := 320) (L := 60) rfl (by omega)) ?_
      refine zPs (pc1 := 61) (l1 := [(2, .int (i32 n)), (0, .ref 292), (1, .int x0)]) (st1 := [.ref 292]) 1 rfl rfl rfl ?_
      refine zGetR (r := 310) rfl rfl ⟨by decide, rfl, by decide, rfl⟩ ?_
      refine zPs (pc1 := 66) (l1 := [(2, .int (i32 n)), (0, .ref 292), (1, .int x0)]) (st1 := [.int x0, .ref 310, .int x0, .ref 310]) 2 rfl rfl rfl ?_
      refine zIalE (n := x0.toNatClampNeg) (v := l 310 x0.toNatClampNeg) h2.2 rfl (icM (k := 310) (L := 30) rfl h2.1) rfl ?_
      refine zPs (pc1 := 69) (l1 := [(2, .int (i32 n)), (0, .ref 292), (1, .int x0)]) (st1 := [.int (l 310 x0.toNatClampNeg + (1 : Int32)), .int x0, .ref 310]) 2 rfl rfl rfl ?_
      refine zIasE (n := x0.toNatClampNeg) (F := 310) (I := x0.toNatClampNeg) h2.2 rfl (icM (k := 310) (L := 30) rfl h2.1) ?_
      refine zPs (pc1 := 74) (l1 := [(2, .int (i32 n)), (0, .ref 292), (1, .int x0)]) (st1 := [.int x0, .int (-1 : Int32), .int (i32 n), .ref 292]) 4 rfl rfl rfl ?_
      refine zCv (mj := 137) (k := 292) (n := 3) rfl rfl rfl rfl (by decide) rfl rfl rfl rfl rfl rfl ?_
      refine c_137 (by omega) htl (by omega) none (CZ_up (CZ_up (CZ_cnt (CZ_thr hCI)) rfl rfl) rfl rfl).2.2 (CZ_up (CZ_up (CZ_cnt (CZ_thr hCI)) rfl rfl) rfl rfl).1 (CZ_up (CZ_up (CZ_cnt (CZ_thr hCI)) rfl rfl) rfl rfl).2.1 rfl (fun b q => by cases q) (fun q => absurd q (isN_m1 h1)) h1.2 ?_
      refine kV ?_
      have hCI4 : CZ (sGoes (up2 (up2 (up2 (up2 l 292 41 (0 : Int32)) 292 19 (i32 (n + 1))) 320 n (-1 : Int32)) 310 x0.toNatClampNeg (l 310 x0.toNatClampNeg + (1 : Int32))) (n + 1) t n none x0) (n + 1) t := CZ_goes (by omega) h1.2 (CZ_up (CZ_up (CZ_cnt (CZ_thr hCI)) rfl rfl) rfl rfl)
      replace k := bnd_i k
      generalize sGoes (up2 (up2 (up2 (up2 l 292 41 (0 : Int32)) 292 19 (i32 (n + 1))) 320 n (-1 : Int32)) 310 x0.toNatClampNeg (l 310 x0.toNatClampNeg + (1 : Int32))) (n + 1) t n none x0 = l4 at k hCI4 ⊢
      refine zPs (pc1 := 78) (l1 := [(2, .int (i32 n)), (0, .ref 292), (1, .int x0)]) (st1 := [.ref 292]) 1 rfl rfl rfl ?_
      refine zCv (mj := 149) (k := 292) (n := 0) rfl rfl rfl rfl (by decide) rfl rfl rfl rfl rfl rfl ?_
      refine c_149 (by omega) hCI4.1 ?_
      refine kV ?_
      have hCI5 : CZ (sTakes l4 (n + 1)) (n + 1) t := CZ_takes hCI4
      replace k := bnd_i k
      generalize sTakes l4 (n + 1) = l5 at k hCI5 ⊢
      refine zPs (pc1 := 82) (l1 := [(2, .int (i32 n)), (0, .ref 292), (1, .int x0)]) (st1 := [.int (i32 n)]) 1 rfl rfl rfl ?_
      refine zRi rfl rfl ?_
      exact k
    · replace k := ite_f (not_not_intro h3) k
      refine zPs (pc1 := 26) (l1 := [(0, .ref 292), (1, .int x0)]) (st1 := [.int (2 : Int32), .ref 292]) 2 rfl rfl rfl ?_
      refine zPutI (F := 292) (I := 41) rfl rfl icThr rfl ?_
      refine zPs (pc1 := 30) (l1 := [(0, .ref 292), (1, .int x0)]) (st1 := [.ref 292]) 1 rfl rfl rfl ?_
      refine zGetI (F := 292) (I := 41) (v := (2 : Int32)) rfl rfl icThr (by simp [up2]) ?_
      refine zPs (pc1 := 37) (l1 := [(0, .ref 292), (1, .int x0)]) (st1 := [.int (0 : Int32)]) 2 rfl rfl rfl ?_
      refine zRi rfl rfl ?_
      exact k
  · replace k := ite_f h1 k
    refine kI ?_
    refine zPs (pc1 := 26) (l1 := [(0, .ref 292), (1, .int x0)]) (st1 := [.int (1 : Int32), .ref 292]) 3 rfl rfl rfl ?_
    refine zPutI (F := 292) (I := 41) rfl rfl icThr rfl ?_
    refine zPs (pc1 := 30) (l1 := [(0, .ref 292), (1, .int x0)]) (st1 := [.ref 292]) 1 rfl rfl rfl ?_
    refine zGetI (F := 292) (I := 41) (v := (1 : Int32)) rfl rfl icThr (by simp [up2]) ?_
    refine zPs (pc1 := 37) (l1 := [(0, .ref 292), (1, .int x0)]) (st1 := [.int (0 : Int32)]) 2 rfl rfl rfl ?_
    refine zRi rfl rfl ?_
    exact k
noncomputable def f_154 (n : Nat) (t : Nat) (x0 : Int32) (l : Sg) : Int32 × Sg := (if isC n x0 then (if ¬ l 311 x0.toNatClampNeg = (5 : Int32) then (if ¬ l 311 x0.toNatClampNeg = (2 : Int32) then (if ¬ l 311 x0.toNatClampNeg = (4 : Int32) then (bnd (sTakes (up2 (up2 (up2 (up2 (up2 (up2 l 292 41 (0 : Int32)) 292 41 (0 : Int32)) 311 x0.toNatClampNeg (5 : Int32)) 312 x0.toNatClampNeg (1 : Int32)) 313 x0.toNatClampNeg (-1 : Int32)) 320 x0.toNatClampNeg (-1 : Int32)) n) fun l6 => (l 311 x0.toNatClampNeg, l6)) else (bnd (sReady (up2 (up2 (up2 (up2 (up2 (up2 l 292 41 (0 : Int32)) 292 41 (0 : Int32)) 311 x0.toNatClampNeg (5 : Int32)) 312 x0.toNatClampNeg (1 : Int32)) 313 x0.toNatClampNeg (-1 : Int32)) 320 x0.toNatClampNeg (-1 : Int32)) ((l 325 x0.toNatClampNeg).toNatClampNeg)) fun l8 => (bnd (sTakes l8 n) fun l9 => (l 311 x0.toNatClampNeg, l9)))) else (bnd (sWraps (up2 (up2 (up2 (up2 (up2 (up2 l 292 41 (0 : Int32)) 292 41 (0 : Int32)) 311 x0.toNatClampNeg (5 : Int32)) 312 x0.toNatClampNeg (1 : Int32)) 313 x0.toNatClampNeg (-1 : Int32)) 320 x0.toNatClampNeg (-1 : Int32)) ((l 325 x0.toNatClampNeg).toNatClampNeg)) fun l11 => (bnd (sTakes l11 n) fun l12 => (l 311 x0.toNatClampNeg, l12)))) else ((0 : Int32), (up2 (up2 l 292 41 (0 : Int32)) 292 41 (2 : Int32)))) else ((0 : Int32), (up2 l 292 41 (1 : Int32))))
theorem e_154 {l : Sg} {P : MO → Sg → Prop} {n : Nat} {x0 : Int32} {t : Nat} (hl : n ≤ 60) (htl : t ≤ 20000) (hCI : CZ l n t)  (hw : ∀ c, c < n → (l 311 c = 2 ∨ l 311 c = 4) → (l 325 c).toNatClampNeg < 6 ∧ i32 (l 325 c).toNatClampNeg = l 325 c) (k : Rk (Qb P) (f_154 n t x0 l)) : Es true 154 [.ref 292, .int x0] l P := by
  unfold f_154 at k
  refine Es.of ?_
  refine zPs (pc1 := 2) (l1 := [(0, .ref 292), (1, .int x0)]) (st1 := [.int x0, .ref 292]) 2 rfl rfl rfl ?_
  refine zCv (mj := 151) (k := 292) (n := 1) rfl rfl rfl rfl (by decide) rfl rfl rfl rfl rfl rfl ?_
  refine d_151 hl hCI.1 (fun h1 => ?_) (fun h1 => ?_)
  · replace k := ite_t h1 k
    have h2 := rng_i32 (b := n) (by omega) h1.1 h1.2
    refine kI ?_
    refine zZ (z' := (up2 l 292 41 (0 : Int32))) rfl ?_
    refine zPs (pc1 := 12) (l1 := [(0, .ref 292), (1, .int x0)]) (st1 := [.ref 292, .ref 292]) 3 rfl rfl rfl ?_
    refine zGetR (r := 311) rfl rfl ⟨by decide, rfl, by decide, rfl⟩ ?_
    refine zPs (pc1 := 16) (l1 := [(0, .ref 292), (1, .int x0)]) (st1 := [.int x0, .ref 311, .ref 292]) 1 rfl rfl rfl ?_
    refine zIalE (n := x0.toNatClampNeg) (v := l 311 x0.toNatClampNeg) h2.2 rfl (icM (k := 311) (L := 60) rfl (Nat.lt_of_lt_of_le h2.1 hl)) rfl ?_
    refine zPs (pc1 := 18) (l1 := [(0, .ref 292), (1, .int x0)]) (st1 := [.int (5 : Int32), .int (l 311 x0.toNatClampNeg), .ref 292]) 1 rfl rfl rfl ?_
    refine zCn rfl (fun h3 => ?_) (fun h3 => ?_)
    · replace k := ite_t h3 k
      refine zPs (pc1 := 26) (l1 := [(0, .ref 292), (1, .int x0)]) (st1 := [.int (0 : Int32), .ref 292]) 1 rfl rfl rfl ?_
      refine zPutI (F := 292) (I := 41) rfl rfl icThr rfl ?_
      refine zPs (pc1 := 30) (l1 := [(0, .ref 292), (1, .int x0)]) (st1 := [.ref 292]) 1 rfl rfl rfl ?_
      refine zGetI (F := 292) (I := 41) (v := (0 : Int32)) rfl rfl icThr (by simp [up2]) ?_
      refine zPs (pc1 := 39) (l1 := [(0, .ref 292), (1, .int x0)]) (st1 := [.ref 292]) 2 rfl rfl rfl ?_
      refine zGetR (r := 311) rfl rfl ⟨by decide, rfl, by decide, rfl⟩ ?_
      refine zPs (pc1 := 43) (l1 := [(0, .ref 292), (1, .int x0)]) (st1 := [.int x0, .ref 311]) 1 rfl rfl rfl ?_
      refine zIalE (n := x0.toNatClampNeg) (v := l 311 x0.toNatClampNeg) h2.2 rfl (icM (k := 311) (L := 60) rfl (Nat.lt_of_lt_of_le h2.1 hl)) rfl ?_
      refine zPs (pc1 := 48) (l1 := [(2, .int (l 311 x0.toNatClampNeg)), (0, .ref 292), (1, .int x0)]) (st1 := [.int (1 : Int32), .int x0, .ref 292]) 4 rfl rfl rfl ?_
      refine zTo (ml' := [(2, .int (l 311 x0.toNatClampNeg)), (0, .ref 292), (1, .int x0)]) (st' := [.int (1 : Int32), .int (i32 x0.toNatClampNeg), .ref 292]) rfl (by rw [h2.2]) ?_
      refine zCv (mj := 132) (k := 292) (n := 2) rfl rfl rfl rfl (by decide) rfl rfl rfl rfl rfl rfl ?_
      refine c_132 (Nat.lt_of_lt_of_le h2.1 hl) ?_
      refine kV ?_
      refine zZ (z' := (up2 (up2 (up2 (up2 (up2 (up2 l 292 41 (0 : Int32)) 292 41 (0 : Int32)) 311 x0.toNatClampNeg (5 : Int32)) 312 x0.toNatClampNeg (1 : Int32)) 313 x0.toNatClampNeg (-1 : Int32)) 320 x0.toNatClampNeg (-1 : Int32))) rfl ?_
      refine zPs (pc1 := 53) (l1 := [(2, .int (l 311 x0.toNatClampNeg)), (0, .ref 292), (1, .int x0)]) (st1 := [.int (2 : Int32), .int (l 311 x0.toNatClampNeg)]) 2 rfl rfl rfl ?_
      refine zCn rfl (fun h4 => ?_) (fun h4 => ?_)
      · replace k := ite_t h4 k
        refine zPs (pc1 := 71) (l1 := [(2, .int (l 311 x0.toNatClampNeg)), (0, .ref 292), (1, .int x0)]) (st1 := [.int (4 : Int32), .int (l 311 x0.toNatClampNeg)]) 2 rfl rfl rfl ?_
        refine zCn rfl (fun h5 => ?_) (fun h5 => ?_)
        · replace k := ite_t h5 k
          refine zPs (pc1 := 85) (l1 := [(2, .int (l 311 x0.toNatClampNeg)), (0, .ref 292), (1, .int x0)]) (st1 := [.ref 292]) 1 rfl rfl rfl ?_
          refine zCv (mj := 149) (k := 292) (n := 0) rfl rfl rfl rfl (by decide) rfl rfl rfl rfl rfl rfl ?_
          refine c_149 hl (CZ_up (CZ_up (CZ_up (CZ_up (CZ_thr (CZ_thr hCI)) rfl rfl) rfl rfl) rfl rfl) rfl rfl).1 ?_
          refine kV ?_
          have hCI6 : CZ (sTakes (up2 (up2 (up2 (up2 (up2 (up2 l 292 41 (0 : Int32)) 292 41 (0 : Int32)) 311 x0.toNatClampNeg (5 : Int32)) 312 x0.toNatClampNeg (1 : Int32)) 313 x0.toNatClampNeg (-1 : Int32)) 320 x0.toNatClampNeg (-1 : Int32)) n) n t := CZ_takes (CZ_up (CZ_up (CZ_up (CZ_up (CZ_thr (CZ_thr hCI)) rfl rfl) rfl rfl) rfl rfl) rfl rfl)
          replace k := bnd_i k
          generalize sTakes (up2 (up2 (up2 (up2 (up2 (up2 l 292 41 (0 : Int32)) 292 41 (0 : Int32)) 311 x0.toNatClampNeg (5 : Int32)) 312 x0.toNatClampNeg (1 : Int32)) 313 x0.toNatClampNeg (-1 : Int32)) 320 x0.toNatClampNeg (-1 : Int32)) n = l6 at k hCI6 ⊢
          refine zPs (pc1 := 89) (l1 := [(2, .int (l 311 x0.toNatClampNeg)), (0, .ref 292), (1, .int x0)]) (st1 := [.int (l 311 x0.toNatClampNeg)]) 1 rfl rfl rfl ?_
          refine zRi rfl rfl ?_
          exact k
        · replace k := ite_f (not_not_intro h5) k
          have h7 := hw x0.toNatClampNeg (by have := (Nat.lt_of_lt_of_le h2.1 hl); omega) (Or.inr h5)
          refine zPs (pc1 := 76) (l1 := [(2, .int (l 311 x0.toNatClampNeg)), (0, .ref 292), (1, .int x0)]) (st1 := [.ref 292, .ref 292]) 2 rfl rfl rfl ?_
          refine zGetR (r := 325) rfl rfl ⟨by decide, rfl, by decide, rfl⟩ ?_
          refine zPs (pc1 := 80) (l1 := [(2, .int (l 311 x0.toNatClampNeg)), (0, .ref 292), (1, .int x0)]) (st1 := [.int x0, .ref 325, .ref 292]) 1 rfl rfl rfl ?_
          refine zIalE (n := x0.toNatClampNeg) (v := l 325 x0.toNatClampNeg) h2.2 rfl (icM (k := 325) (L := 60) rfl (Nat.lt_of_lt_of_le h2.1 hl)) rfl ?_
          refine zTo (ml' := [(2, .int (l 311 x0.toNatClampNeg)), (0, .ref 292), (1, .int x0)]) (st' := [.int (i32 ((l 325 x0.toNatClampNeg).toNatClampNeg)), .ref 292]) rfl (by rw [h7.2]) ?_
          refine zCv (mj := 145) (k := 292) (n := 1) rfl rfl rfl rfl (by decide) rfl rfl rfl rfl rfl rfl ?_
          refine c_145 h7.1 ?_
          refine kV ?_
          have hCI8 : CZ (sReady (up2 (up2 (up2 (up2 (up2 (up2 l 292 41 (0 : Int32)) 292 41 (0 : Int32)) 311 x0.toNatClampNeg (5 : Int32)) 312 x0.toNatClampNeg (1 : Int32)) 313 x0.toNatClampNeg (-1 : Int32)) 320 x0.toNatClampNeg (-1 : Int32)) ((l 325 x0.toNatClampNeg).toNatClampNeg)) n t := CZ_ready (CZ_up (CZ_up (CZ_up (CZ_up (CZ_thr (CZ_thr hCI)) rfl rfl) rfl rfl) rfl rfl) rfl rfl)
          replace k := bnd_i k
          generalize sReady (up2 (up2 (up2 (up2 (up2 (up2 l 292 41 (0 : Int32)) 292 41 (0 : Int32)) 311 x0.toNatClampNeg (5 : Int32)) 312 x0.toNatClampNeg (1 : Int32)) 313 x0.toNatClampNeg (-1 : Int32)) 320 x0.toNatClampNeg (-1 : Int32)) ((l 325 x0.toNatClampNeg).toNatClampNeg) = l8 at k hCI8 ⊢
          refine zPs (pc1 := 85) (l1 := [(2, .int (l 311 x0.toNatClampNeg)), (0, .ref 292), (1, .int x0)]) (st1 := [.ref 292]) 1 rfl rfl rfl ?_
          refine zCv (mj := 149) (k := 292) (n := 0) rfl rfl rfl rfl (by decide) rfl rfl rfl rfl rfl rfl ?_
          refine c_149 hl hCI8.1 ?_
          refine kV ?_
          have hCI9 : CZ (sTakes l8 n) n t := CZ_takes hCI8
          replace k := bnd_i k
          generalize sTakes l8 n = l9 at k hCI9 ⊢
          refine zPs (pc1 := 89) (l1 := [(2, .int (l 311 x0.toNatClampNeg)), (0, .ref 292), (1, .int x0)]) (st1 := [.int (l 311 x0.toNatClampNeg)]) 1 rfl rfl rfl ?_
          refine zRi rfl rfl ?_
          exact k
      · replace k := ite_f (not_not_intro h4) k
        have h10 := hw x0.toNatClampNeg (by have := (Nat.lt_of_lt_of_le h2.1 hl); omega) (Or.inl h4)
        refine zPs (pc1 := 58) (l1 := [(2, .int (l 311 x0.toNatClampNeg)), (0, .ref 292), (1, .int x0)]) (st1 := [.ref 292, .ref 292]) 2 rfl rfl rfl ?_
        refine zGetR (r := 325) rfl rfl ⟨by decide, rfl, by decide, rfl⟩ ?_
        refine zPs (pc1 := 62) (l1 := [(2, .int (l 311 x0.toNatClampNeg)), (0, .ref 292), (1, .int x0)]) (st1 := [.int x0, .ref 325, .ref 292]) 1 rfl rfl rfl ?_
        refine zIalE (n := x0.toNatClampNeg) (v := l 325 x0.toNatClampNeg) h2.2 rfl (icM (k := 325) (L := 60) rfl (Nat.lt_of_lt_of_le h2.1 hl)) rfl ?_
        refine zTo (ml' := [(2, .int (l 311 x0.toNatClampNeg)), (0, .ref 292), (1, .int x0)]) (st' := [.int (i32 ((l 325 x0.toNatClampNeg).toNatClampNeg)), .ref 292]) rfl (by rw [h10.2]) ?_
        refine zCv (mj := 146) (k := 292) (n := 1) rfl rfl rfl rfl (by decide) rfl rfl rfl rfl rfl rfl ?_
        refine c_146 h10.1 ?_
        refine kV ?_
        have hCI11 : CZ (sWraps (up2 (up2 (up2 (up2 (up2 (up2 l 292 41 (0 : Int32)) 292 41 (0 : Int32)) 311 x0.toNatClampNeg (5 : Int32)) 312 x0.toNatClampNeg (1 : Int32)) 313 x0.toNatClampNeg (-1 : Int32)) 320 x0.toNatClampNeg (-1 : Int32)) ((l 325 x0.toNatClampNeg).toNatClampNeg)) n t := CZ_wraps (CZ_up (CZ_up (CZ_up (CZ_up (CZ_thr (CZ_thr hCI)) rfl rfl) rfl rfl) rfl rfl) rfl rfl)
        replace k := bnd_i k
        generalize sWraps (up2 (up2 (up2 (up2 (up2 (up2 l 292 41 (0 : Int32)) 292 41 (0 : Int32)) 311 x0.toNatClampNeg (5 : Int32)) 312 x0.toNatClampNeg (1 : Int32)) 313 x0.toNatClampNeg (-1 : Int32)) 320 x0.toNatClampNeg (-1 : Int32)) ((l 325 x0.toNatClampNeg).toNatClampNeg) = l11 at k hCI11 ⊢
        refine zPs (pc1 := 85) (l1 := [(2, .int (l 311 x0.toNatClampNeg)), (0, .ref 292), (1, .int x0)]) (st1 := [.ref 292]) 2 rfl rfl rfl ?_
        refine zCv (mj := 149) (k := 292) (n := 0) rfl rfl rfl rfl (by decide) rfl rfl rfl rfl rfl rfl ?_
        refine c_149 hl hCI11.1 ?_
        refine kV ?_
        have hCI12 : CZ (sTakes l11 n) n t := CZ_takes hCI11
        replace k := bnd_i k
        generalize sTakes l11 n = l12 at k hCI12 ⊢
        refine zPs (pc1 := 89) (l1 := [(2, .int (l 311 x0.toNatClampNeg)), (0, .ref 292), (1, .int x0)]) (st1 := [.int (l 311 x0.toNatClampNeg)]) 1 rfl rfl rfl ?_
        refine zRi rfl rfl ?_
        exact k
    · replace k := ite_f (not_not_intro h3) k
      refine zPs (pc1 := 26) (l1 := [(0, .ref 292), (1, .int x0)]) (st1 := [.int (2 : Int32), .ref 292]) 2 rfl rfl rfl ?_
      refine zPutI (F := 292) (I := 41) rfl rfl icThr rfl ?_
      refine zPs (pc1 := 30) (l1 := [(0, .ref 292), (1, .int x0)]) (st1 := [.ref 292]) 1 rfl rfl rfl ?_
      refine zGetI (F := 292) (I := 41) (v := (2 : Int32)) rfl rfl icThr (by simp [up2]) ?_
      refine zPs (pc1 := 37) (l1 := [(0, .ref 292), (1, .int x0)]) (st1 := [.int (0 : Int32)]) 2 rfl rfl rfl ?_
      refine zRi rfl rfl ?_
      exact k
  · replace k := ite_f h1 k
    refine kI ?_
    refine zZ (z' := (up2 l 292 41 (1 : Int32))) rfl ?_
    refine zPs (pc1 := 9) (l1 := [(0, .ref 292), (1, .int x0)]) (st1 := [.int (0 : Int32)]) 2 rfl rfl rfl ?_
    refine zRi rfl rfl ?_
    exact k
noncomputable def f_155 (n : Nat) (t : Nat) (x0 : Int32) (l : Sg) : Int32 × Sg := (if isC n x0 then (if ¬ l 311 x0.toNatClampNeg = (4 : Int32) then ((0 : Int32), (up2 (up2 l 292 41 (0 : Int32)) 292 41 (2 : Int32))) else (bnd (sTakes (up2 (up2 (up2 (up2 (up2 l 292 41 (0 : Int32)) 292 41 (0 : Int32)) 311 x0.toNatClampNeg (2 : Int32)) 320 x0.toNatClampNeg (-1 : Int32)) 326 ((l 325 x0.toNatClampNeg).toNatClampNeg) (2 : Int32)) n) fun l5 => (l5 325 x0.toNatClampNeg, l5))) else ((0 : Int32), (up2 l 292 41 (1 : Int32))))
theorem e_155 {l : Sg} {P : MO → Sg → Prop} {n : Nat} {x0 : Int32} {t : Nat} (hl : n ≤ 60) (htl : t ≤ 20000) (hCI : CZ l n t)  (hw : ∀ c, c < n → (l 311 c = 2 ∨ l 311 c = 4) → (l 325 c).toNatClampNeg < 6 ∧ i32 (l 325 c).toNatClampNeg = l 325 c) (k : Rk (Qb P) (f_155 n t x0 l)) : Es true 155 [.ref 292, .int x0] l P := by
  unfold f_155 at k
  refine Es.of ?_
  refine zPs (pc1 := 2) (l1 := [(0, .ref 292), (1, .int x0)]) (st1 := [.int x0, .ref 292]) 2 rfl rfl rfl ?_
  refine zCv (mj := 151) (k := 292) (n := 1) rfl rfl rfl rfl (by decide) rfl rfl rfl rfl rfl rfl ?_
  refine d_151 hl hCI.1 (fun h1 => ?_) (fun h1 => ?_)
  · replace k := ite_t h1 k
    have h2 := rng_i32 (b := n) (by omega) h1.1 h1.2
    refine kI ?_
    refine zZ (z' := (up2 l 292 41 (0 : Int32))) rfl ?_
    refine zPs (pc1 := 12) (l1 := [(0, .ref 292), (1, .int x0)]) (st1 := [.ref 292, .ref 292]) 3 rfl rfl rfl ?_
    refine zGetR (r := 311) rfl rfl ⟨by decide, rfl, by decide, rfl⟩ ?_
    refine zPs (pc1 := 16) (l1 := [(0, .ref 292), (1, .int x0)]) (st1 := [.int x0, .ref 311, .ref 292]) 1 rfl rfl rfl ?_
    refine zIalE (n := x0.toNatClampNeg) (v := l 311 x0.toNatClampNeg) h2.2 rfl (icM (k := 311) (L := 60) rfl (Nat.lt_of_lt_of_le h2.1 hl)) rfl ?_
    refine zPs (pc1 := 18) (l1 := [(0, .ref 292), (1, .int x0)]) (st1 := [.int (4 : Int32), .int (l 311 x0.toNatClampNeg), .ref 292]) 1 rfl rfl rfl ?_
    refine zCn rfl (fun h3 => ?_) (fun h3 => ?_)
    · replace k := ite_t h3 k
      refine zPs (pc1 := 26) (l1 := [(0, .ref 292), (1, .int x0)]) (st1 := [.int (2 : Int32), .ref 292]) 1 rfl rfl rfl ?_
      refine zPutI (F := 292) (I := 41) rfl rfl icThr rfl ?_
      refine zPs (pc1 := 30) (l1 := [(0, .ref 292), (1, .int x0)]) (st1 := [.ref 292]) 1 rfl rfl rfl ?_
      refine zGetI (F := 292) (I := 41) (v := (2 : Int32)) rfl rfl icThr (by simp [up2]) ?_
      refine zPs (pc1 := 37) (l1 := [(0, .ref 292), (1, .int x0)]) (st1 := [.int (0 : Int32)]) 2 rfl rfl rfl ?_
      refine zRi rfl rfl ?_
      exact k
    · replace k := ite_f (not_not_intro h3) k
      have h4 := hw x0.toNatClampNeg (by have := (Nat.lt_of_lt_of_le h2.1 hl); omega) (Or.inr h3)
      refine zPs (pc1 := 26) (l1 := [(0, .ref 292), (1, .int x0)]) (st1 := [.int (0 : Int32), .ref 292]) 2 rfl rfl rfl ?_
      refine zPutI (F := 292) (I := 41) rfl rfl icThr rfl ?_
      refine zPs (pc1 := 30) (l1 := [(0, .ref 292), (1, .int x0)]) (st1 := [.ref 292]) 1 rfl rfl rfl ?_
      refine zGetI (F := 292) (I := 41) (v := (0 : Int32)) rfl rfl icThr (by simp [up2]) ?_
      refine zPs (pc1 := 39) (l1 := [(0, .ref 292), (1, .int x0)]) (st1 := [.ref 292]) 2 rfl rfl rfl ?_
      refine zGetR (r := 311) rfl rfl ⟨by decide, rfl, by decide, rfl⟩ ?_
      refine zPs (pc1 := 44) (l1 := [(0, .ref 292), (1, .int x0)]) (st1 := [.int (2 : Int32), .int x0, .ref 311]) 2 rfl rfl rfl ?_
      refine zIasE (n := x0.toNatClampNeg) (F := 311) (I := x0.toNatClampNeg) h2.2 rfl (icM (k := 311) (L := 60) rfl (Nat.lt_of_lt_of_le h2.1 hl)) ?_
      refine zPs (pc1 := 46) (l1 := [(0, .ref 292), (1, .int x0)]) (st1 := [.ref 292]) 1 rfl rfl rfl ?_
      refine zGetR (r := 320) rfl rfl ⟨by decide, rfl, by decide, rfl⟩ ?_
      refine zPs (pc1 := 51) (l1 := [(0, .ref 292), (1, .int x0)]) (st1 := [.int (-1 : Int32), .int x0, .ref 320]) 2 rfl rfl rfl ?_
      refine zIasE (n := x0.toNatClampNeg) (F := 320) (I := x0.toNatClampNeg) h2.2 rfl (icM (k := 320) (L := 60) rfl (Nat.lt_of_lt_of_le h2.1 hl)) ?_
      refine zPs (pc1 := 53) (l1 := [(0, .ref 292), (1, .int x0)]) (st1 := [.ref 292]) 1 rfl rfl rfl ?_
      refine zGetR (r := 326) rfl rfl ⟨by decide, rfl, by decide, rfl⟩ ?_
      refine zPs (pc1 := 57) (l1 := [(0, .ref 292), (1, .int x0)]) (st1 := [.ref 292, .ref 326]) 1 rfl rfl rfl ?_
      refine zGetR (r := 325) rfl rfl ⟨by decide, rfl, by decide, rfl⟩ ?_
      refine zPs (pc1 := 61) (l1 := [(0, .ref 292), (1, .int x0)]) (st1 := [.int x0, .ref 325, .ref 326]) 1 rfl rfl rfl ?_
      refine zIalE (n := x0.toNatClampNeg) (v := l 325 x0.toNatClampNeg) h2.2 rfl (icM (k := 325) (L := 60) rfl (Nat.lt_of_lt_of_le h2.1 hl)) rfl ?_
      refine zPs (pc1 := 63) (l1 := [(0, .ref 292), (1, .int x0)]) (st1 := [.int (2 : Int32), .int (l 325 x0.toNatClampNeg), .ref 326]) 1 rfl rfl rfl ?_
      refine zIasE (n := (l 325 x0.toNatClampNeg).toNatClampNeg) (F := 326) (I := (l 325 x0.toNatClampNeg).toNatClampNeg) h4.2 rfl (icM (k := 326) (L := 6) rfl h4.1) ?_
      refine zPs (pc1 := 65) (l1 := [(0, .ref 292), (1, .int x0)]) (st1 := [.ref 292]) 1 rfl rfl rfl ?_
      refine zCv (mj := 149) (k := 292) (n := 0) rfl rfl rfl rfl (by decide) rfl rfl rfl rfl rfl rfl ?_
      refine c_149 hl (CZ_up (CZ_up (CZ_up (CZ_thr (CZ_thr hCI)) rfl rfl) rfl rfl) rfl rfl).1 ?_
      refine kV ?_
      have hCI5 : CZ (sTakes (up2 (up2 (up2 (up2 (up2 l 292 41 (0 : Int32)) 292 41 (0 : Int32)) 311 x0.toNatClampNeg (2 : Int32)) 320 x0.toNatClampNeg (-1 : Int32)) 326 ((l 325 x0.toNatClampNeg).toNatClampNeg) (2 : Int32)) n) n t := CZ_takes (CZ_up (CZ_up (CZ_up (CZ_thr (CZ_thr hCI)) rfl rfl) rfl rfl) rfl rfl)
      replace k := bnd_i k
      generalize sTakes (up2 (up2 (up2 (up2 (up2 l 292 41 (0 : Int32)) 292 41 (0 : Int32)) 311 x0.toNatClampNeg (2 : Int32)) 320 x0.toNatClampNeg (-1 : Int32)) 326 ((l 325 x0.toNatClampNeg).toNatClampNeg) (2 : Int32)) n = l5 at k hCI5 ⊢
      refine zPs (pc1 := 69) (l1 := [(0, .ref 292), (1, .int x0)]) (st1 := [.ref 292]) 1 rfl rfl rfl ?_
      refine zGetR (r := 325) rfl rfl ⟨by decide, rfl, by decide, rfl⟩ ?_
      refine zPs (pc1 := 73) (l1 := [(0, .ref 292), (1, .int x0)]) (st1 := [.int x0, .ref 325]) 1 rfl rfl rfl ?_
      refine zIalE (n := x0.toNatClampNeg) (v := l5 325 x0.toNatClampNeg) h2.2 rfl (icM (k := 325) (L := 60) rfl (Nat.lt_of_lt_of_le h2.1 hl)) rfl ?_
      refine zRi rfl rfl ?_
      exact k
  · replace k := ite_f h1 k
    refine kI ?_
    refine zZ (z' := (up2 l 292 41 (1 : Int32))) rfl ?_
    refine zPs (pc1 := 9) (l1 := [(0, .ref 292), (1, .int x0)]) (st1 := [.int (0 : Int32)]) 2 rfl rfl rfl ?_
    refine zRi rfl rfl ?_
    exact k
noncomputable def f_158 (n : Nat) (t : Nat) (x0 : Int32) (x1 : Int32) (l : Sg) : Int32 × Sg := (if isA x0 then (if (1 : Int32) ≤ x1 ∧ x1 ≤ (63 : Int32) then (if (f_157 x0.toNatClampNeg (up2 l 292 41 (0 : Int32))) = 0 then (if ¬ l 326 x0.toNatClampNeg = 0 then (bnd (sTakes (up2 (up2 (up2 l 292 41 (0 : Int32)) 292 41 (0 : Int32)) 327 x0.toNatClampNeg x1) n) fun l7 => (l7 331 x0.toNatClampNeg, l7)) else (bnd (sReady (up2 (up2 (up2 l 292 41 (0 : Int32)) 292 41 (0 : Int32)) 327 x0.toNatClampNeg x1) x0.toNatClampNeg) fun l8 => (bnd (sTakes l8 n) fun l9 => (l9 331 x0.toNatClampNeg, l9)))) else ((0 : Int32), (up2 (up2 l 292 41 (0 : Int32)) 292 41 (3 : Int32)))) else ((0 : Int32), (up2 (up2 l 292 41 (0 : Int32)) 292 41 (2 : Int32)))) else ((0 : Int32), (up2 l 292 41 (1 : Int32))))
theorem e_158 {l : Sg} {P : MO → Sg → Prop} {n : Nat} {x0 : Int32} {x1 : Int32} {t : Nat} (hl : n ≤ 60) (htl : t ≤ 20000) (hCI : CZ l n t)  (k : Rk (Qb P) (f_158 n t x0 x1 l)) : Es true 158 [.ref 292, .int x0, .int x1] l P := by
  unfold f_158 at k
  refine Es.of ?_
  refine zPs (pc1 := 2) (l1 := [(0, .ref 292), (1, .int x0), (2, .int x1)]) (st1 := [.int x0, .ref 292]) 2 rfl rfl rfl ?_
  refine zCv (mj := 156) (k := 292) (n := 1) rfl rfl rfl rfl (by decide) rfl rfl rfl rfl rfl rfl ?_
  refine d_156 (fun h1 => ?_) (fun h1 => ?_)
  · replace k := ite_t h1 k
    have h2 := rng_i32 (b := 6) (by decide) h1.1 h1.2
    refine kI ?_
    refine zZ (z' := (up2 l 292 41 (0 : Int32))) rfl ?_
    refine zPs (pc1 := 15) (l1 := [(0, .ref 292), (1, .int x0), (2, .int x1)]) (st1 := [.int (63 : Int32), .int (1 : Int32), .int x1, .ref 292]) 5 rfl rfl rfl ?_
    refine zCs (mj := 107) rfl rfl rfl rfl rfl rfl rfl rfl ?_
    refine d_107 (fun h3 => ?_) (fun h3 => ?_)
    · replace k := ite_t h3 k
      have h4 := rng_le (b := 63) (by decide) (Int32.le_trans (by decide) h3.1) h3.2
      refine kI ?_
      refine zPs (pc1 := 27) (l1 := [(0, .ref 292), (1, .int x0), (2, .int x1)]) (st1 := [.int x0, .ref 292, .ref 292]) 3 rfl rfl rfl ?_
      refine zTo (ml' := [(0, .ref 292), (1, .int x0), (2, .int x1)]) (st' := [.int (i32 x0.toNatClampNeg), .ref 292, .ref 292]) rfl (by rw [h2.2]) ?_
      refine zCv (mj := 157) (k := 292) (n := 1) rfl rfl rfl rfl (by decide) rfl rfl rfl rfl rfl rfl ?_
      refine e_157 h2.1 ?_
      refine kI ?_
      refine zIfe rfl (fun h5 => ?_) (fun h5 => ?_)
      · replace k := ite_t h5 k
        refine zPs (pc1 := 38) (l1 := [(0, .ref 292), (1, .int x0), (2, .int x1)]) (st1 := [.int (0 : Int32), .ref 292]) 1 rfl rfl rfl ?_
        refine zPutI (F := 292) (I := 41) rfl rfl icThr rfl ?_
        refine zPs (pc1 := 42) (l1 := [(0, .ref 292), (1, .int x0), (2, .int x1)]) (st1 := [.ref 292]) 1 rfl rfl rfl ?_
        refine zGetI (F := 292) (I := 41) (v := (0 : Int32)) rfl rfl icThr (by simp [up2]) ?_
        refine zPs (pc1 := 51) (l1 := [(0, .ref 292), (1, .int x0), (2, .int x1)]) (st1 := [.ref 292]) 2 rfl rfl rfl ?_
        refine zGetR (r := 327) rfl rfl ⟨by decide, rfl, by decide, rfl⟩ ?_
        refine zPs (pc1 := 56) (l1 := [(0, .ref 292), (1, .int x0), (2, .int x1)]) (st1 := [.int x1, .int x0, .ref 327]) 2 rfl rfl rfl ?_
        refine zIasE (n := x0.toNatClampNeg) (F := 327) (I := x0.toNatClampNeg) h2.2 rfl (icM (k := 327) (L := 6) rfl h2.1) ?_
        refine zPs (pc1 := 58) (l1 := [(0, .ref 292), (1, .int x0), (2, .int x1)]) (st1 := [.ref 292]) 1 rfl rfl rfl ?_
        refine zGetR (r := 326) rfl rfl ⟨by decide, rfl, by decide, rfl⟩ ?_
        refine zPs (pc1 := 62) (l1 := [(0, .ref 292), (1, .int x0), (2, .int x1)]) (st1 := [.int x0, .ref 326]) 1 rfl rfl rfl ?_
        refine zIalE (n := x0.toNatClampNeg) (v := l 326 x0.toNatClampNeg) h2.2 rfl (icM (k := 326) (L := 6) rfl h2.1) rfl ?_
        refine zIfn rfl (fun h6 => ?_) (fun h6 => ?_)
        · replace k := ite_t h6 k
          refine zPs (pc1 := 72) (l1 := [(0, .ref 292), (1, .int x0), (2, .int x1)]) (st1 := [.ref 292]) 1 rfl rfl rfl ?_
          refine zCv (mj := 149) (k := 292) (n := 0) rfl rfl rfl rfl (by decide) rfl rfl rfl rfl rfl rfl ?_
          refine c_149 hl (CZ_up (CZ_thr (CZ_thr hCI)) rfl rfl).1 ?_
          refine kV ?_
          have hCI7 : CZ (sTakes (up2 (up2 (up2 l 292 41 (0 : Int32)) 292 41 (0 : Int32)) 327 x0.toNatClampNeg x1) n) n t := CZ_takes (CZ_up (CZ_thr (CZ_thr hCI)) rfl rfl)
          replace k := bnd_i k
          generalize sTakes (up2 (up2 (up2 l 292 41 (0 : Int32)) 292 41 (0 : Int32)) 327 x0.toNatClampNeg x1) n = l7 at k hCI7 ⊢
          refine zPs (pc1 := 76) (l1 := [(0, .ref 292), (1, .int x0), (2, .int x1)]) (st1 := [.ref 292]) 1 rfl rfl rfl ?_
          refine zGetR (r := 331) rfl rfl ⟨by decide, rfl, by decide, rfl⟩ ?_
          refine zPs (pc1 := 80) (l1 := [(0, .ref 292), (1, .int x0), (2, .int x1)]) (st1 := [.int x0, .ref 331]) 1 rfl rfl rfl ?_
          refine zIalE (n := x0.toNatClampNeg) (v := l7 331 x0.toNatClampNeg) h2.2 rfl (icM (k := 331) (L := 6) rfl h2.1) rfl ?_
          refine zRi rfl rfl ?_
          exact k
        · replace k := ite_f (not_not_intro h6) k
          refine zPs (pc1 := 68) (l1 := [(0, .ref 292), (1, .int x0), (2, .int x1)]) (st1 := [.int x0, .ref 292]) 2 rfl rfl rfl ?_
          refine zTo (ml' := [(0, .ref 292), (1, .int x0), (2, .int x1)]) (st' := [.int (i32 x0.toNatClampNeg), .ref 292]) rfl (by rw [h2.2]) ?_
          refine zCv (mj := 145) (k := 292) (n := 1) rfl rfl rfl rfl (by decide) rfl rfl rfl rfl rfl rfl ?_
          refine c_145 h2.1 ?_
          refine kV ?_
          have hCI8 : CZ (sReady (up2 (up2 (up2 l 292 41 (0 : Int32)) 292 41 (0 : Int32)) 327 x0.toNatClampNeg x1) x0.toNatClampNeg) n t := CZ_ready (CZ_up (CZ_thr (CZ_thr hCI)) rfl rfl)
          replace k := bnd_i k
          generalize sReady (up2 (up2 (up2 l 292 41 (0 : Int32)) 292 41 (0 : Int32)) 327 x0.toNatClampNeg x1) x0.toNatClampNeg = l8 at k hCI8 ⊢
          refine zPs (pc1 := 72) (l1 := [(0, .ref 292), (1, .int x0), (2, .int x1)]) (st1 := [.ref 292]) 1 rfl rfl rfl ?_
          refine zCv (mj := 149) (k := 292) (n := 0) rfl rfl rfl rfl (by decide) rfl rfl rfl rfl rfl rfl ?_
          refine c_149 hl hCI8.1 ?_
          refine kV ?_
          have hCI9 : CZ (sTakes l8 n) n t := CZ_takes hCI8
          replace k := bnd_i k
          generalize sTakes l8 n = l9 at k hCI9 ⊢
          refine zPs (pc1 := 76) (l1 := [(0, .ref 292), (1, .int x0), (2, .int x1)]) (st1 := [.ref 292]) 1 rfl rfl rfl ?_
          refine zGetR (r := 331) rfl rfl ⟨by decide, rfl, by decide, rfl⟩ ?_
          refine zPs (pc1 := 80) (l1 := [(0, .ref 292), (1, .int x0), (2, .int x1)]) (st1 := [.int x0, .ref 331]) 1 rfl rfl rfl ?_
          refine zIalE (n := x0.toNatClampNeg) (v := l9 331 x0.toNatClampNeg) h2.2 rfl (icM (k := 331) (L := 6) rfl h2.1) rfl ?_
          refine zRi rfl rfl ?_
          exact k
      · replace k := ite_f h5 k
        refine zPs (pc1 := 38) (l1 := [(0, .ref 292), (1, .int x0), (2, .int x1)]) (st1 := [.int (3 : Int32), .ref 292]) 2 rfl rfl rfl ?_
        refine zPutI (F := 292) (I := 41) rfl rfl icThr rfl ?_
        refine zPs (pc1 := 42) (l1 := [(0, .ref 292), (1, .int x0), (2, .int x1)]) (st1 := [.ref 292]) 1 rfl rfl rfl ?_
        refine zGetI (F := 292) (I := 41) (v := (3 : Int32)) rfl rfl icThr (by simp [up2]) ?_
        refine zPs (pc1 := 49) (l1 := [(0, .ref 292), (1, .int x0), (2, .int x1)]) (st1 := [.int (0 : Int32)]) 2 rfl rfl rfl ?_
        refine zRi rfl rfl ?_
        exact k
    · replace k := ite_f h3 k
      refine kI ?_
      refine zPs (pc1 := 38) (l1 := [(0, .ref 292), (1, .int x0), (2, .int x1)]) (st1 := [.int (2 : Int32), .ref 292]) 3 rfl rfl rfl ?_
      refine zPutI (F := 292) (I := 41) rfl rfl icThr rfl ?_
      refine zPs (pc1 := 42) (l1 := [(0, .ref 292), (1, .int x0), (2, .int x1)]) (st1 := [.ref 292]) 1 rfl rfl rfl ?_
      refine zGetI (F := 292) (I := 41) (v := (2 : Int32)) rfl rfl icThr (by simp [up2]) ?_
      refine zPs (pc1 := 49) (l1 := [(0, .ref 292), (1, .int x0), (2, .int x1)]) (st1 := [.int (0 : Int32)]) 2 rfl rfl rfl ?_
      refine zRi rfl rfl ?_
      exact k
  · replace k := ite_f h1 k
    refine kI ?_
    refine zZ (z' := (up2 l 292 41 (1 : Int32))) rfl ?_
    refine zPs (pc1 := 9) (l1 := [(0, .ref 292), (1, .int x0), (2, .int x1)]) (st1 := [.int (0 : Int32)]) 2 rfl rfl rfl ?_
    refine zRi rfl rfl ?_
    exact k
noncomputable def f_159 (n : Nat) (t : Nat) (x0 : Int32) (l : Sg) : Int32 × Sg := (if isA x0 then (if (f_157 x0.toNatClampNeg (up2 l 292 41 (0 : Int32))) = 0 then (l 326 x0.toNatClampNeg, (up2 (up2 (up2 l 292 41 (0 : Int32)) 292 41 (0 : Int32)) 326 x0.toNatClampNeg (0 : Int32))) else ((0 : Int32), (up2 (up2 l 292 41 (0 : Int32)) 292 41 (2 : Int32)))) else ((0 : Int32), (up2 l 292 41 (1 : Int32))))
theorem e_159 {l : Sg} {P : MO → Sg → Prop} {n : Nat} {x0 : Int32} {t : Nat} (hl : n ≤ 60) (htl : t ≤ 20000) (hCI : CZ l n t)  (k : Rk (Qb P) (f_159 n t x0 l)) : Es true 159 [.ref 292, .int x0] l P := by
  unfold f_159 at k
  refine Es.of ?_
  refine zPs (pc1 := 2) (l1 := [(0, .ref 292), (1, .int x0)]) (st1 := [.int x0, .ref 292]) 2 rfl rfl rfl ?_
  refine zCv (mj := 156) (k := 292) (n := 1) rfl rfl rfl rfl (by decide) rfl rfl rfl rfl rfl rfl ?_
  refine d_156 (fun h1 => ?_) (fun h1 => ?_)
  · replace k := ite_t h1 k
    have h2 := rng_i32 (b := 6) (by decide) h1.1 h1.2
    refine kI ?_
    refine zZ (z' := (up2 l 292 41 (0 : Int32))) rfl ?_
    refine zPs (pc1 := 13) (l1 := [(0, .ref 292), (1, .int x0)]) (st1 := [.int x0, .ref 292, .ref 292]) 4 rfl rfl rfl ?_
    refine zTo (ml' := [(0, .ref 292), (1, .int x0)]) (st' := [.int (i32 x0.toNatClampNeg), .ref 292, .ref 292]) rfl (by rw [h2.2]) ?_
    refine zCv (mj := 157) (k := 292) (n := 1) rfl rfl rfl rfl (by decide) rfl rfl rfl rfl rfl rfl ?_
    refine e_157 h2.1 ?_
    refine kI ?_
    refine zIfe rfl (fun h3 => ?_) (fun h3 => ?_)
    · replace k := ite_t h3 k
      refine zPs (pc1 := 24) (l1 := [(0, .ref 292), (1, .int x0)]) (st1 := [.int (0 : Int32), .ref 292]) 1 rfl rfl rfl ?_
      refine zPutI (F := 292) (I := 41) rfl rfl icThr rfl ?_
      refine zPs (pc1 := 28) (l1 := [(0, .ref 292), (1, .int x0)]) (st1 := [.ref 292]) 1 rfl rfl rfl ?_
      refine zGetI (F := 292) (I := 41) (v := (0 : Int32)) rfl rfl icThr (by simp [up2]) ?_
      refine zPs (pc1 := 37) (l1 := [(0, .ref 292), (1, .int x0)]) (st1 := [.ref 292]) 2 rfl rfl rfl ?_
      refine zGetR (r := 326) rfl rfl ⟨by decide, rfl, by decide, rfl⟩ ?_
      refine zPs (pc1 := 41) (l1 := [(0, .ref 292), (1, .int x0)]) (st1 := [.int x0, .ref 326]) 1 rfl rfl rfl ?_
      refine zIalE (n := x0.toNatClampNeg) (v := l 326 x0.toNatClampNeg) h2.2 rfl (icM (k := 326) (L := 6) rfl h2.1) rfl ?_
      refine zPs (pc1 := 44) (l1 := [(2, .int (l 326 x0.toNatClampNeg)), (0, .ref 292), (1, .int x0)]) (st1 := [.ref 292]) 2 rfl rfl rfl ?_
      refine zGetR (r := 326) rfl rfl ⟨by decide, rfl, by decide, rfl⟩ ?_
      refine zPs (pc1 := 49) (l1 := [(2, .int (l 326 x0.toNatClampNeg)), (0, .ref 292), (1, .int x0)]) (st1 := [.int (0 : Int32), .int x0, .ref 326]) 2 rfl rfl rfl ?_
      refine zIasE (n := x0.toNatClampNeg) (F := 326) (I := x0.toNatClampNeg) h2.2 rfl (icM (k := 326) (L := 6) rfl h2.1) ?_
      refine zPs (pc1 := 51) (l1 := [(2, .int (l 326 x0.toNatClampNeg)), (0, .ref 292), (1, .int x0)]) (st1 := [.int (l 326 x0.toNatClampNeg)]) 1 rfl rfl rfl ?_
      refine zRi rfl rfl ?_
      exact k
    · replace k := ite_f h3 k
      refine zPs (pc1 := 24) (l1 := [(0, .ref 292), (1, .int x0)]) (st1 := [.int (2 : Int32), .ref 292]) 2 rfl rfl rfl ?_
      refine zPutI (F := 292) (I := 41) rfl rfl icThr rfl ?_
      refine zPs (pc1 := 28) (l1 := [(0, .ref 292), (1, .int x0)]) (st1 := [.ref 292]) 1 rfl rfl rfl ?_
      refine zGetI (F := 292) (I := 41) (v := (2 : Int32)) rfl rfl icThr (by simp [up2]) ?_
      refine zPs (pc1 := 35) (l1 := [(0, .ref 292), (1, .int x0)]) (st1 := [.int (0 : Int32)]) 2 rfl rfl rfl ?_
      refine zRi rfl rfl ?_
      exact k
  · replace k := ite_f h1 k
    refine kI ?_
    refine zZ (z' := (up2 l 292 41 (1 : Int32))) rfl ?_
    refine zPs (pc1 := 9) (l1 := [(0, .ref 292), (1, .int x0)]) (st1 := [.int (0 : Int32)]) 2 rfl rfl rfl ?_
    refine zRi rfl rfl ?_
    exact k
noncomputable def f_160 (n : Nat) (t : Nat) (x0 : Int32) (x1 : Int32) (l : Sg) : Int32 × Sg := (if isA x0 then (if (0 : Int32) ≤ x1 ∧ x1 ≤ (30 : Int32) then (l 329 x0.toNatClampNeg, (up2 (up2 (up2 l 292 41 (0 : Int32)) 292 41 (0 : Int32)) 329 x0.toNatClampNeg x1)) else ((0 : Int32), (up2 (up2 l 292 41 (0 : Int32)) 292 41 (2 : Int32)))) else ((0 : Int32), (up2 l 292 41 (1 : Int32))))
theorem e_160 {l : Sg} {P : MO → Sg → Prop} {n : Nat} {x0 : Int32} {x1 : Int32} {t : Nat} (hl : n ≤ 60) (htl : t ≤ 20000) (hCI : CZ l n t)  (k : Rk (Qb P) (f_160 n t x0 x1 l)) : Es true 160 [.ref 292, .int x0, .int x1] l P := by
  unfold f_160 at k
  refine Es.of ?_
  refine zPs (pc1 := 2) (l1 := [(0, .ref 292), (1, .int x0), (2, .int x1)]) (st1 := [.int x0, .ref 292]) 2 rfl rfl rfl ?_
  refine zCv (mj := 156) (k := 292) (n := 1) rfl rfl rfl rfl (by decide) rfl rfl rfl rfl rfl rfl ?_
  refine d_156 (fun h1 => ?_) (fun h1 => ?_)
  · replace k := ite_t h1 k
    have h2 := rng_i32 (b := 6) (by decide) h1.1 h1.2
    refine kI ?_
    refine zZ (z' := (up2 l 292 41 (0 : Int32))) rfl ?_
    refine zPs (pc1 := 15) (l1 := [(0, .ref 292), (1, .int x0), (2, .int x1)]) (st1 := [.int (30 : Int32), .int (0 : Int32), .int x1, .ref 292]) 5 rfl rfl rfl ?_
    refine zCs (mj := 107) rfl rfl rfl rfl rfl rfl rfl rfl ?_
    refine d_107 (fun h3 => ?_) (fun h3 => ?_)
    · replace k := ite_t h3 k
      have h4 := rng_le (b := 30) (by decide) (Int32.le_trans (by decide) h3.1) h3.2
      refine kI ?_
      refine zPs (pc1 := 26) (l1 := [(0, .ref 292), (1, .int x0), (2, .int x1)]) (st1 := [.int (0 : Int32), .ref 292]) 3 rfl rfl rfl ?_
      refine zPutI (F := 292) (I := 41) rfl rfl icThr rfl ?_
      refine zPs (pc1 := 30) (l1 := [(0, .ref 292), (1, .int x0), (2, .int x1)]) (st1 := [.ref 292]) 1 rfl rfl rfl ?_
      refine zGetI (F := 292) (I := 41) (v := (0 : Int32)) rfl rfl icThr (by simp [up2]) ?_
      refine zPs (pc1 := 39) (l1 := [(0, .ref 292), (1, .int x0), (2, .int x1)]) (st1 := [.ref 292]) 2 rfl rfl rfl ?_
      refine zGetR (r := 329) rfl rfl ⟨by decide, rfl, by decide, rfl⟩ ?_
      refine zPs (pc1 := 43) (l1 := [(0, .ref 292), (1, .int x0), (2, .int x1)]) (st1 := [.int x0, .ref 329]) 1 rfl rfl rfl ?_
      refine zIalE (n := x0.toNatClampNeg) (v := l 329 x0.toNatClampNeg) h2.2 rfl (icM (k := 329) (L := 6) rfl h2.1) rfl ?_
      refine zPs (pc1 := 46) (l1 := [(3, .int (l 329 x0.toNatClampNeg)), (0, .ref 292), (1, .int x0), (2, .int x1)]) (st1 := [.ref 292]) 2 rfl rfl rfl ?_
      refine zGetR (r := 329) rfl rfl ⟨by decide, rfl, by decide, rfl⟩ ?_
      refine zPs (pc1 := 51) (l1 := [(3, .int (l 329 x0.toNatClampNeg)), (0, .ref 292), (1, .int x0), (2, .int x1)]) (st1 := [.int x1, .int x0, .ref 329]) 2 rfl rfl rfl ?_
      refine zIasE (n := x0.toNatClampNeg) (F := 329) (I := x0.toNatClampNeg) h2.2 rfl (icM (k := 329) (L := 6) rfl h2.1) ?_
      refine zPs (pc1 := 53) (l1 := [(3, .int (l 329 x0.toNatClampNeg)), (0, .ref 292), (1, .int x0), (2, .int x1)]) (st1 := [.int (l 329 x0.toNatClampNeg)]) 1 rfl rfl rfl ?_
      refine zRi rfl rfl ?_
      exact k
    · replace k := ite_f h3 k
      refine kI ?_
      refine zPs (pc1 := 26) (l1 := [(0, .ref 292), (1, .int x0), (2, .int x1)]) (st1 := [.int (2 : Int32), .ref 292]) 2 rfl rfl rfl ?_
      refine zPutI (F := 292) (I := 41) rfl rfl icThr rfl ?_
      refine zPs (pc1 := 30) (l1 := [(0, .ref 292), (1, .int x0), (2, .int x1)]) (st1 := [.ref 292]) 1 rfl rfl rfl ?_
      refine zGetI (F := 292) (I := 41) (v := (2 : Int32)) rfl rfl icThr (by simp [up2]) ?_
      refine zPs (pc1 := 37) (l1 := [(0, .ref 292), (1, .int x0), (2, .int x1)]) (st1 := [.int (0 : Int32)]) 2 rfl rfl rfl ?_
      refine zRi rfl rfl ?_
      exact k
  · replace k := ite_f h1 k
    refine kI ?_
    refine zZ (z' := (up2 l 292 41 (1 : Int32))) rfl ?_
    refine zPs (pc1 := 9) (l1 := [(0, .ref 292), (1, .int x0), (2, .int x1)]) (st1 := [.int (0 : Int32)]) 2 rfl rfl rfl ?_
    refine zRi rfl rfl ?_
    exact k
noncomputable def f_161 (n : Nat) (t : Nat) (x0 : Int32) (l : Sg) : Int32 × Sg := (if isA x0 then (if ¬ l 326 x0.toNatClampNeg = (2 : Int32) then ((0 : Int32), (up2 (up2 l 292 41 (0 : Int32)) 292 41 (2 : Int32))) else (bnd (sWraps (up2 (up2 (up2 (up2 (up2 (up2 l 292 41 (0 : Int32)) 292 41 (0 : Int32)) 311 ((l 331 x0.toNatClampNeg).toNatClampNeg) (5 : Int32)) 312 ((l 331 x0.toNatClampNeg).toNatClampNeg) (4 : Int32)) 313 ((l 331 x0.toNatClampNeg).toNatClampNeg) (-1 : Int32)) 320 ((l 331 x0.toNatClampNeg).toNatClampNeg) (-1 : Int32)) x0.toNatClampNeg) fun l5 => (bnd (sTakes l5 n) fun l6 => (l 331 x0.toNatClampNeg, l6)))) else ((0 : Int32), (up2 l 292 41 (1 : Int32))))
theorem e_161 {l : Sg} {P : MO → Sg → Prop} {n : Nat} {x0 : Int32} {t : Nat} (hl : n ≤ 60) (htl : t ≤ 20000) (hCI : CZ l n t)  (ho : ∀ a, a < 6 → l 326 a = 2 → (l 331 a).toNatClampNeg < n ∧ i32 (l 331 a).toNatClampNeg = l 331 a) (k : Rk (Qb P) (f_161 n t x0 l)) : Es true 161 [.ref 292, .int x0] l P := by
  unfold f_161 at k
  refine Es.of ?_
  refine zPs (pc1 := 2) (l1 := [(0, .ref 292), (1, .int x0)]) (st1 := [.int x0, .ref 292]) 2 rfl rfl rfl ?_
  refine zCv (mj := 156) (k := 292) (n := 1) rfl rfl rfl rfl (by decide) rfl rfl rfl rfl rfl rfl ?_
  refine d_156 (fun h1 => ?_) (fun h1 => ?_)
  · replace k := ite_t h1 k
    have h2 := rng_i32 (b := 6) (by decide) h1.1 h1.2
    refine kI ?_
    refine zZ (z' := (up2 l 292 41 (0 : Int32))) rfl ?_
    refine zPs (pc1 := 12) (l1 := [(0, .ref 292), (1, .int x0)]) (st1 := [.ref 292, .ref 292]) 3 rfl rfl rfl ?_
    refine zGetR (r := 326) rfl rfl ⟨by decide, rfl, by decide, rfl⟩ ?_
    refine zPs (pc1 := 16) (l1 := [(0, .ref 292), (1, .int x0)]) (st1 := [.int x0, .ref 326, .ref 292]) 1 rfl rfl rfl ?_
    refine zIalE (n := x0.toNatClampNeg) (v := l 326 x0.toNatClampNeg) h2.2 rfl (icM (k := 326) (L := 6) rfl h2.1) rfl ?_
    refine zPs (pc1 := 18) (l1 := [(0, .ref 292), (1, .int x0)]) (st1 := [.int (2 : Int32), .int (l 326 x0.toNatClampNeg), .ref 292]) 1 rfl rfl rfl ?_
    refine zCn rfl (fun h3 => ?_) (fun h3 => ?_)
    · replace k := ite_t h3 k
      refine zPs (pc1 := 26) (l1 := [(0, .ref 292), (1, .int x0)]) (st1 := [.int (2 : Int32), .ref 292]) 1 rfl rfl rfl ?_
      refine zPutI (F := 292) (I := 41) rfl rfl icThr rfl ?_
      refine zPs (pc1 := 30) (l1 := [(0, .ref 292), (1, .int x0)]) (st1 := [.ref 292]) 1 rfl rfl rfl ?_
      refine zGetI (F := 292) (I := 41) (v := (2 : Int32)) rfl rfl icThr (by simp [up2]) ?_
      refine zPs (pc1 := 37) (l1 := [(0, .ref 292), (1, .int x0)]) (st1 := [.int (0 : Int32)]) 2 rfl rfl rfl ?_
      refine zRi rfl rfl ?_
      exact k
    · replace k := ite_f (not_not_intro h3) k
      have h4 := ho x0.toNatClampNeg h2.1 h3
      refine zPs (pc1 := 26) (l1 := [(0, .ref 292), (1, .int x0)]) (st1 := [.int (0 : Int32), .ref 292]) 2 rfl rfl rfl ?_
      refine zPutI (F := 292) (I := 41) rfl rfl icThr rfl ?_
      refine zPs (pc1 := 30) (l1 := [(0, .ref 292), (1, .int x0)]) (st1 := [.ref 292]) 1 rfl rfl rfl ?_
      refine zGetI (F := 292) (I := 41) (v := (0 : Int32)) rfl rfl icThr (by simp [up2]) ?_
      refine zPs (pc1 := 39) (l1 := [(0, .ref 292), (1, .int x0)]) (st1 := [.ref 292]) 2 rfl rfl rfl ?_
      refine zGetR (r := 331) rfl rfl ⟨by decide, rfl, by decide, rfl⟩ ?_
      refine zPs (pc1 := 43) (l1 := [(0, .ref 292), (1, .int x0)]) (st1 := [.int x0, .ref 331]) 1 rfl rfl rfl ?_
      refine zIalE (n := x0.toNatClampNeg) (v := l 331 x0.toNatClampNeg) h2.2 rfl (icM (k := 331) (L := 6) rfl h2.1) rfl ?_
      refine zPs (pc1 := 48) (l1 := [(2, .int (l 331 x0.toNatClampNeg)), (0, .ref 292), (1, .int x0)]) (st1 := [.int (4 : Int32), .int (l 331 x0.toNatClampNeg), .ref 292]) 4 rfl rfl rfl ?_
      refine zTo (ml' := [(2, .int (l 331 x0.toNatClampNeg)), (0, .ref 292), (1, .int x0)]) (st' := [.int (4 : Int32), .int (i32 ((l 331 x0.toNatClampNeg).toNatClampNeg)), .ref 292]) rfl (by rw [h4.2]) ?_
      refine zCv (mj := 132) (k := 292) (n := 2) rfl rfl rfl rfl (by decide) rfl rfl rfl rfl rfl rfl ?_
      refine c_132 (Nat.lt_of_lt_of_le h4.1 hl) ?_
      refine kV ?_
      refine zZ (z' := (up2 (up2 (up2 (up2 (up2 (up2 l 292 41 (0 : Int32)) 292 41 (0 : Int32)) 311 ((l 331 x0.toNatClampNeg).toNatClampNeg) (5 : Int32)) 312 ((l 331 x0.toNatClampNeg).toNatClampNeg) (4 : Int32)) 313 ((l 331 x0.toNatClampNeg).toNatClampNeg) (-1 : Int32)) 320 ((l 331 x0.toNatClampNeg).toNatClampNeg) (-1 : Int32))) rfl ?_
      refine zPs (pc1 := 53) (l1 := [(2, .int (l 331 x0.toNatClampNeg)), (0, .ref 292), (1, .int x0)]) (st1 := [.int x0, .ref 292]) 2 rfl rfl rfl ?_
      refine zTo (ml' := [(2, .int (l 331 x0.toNatClampNeg)), (0, .ref 292), (1, .int x0)]) (st' := [.int (i32 x0.toNatClampNeg), .ref 292]) rfl (by rw [h2.2]) ?_
      refine zCv (mj := 146) (k := 292) (n := 1) rfl rfl rfl rfl (by decide) rfl rfl rfl rfl rfl rfl ?_
      refine c_146 h2.1 ?_
      refine kV ?_
      have hCI5 : CZ (sWraps (up2 (up2 (up2 (up2 (up2 (up2 l 292 41 (0 : Int32)) 292 41 (0 : Int32)) 311 ((l 331 x0.toNatClampNeg).toNatClampNeg) (5 : Int32)) 312 ((l 331 x0.toNatClampNeg).toNatClampNeg) (4 : Int32)) 313 ((l 331 x0.toNatClampNeg).toNatClampNeg) (-1 : Int32)) 320 ((l 331 x0.toNatClampNeg).toNatClampNeg) (-1 : Int32)) x0.toNatClampNeg) n t := CZ_wraps (CZ_up (CZ_up (CZ_up (CZ_up (CZ_thr (CZ_thr hCI)) rfl rfl) rfl rfl) rfl rfl) rfl rfl)
      replace k := bnd_i k
      generalize sWraps (up2 (up2 (up2 (up2 (up2 (up2 l 292 41 (0 : Int32)) 292 41 (0 : Int32)) 311 ((l 331 x0.toNatClampNeg).toNatClampNeg) (5 : Int32)) 312 ((l 331 x0.toNatClampNeg).toNatClampNeg) (4 : Int32)) 313 ((l 331 x0.toNatClampNeg).toNatClampNeg) (-1 : Int32)) 320 ((l 331 x0.toNatClampNeg).toNatClampNeg) (-1 : Int32)) x0.toNatClampNeg = l5 at k hCI5 ⊢
      refine zPs (pc1 := 57) (l1 := [(2, .int (l 331 x0.toNatClampNeg)), (0, .ref 292), (1, .int x0)]) (st1 := [.ref 292]) 1 rfl rfl rfl ?_
      refine zCv (mj := 149) (k := 292) (n := 0) rfl rfl rfl rfl (by decide) rfl rfl rfl rfl rfl rfl ?_
      refine c_149 hl hCI5.1 ?_
      refine kV ?_
      have hCI6 : CZ (sTakes l5 n) n t := CZ_takes hCI5
      replace k := bnd_i k
      generalize sTakes l5 n = l6 at k hCI6 ⊢
      refine zPs (pc1 := 61) (l1 := [(2, .int (l 331 x0.toNatClampNeg)), (0, .ref 292), (1, .int x0)]) (st1 := [.int (l 331 x0.toNatClampNeg)]) 1 rfl rfl rfl ?_
      refine zRi rfl rfl ?_
      exact k
  · replace k := ite_f h1 k
    refine kI ?_
    refine zZ (z' := (up2 l 292 41 (1 : Int32))) rfl ?_
    refine zPs (pc1 := 9) (l1 := [(0, .ref 292), (1, .int x0)]) (st1 := [.int (0 : Int32)]) 2 rfl rfl rfl ?_
    refine zRi rfl rfl ?_
    exact k
noncomputable def f_162 (n : Nat) (t : Nat) (x0 : Int32) (x1 : Int32) (l : Sg) : Int32 × Sg := (if (0 : Int32) ≤ x0 ∧ x0 ≤ (5 : Int32) then (if isN x1 then (if ¬ l 326 x0.toNatClampNeg = (2 : Int32) then ((0 : Int32), (up2 l 292 41 (2 : Int32))) else (bnd (sWraps (up2 l 292 41 (0 : Int32)) x0.toNatClampNeg) fun l7 => (bnd (sGoes (up2 (up2 (up2 l7 318 ((l 331 x0.toNatClampNeg).toNatClampNeg) (0 : Int32)) 320 ((l 331 x0.toNatClampNeg).toNatClampNeg) (-1 : Int32)) 310 x1.toNatClampNeg (l7 310 x1.toNatClampNeg + (1 : Int32))) n t ((l 331 x0.toNatClampNeg).toNatClampNeg) none x1) fun l8 => (bnd (sTakes l8 n) fun l9 => (l 331 x0.toNatClampNeg, l9))))) else ((0 : Int32), (up2 l 292 41 (1 : Int32)))) else ((0 : Int32), (up2 l 292 41 (1 : Int32))))
theorem e_162 {l : Sg} {P : MO → Sg → Prop} {n : Nat} {x0 : Int32} {x1 : Int32} {t : Nat} (hl : n ≤ 60) (htl : t ≤ 20000) (hCI : CZ l n t)  (ho : ∀ a, a < 6 → l 326 a = 2 → (l 331 a).toNatClampNeg < n ∧ i32 (l 331 a).toNatClampNeg = l 331 a) (k : Rk (Qb P) (f_162 n t x0 x1 l)) : Es true 162 [.ref 292, .int x0, .int x1] l P := by
  unfold f_162 at k
  refine Es.of ?_
  refine zPs (pc1 := 4) (l1 := [(0, .ref 292), (1, .int x0), (2, .int x1)]) (st1 := [.int (5 : Int32), .int (0 : Int32), .int x0, .ref 292]) 4 rfl rfl rfl ?_
  refine zCs (mj := 107) rfl rfl rfl rfl rfl rfl rfl rfl ?_
  refine d_107 (fun h1 => ?_) (fun h1 => ?_)
  · replace k := ite_t h1 k
    have h2 := rng_le (b := 5) (by decide) (Int32.le_trans (by decide) h1.1) h1.2
    refine kI ?_
    refine zPs (pc1 := 11) (l1 := [(0, .ref 292), (1, .int x0), (2, .int x1)]) (st1 := [.int x1, .ref 292]) 2 rfl rfl rfl ?_
    refine zCs (mj := 108) rfl rfl rfl rfl rfl rfl rfl rfl ?_
    refine d_108 (fun h3 => ?_) (fun h3 => ?_)
    · replace k := ite_t h3 k
      have h4 := isN_lt h3
      refine kI ?_
      refine zPs (pc1 := 22) (l1 := [(0, .ref 292), (1, .int x0), (2, .int x1)]) (st1 := [.ref 292, .ref 292]) 2 rfl rfl rfl ?_
      refine zGetR (r := 326) rfl rfl ⟨by decide, rfl, by decide, rfl⟩ ?_
      refine zPs (pc1 := 26) (l1 := [(0, .ref 292), (1, .int x0), (2, .int x1)]) (st1 := [.int x0, .ref 326, .ref 292]) 1 rfl rfl rfl ?_
      refine zIalE (n := x0.toNatClampNeg) (v := l 326 x0.toNatClampNeg) h2.2 rfl (icM (k := 326) (L := 6) rfl h2.1) rfl ?_
      refine zPs (pc1 := 28) (l1 := [(0, .ref 292), (1, .int x0), (2, .int x1)]) (st1 := [.int (2 : Int32), .int (l 326 x0.toNatClampNeg), .ref 292]) 1 rfl rfl rfl ?_
      refine zCn rfl (fun h5 => ?_) (fun h5 => ?_)
      · replace k := ite_t h5 k
        refine zPs (pc1 := 36) (l1 := [(0, .ref 292), (1, .int x0), (2, .int x1)]) (st1 := [.int (2 : Int32), .ref 292]) 1 rfl rfl rfl ?_
        refine zPutI (F := 292) (I := 41) rfl rfl icThr rfl ?_
        refine zPs (pc1 := 40) (l1 := [(0, .ref 292), (1, .int x0), (2, .int x1)]) (st1 := [.ref 292]) 1 rfl rfl rfl ?_
        refine zGetI (F := 292) (I := 41) (v := (2 : Int32)) rfl rfl icThr (by simp [up2]) ?_
        refine zPs (pc1 := 47) (l1 := [(0, .ref 292), (1, .int x0), (2, .int x1)]) (st1 := [.int (0 : Int32)]) 2 rfl rfl rfl ?_
        refine zRi rfl rfl ?_
        exact k
      · replace k := ite_f (not_not_intro h5) k
        have h6 := ho x0.toNatClampNeg h2.1 h5
        refine zPs (pc1 := 36) (l1 := [(0, .ref 292), (1, .int x0), (2, .int x1)]) (st1 := [.int (0 : Int32), .ref 292]) 2 rfl rfl rfl ?_
        refine zPutI (F := 292) (I := 41) rfl rfl icThr rfl ?_
        refine zPs (pc1 := 40) (l1 := [(0, .ref 292), (1, .int x0), (2, .int x1)]) (st1 := [.ref 292]) 1 rfl rfl rfl ?_
        refine zGetI (F := 292) (I := 41) (v := (0 : Int32)) rfl rfl icThr (by simp [up2]) ?_
        refine zPs (pc1 := 49) (l1 := [(0, .ref 292), (1, .int x0), (2, .int x1)]) (st1 := [.ref 292]) 2 rfl rfl rfl ?_
        refine zGetR (r := 331) rfl rfl ⟨by decide, rfl, by decide, rfl⟩ ?_
        refine zPs (pc1 := 53) (l1 := [(0, .ref 292), (1, .int x0), (2, .int x1)]) (st1 := [.int x0, .ref 331]) 1 rfl rfl rfl ?_
        refine zIalE (n := x0.toNatClampNeg) (v := l 331 x0.toNatClampNeg) h2.2 rfl (icM (k := 331) (L := 6) rfl h2.1) rfl ?_
        refine zPs (pc1 := 57) (l1 := [(3, .int (l 331 x0.toNatClampNeg)), (0, .ref 292), (1, .int x0), (2, .int x1)]) (st1 := [.int x0, .ref 292]) 3 rfl rfl rfl ?_
        refine zTo (ml' := [(3, .int (l 331 x0.toNatClampNeg)), (0, .ref 292), (1, .int x0), (2, .int x1)]) (st' := [.int (i32 x0.toNatClampNeg), .ref 292]) rfl (by rw [h2.2]) ?_
        refine zCv (mj := 146) (k := 292) (n := 1) rfl rfl rfl rfl (by decide) rfl rfl rfl rfl rfl rfl ?_
        refine c_146 h2.1 ?_
        refine kV ?_
        have hCI7 : CZ (sWraps (up2 l 292 41 (0 : Int32)) x0.toNatClampNeg) n t := CZ_wraps (CZ_thr hCI)
        replace k := bnd_i k
        generalize sWraps (up2 l 292 41 (0 : Int32)) x0.toNatClampNeg = l7 at k hCI7 ⊢
        refine zPs (pc1 := 61) (l1 := [(3, .int (l 331 x0.toNatClampNeg)), (0, .ref 292), (1, .int x0), (2, .int x1)]) (st1 := [.ref 292]) 1 rfl rfl rfl ?_
        refine zGetR (r := 318) rfl rfl ⟨by decide, rfl, by decide, rfl⟩ ?_
        refine zPs (pc1 := 66) (l1 := [(3, .int (l 331 x0.toNatClampNeg)), (0, .ref 292), (1, .int x0), (2, .int x1)]) (st1 := [.int (0 : Int32), .int (l 331 x0.toNatClampNeg), .ref 318]) 2 rfl rfl rfl ?_
        refine zIasE (n := (l 331 x0.toNatClampNeg).toNatClampNeg) (F := 318) (I := (l 331 x0.toNatClampNeg).toNatClampNeg) h6.2 rfl (icM (k := 318) (L := 60) rfl (Nat.lt_of_lt_of_le h6.1 hl)) ?_
        refine zPs (pc1 := 68) (l1 := [(3, .int (l 331 x0.toNatClampNeg)), (0, .ref 292), (1, .int x0), (2, .int x1)]) (st1 := [.ref 292]) 1 rfl rfl rfl ?_
        refine zGetR (r := 320) rfl rfl ⟨by decide, rfl, by decide, rfl⟩ ?_
        refine zPs (pc1 := 73) (l1 := [(3, .int (l 331 x0.toNatClampNeg)), (0, .ref 292), (1, .int x0), (2, .int x1)]) (st1 := [.int (-1 : Int32), .int (l 331 x0.toNatClampNeg), .ref 320]) 2 rfl rfl rfl ?_
        refine zIasE (n := (l 331 x0.toNatClampNeg).toNatClampNeg) (F := 320) (I := (l 331 x0.toNatClampNeg).toNatClampNeg) h6.2 rfl (icM (k := 320) (L := 60) rfl (Nat.lt_of_lt_of_le h6.1 hl)) ?_
        refine zPs (pc1 := 75) (l1 := [(3, .int (l 331 x0.toNatClampNeg)), (0, .ref 292), (1, .int x0), (2, .int x1)]) (st1 := [.ref 292]) 1 rfl rfl rfl ?_
        refine zGetR (r := 310) rfl rfl ⟨by decide, rfl, by decide, rfl⟩ ?_
        refine zPs (pc1 := 80) (l1 := [(3, .int (l 331 x0.toNatClampNeg)), (0, .ref 292), (1, .int x0), (2, .int x1)]) (st1 := [.int x1, .ref 310, .int x1, .ref 310]) 2 rfl rfl rfl ?_
        refine zIalE (n := x1.toNatClampNeg) (v := l7 310 x1.toNatClampNeg) h4.2 rfl (icM (k := 310) (L := 30) rfl h4.1) rfl ?_
        refine zPs (pc1 := 83) (l1 := [(3, .int (l 331 x0.toNatClampNeg)), (0, .ref 292), (1, .int x0), (2, .int x1)]) (st1 := [.int (l7 310 x1.toNatClampNeg + (1 : Int32)), .int x1, .ref 310]) 2 rfl rfl rfl ?_
        refine zIasE (n := x1.toNatClampNeg) (F := 310) (I := x1.toNatClampNeg) h4.2 rfl (icM (k := 310) (L := 30) rfl h4.1) ?_
        refine zPs (pc1 := 88) (l1 := [(3, .int (l 331 x0.toNatClampNeg)), (0, .ref 292), (1, .int x0), (2, .int x1)]) (st1 := [.int x1, .int (-1 : Int32), .int (l 331 x0.toNatClampNeg), .ref 292]) 4 rfl rfl rfl ?_
        refine zTo (ml' := [(3, .int (l 331 x0.toNatClampNeg)), (0, .ref 292), (1, .int x0), (2, .int x1)]) (st' := [.int x1, .int (-1 : Int32), .int (i32 ((l 331 x0.toNatClampNeg).toNatClampNeg)), .ref 292]) rfl (by rw [h6.2]) ?_
        refine zCv (mj := 137) (k := 292) (n := 3) rfl rfl rfl rfl (by decide) rfl rfl rfl rfl rfl rfl ?_
        refine c_137 hl htl (Nat.lt_of_lt_of_le h6.1 hl) none (CZ_up (CZ_up (CZ_dep0 hCI7) rfl rfl) rfl rfl).2.2 (CZ_up (CZ_up (CZ_dep0 hCI7) rfl rfl) rfl rfl).1 (CZ_up (CZ_up (CZ_dep0 hCI7) rfl rfl) rfl rfl).2.1 rfl (fun b q => by cases q) (fun q => absurd q (isN_m1 h3)) h3.2 ?_
        refine kV ?_
        have hCI8 : CZ (sGoes (up2 (up2 (up2 l7 318 ((l 331 x0.toNatClampNeg).toNatClampNeg) (0 : Int32)) 320 ((l 331 x0.toNatClampNeg).toNatClampNeg) (-1 : Int32)) 310 x1.toNatClampNeg (l7 310 x1.toNatClampNeg + (1 : Int32))) n t ((l 331 x0.toNatClampNeg).toNatClampNeg) none x1) n t := CZ_goes (Nat.lt_of_lt_of_le h6.1 hl) h3.2 (CZ_up (CZ_up (CZ_dep0 hCI7) rfl rfl) rfl rfl)
        replace k := bnd_i k
        generalize sGoes (up2 (up2 (up2 l7 318 ((l 331 x0.toNatClampNeg).toNatClampNeg) (0 : Int32)) 320 ((l 331 x0.toNatClampNeg).toNatClampNeg) (-1 : Int32)) 310 x1.toNatClampNeg (l7 310 x1.toNatClampNeg + (1 : Int32))) n t ((l 331 x0.toNatClampNeg).toNatClampNeg) none x1 = l8 at k hCI8 ⊢
        refine zPs (pc1 := 92) (l1 := [(3, .int (l 331 x0.toNatClampNeg)), (0, .ref 292), (1, .int x0), (2, .int x1)]) (st1 := [.ref 292]) 1 rfl rfl rfl ?_
        refine zCv (mj := 149) (k := 292) (n := 0) rfl rfl rfl rfl (by decide) rfl rfl rfl rfl rfl rfl ?_
        refine c_149 hl hCI8.1 ?_
        refine kV ?_
        have hCI9 : CZ (sTakes l8 n) n t := CZ_takes hCI8
        replace k := bnd_i k
        generalize sTakes l8 n = l9 at k hCI9 ⊢
        refine zPs (pc1 := 96) (l1 := [(3, .int (l 331 x0.toNatClampNeg)), (0, .ref 292), (1, .int x0), (2, .int x1)]) (st1 := [.int (l 331 x0.toNatClampNeg)]) 1 rfl rfl rfl ?_
        refine zRi rfl rfl ?_
        exact k
    · replace k := ite_f h3 k
      refine kI ?_
      refine zPs (pc1 := 36) (l1 := [(0, .ref 292), (1, .int x0), (2, .int x1)]) (st1 := [.int (1 : Int32), .ref 292]) 3 rfl rfl rfl ?_
      refine zPutI (F := 292) (I := 41) rfl rfl icThr rfl ?_
      refine zPs (pc1 := 40) (l1 := [(0, .ref 292), (1, .int x0), (2, .int x1)]) (st1 := [.ref 292]) 1 rfl rfl rfl ?_
      refine zGetI (F := 292) (I := 41) (v := (1 : Int32)) rfl rfl icThr (by simp [up2]) ?_
      refine zPs (pc1 := 47) (l1 := [(0, .ref 292), (1, .int x0), (2, .int x1)]) (st1 := [.int (0 : Int32)]) 2 rfl rfl rfl ?_
      refine zRi rfl rfl ?_
      exact k
  · replace k := ite_f h1 k
    refine kI ?_
    refine zPs (pc1 := 36) (l1 := [(0, .ref 292), (1, .int x0), (2, .int x1)]) (st1 := [.int (1 : Int32), .ref 292]) 3 rfl rfl rfl ?_
    refine zPutI (F := 292) (I := 41) rfl rfl icThr rfl ?_
    refine zPs (pc1 := 40) (l1 := [(0, .ref 292), (1, .int x0), (2, .int x1)]) (st1 := [.ref 292]) 1 rfl rfl rfl ?_
    refine zGetI (F := 292) (I := 41) (v := (1 : Int32)) rfl rfl icThr (by simp [up2]) ?_
    refine zPs (pc1 := 47) (l1 := [(0, .ref 292), (1, .int x0), (2, .int x1)]) (st1 := [.int (0 : Int32)]) 2 rfl rfl rfl ?_
    refine zRi rfl rfl ?_
    exact k
