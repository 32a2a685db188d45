/-! ===== the model: what is told of nodes ===== -/
theorem isN_of {m : Nat} (h : m < 30) : isN (i32 m) := ⟨(i32_le (a := 0) (b := m) (by decide) (by omega)).mpr (Nat.zero_le m), (i32_le (a := m) (b := 29) (by omega) (by decide)).mpr (by omega)⟩
def sTell (z : Sg) (m : Nat) (wh : Int32) : Sg := up2 (up2 (up2 (up2 (up2 (up2 (up2 z 292 41 0) 296 m wh) 306 m 0) 303 m 10) 304 m 3) 305 m 2) 302 m (-1)
def thr (z : Sg) (k : Int32) : Sg := up2 z 292 41 k
theorem c_111n1 {z : Sg} {P : MO → Sg → Prop} {a b : Int32} (k : P (.inl (some (.int 0))) (thr z 1)) : Es true 111 [.ref 292, .int a, .int (1 : Int32), .int (0 : Int32), .int b] z P := by
  refine Es.of ?_
  refine zPs (pc1 := 67) (l1 := [(5, .int (1 : Int32)), (0, .ref 292), (1, .int a), (2, .int (1 : Int32)), (3, .int (0 : Int32)), (4, .int b)]) (st1 := [.int (1 : Int32), .ref 292]) 11 rfl rfl rfl ?_
  refine zPutI rfl rfl icThr rfl ?_
  refine zPs (pc1 := 71) (l1 := [(5, .int (1 : Int32)), (0, .ref 292), (1, .int a), (2, .int (1 : Int32)), (3, .int (0 : Int32)), (4, .int b)]) (st1 := [.ref 292]) 1 rfl rfl rfl ?_
  refine zGetI (v := (1 : Int32)) rfl rfl icThr (by simp [up2]) ?_
  refine zPs (pc1 := 78) (l1 := [(5, .int (1 : Int32)), (0, .ref 292), (1, .int a), (2, .int (1 : Int32)), (3, .int (0 : Int32)), (4, .int b)]) (st1 := [.int (0 : Int32)]) 2 rfl rfl rfl ?_
  refine zRz rfl rfl (Or.inl rfl) ?_
  exact k
theorem c_111b1 {z : Sg} {P : MO → Sg → Prop} {a : Int32} (k : P (.inl (some (.int 0))) (thr z 2)) : Es true 111 [.ref 292, .int a, .int (1 : Int32), .int (1 : Int32), .int (0 : Int32)] z P := by
  refine Es.of ?_
  refine zPs (pc1 := 67) (l1 := [(5, .int (1 : Int32)), (0, .ref 292), (1, .int a), (2, .int (1 : Int32)), (3, .int (1 : Int32)), (4, .int (0 : Int32))]) (st1 := [.int (2 : Int32), .ref 292]) 13 rfl rfl rfl ?_
  refine zPutI rfl rfl icThr rfl ?_
  refine zPs (pc1 := 71) (l1 := [(5, .int (1 : Int32)), (0, .ref 292), (1, .int a), (2, .int (1 : Int32)), (3, .int (1 : Int32)), (4, .int (0 : Int32))]) (st1 := [.ref 292]) 1 rfl rfl rfl ?_
  refine zGetI (v := (2 : Int32)) rfl rfl icThr (by simp [up2]) ?_
  refine zPs (pc1 := 78) (l1 := [(5, .int (1 : Int32)), (0, .ref 292), (1, .int a), (2, .int (1 : Int32)), (3, .int (1 : Int32)), (4, .int (0 : Int32))]) (st1 := [.int (0 : Int32)]) 2 rfl rfl rfl ?_
  refine zRz rfl rfl (Or.inl rfl) ?_
  exact k
theorem c_111o1 {z : Sg} {P : MO → Sg → Prop} {n m : Nat} (hl : n ≤ 60) (hn : z 292 19 = i32 n) (hm : m < 30) (k1 : quiet z n → P (.inl (some (.int 1))) (sTell z m 1)) (k0 : ¬ quiet z n → P (.inl (some (.int 0))) (thr z 3)) : Es true 111 [.ref 292, .int (i32 m), .int (1 : Int32), .int (1 : Int32), .int (1 : Int32)] z P := by
  refine Es.of ?_
  refine zPs (pc1 := 47) (l1 := [(5, .int (1 : Int32)), (0, .ref 292), (1, .int (i32 m)), (2, .int (1 : Int32)), (3, .int (1 : Int32)), (4, .int (1 : Int32))]) (st1 := [.ref 292, .ref 292]) 12 rfl rfl rfl ?_
  refine zCv (mj := 110) (k := 292) (n := 0) rfl rfl rfl rfl (by decide) rfl rfl rfl rfl rfl rfl ?_
  refine c_110 hl hn (fun h1 => ?_) (fun h2 => ?_)
  · refine kI ?_
    refine zPs (pc1 := 67) (l1 := [(5, .int (1 : Int32)), (0, .ref 292), (1, .int (i32 m)), (2, .int (1 : Int32)), (3, .int (1 : Int32)), (4, .int (1 : Int32))]) (st1 := [.int (0 : Int32), .ref 292]) 3 rfl rfl rfl ?_
    refine zPutI rfl rfl icThr rfl ?_
    refine zPs (pc1 := 71) (l1 := [(5, .int (1 : Int32)), (0, .ref 292), (1, .int (i32 m)), (2, .int (1 : Int32)), (3, .int (1 : Int32)), (4, .int (1 : Int32))]) (st1 := [.ref 292]) 1 rfl rfl rfl ?_
    refine zGetI (v := (0 : Int32)) rfl rfl icThr (by simp [up2]) ?_
    refine zPs (pc1 := 80) (l1 := [(5, .int (1 : Int32)), (0, .ref 292), (1, .int (i32 m)), (2, .int (1 : Int32)), (3, .int (1 : Int32)), (4, .int (1 : Int32))]) (st1 := [.ref 292]) 2 rfl rfl rfl ?_
    refine zGetR (r := 296) rfl rfl ⟨by decide, rfl, by decide, rfl⟩ ?_
    refine zPs (pc1 := 85) (l1 := [(5, .int (1 : Int32)), (0, .ref 292), (1, .int (i32 m)), (2, .int (1 : Int32)), (3, .int (1 : Int32)), (4, .int (1 : Int32))]) (st1 := [.int (1 : Int32), .int (i32 m), .ref 296]) 2 rfl rfl rfl ?_
    refine zIas (n := m) rfl (icM (k := 296) (L := 30) rfl hm) ?_
    refine zPs (pc1 := 87) (l1 := [(5, .int (1 : Int32)), (0, .ref 292), (1, .int (i32 m)), (2, .int (1 : Int32)), (3, .int (1 : Int32)), (4, .int (1 : Int32))]) (st1 := [.ref 292]) 1 rfl rfl rfl ?_
    refine zGetR (r := 306) rfl rfl ⟨by decide, rfl, by decide, rfl⟩ ?_
    refine zPs (pc1 := 92) (l1 := [(5, .int (1 : Int32)), (0, .ref 292), (1, .int (i32 m)), (2, .int (1 : Int32)), (3, .int (1 : Int32)), (4, .int (1 : Int32))]) (st1 := [.int (0 : Int32), .int (i32 m), .ref 306]) 2 rfl rfl rfl ?_
    refine zIas (n := m) rfl (icM (k := 306) (L := 30) rfl hm) ?_
    refine zPs (pc1 := 94) (l1 := [(5, .int (1 : Int32)), (0, .ref 292), (1, .int (i32 m)), (2, .int (1 : Int32)), (3, .int (1 : Int32)), (4, .int (1 : Int32))]) (st1 := [.ref 292]) 1 rfl rfl rfl ?_
    refine zGetR (r := 303) rfl rfl ⟨by decide, rfl, by decide, rfl⟩ ?_
    refine zPs (pc1 := 100) (l1 := [(5, .int (1 : Int32)), (0, .ref 292), (1, .int (i32 m)), (2, .int (1 : Int32)), (3, .int (1 : Int32)), (4, .int (1 : Int32))]) (st1 := [.int (10 : Int32), .int (i32 m), .ref 303]) 2 rfl rfl rfl ?_
    refine zIas (n := m) rfl (icM (k := 303) (L := 30) rfl hm) ?_
    refine zPs (pc1 := 102) (l1 := [(5, .int (1 : Int32)), (0, .ref 292), (1, .int (i32 m)), (2, .int (1 : Int32)), (3, .int (1 : Int32)), (4, .int (1 : Int32))]) (st1 := [.ref 292]) 1 rfl rfl rfl ?_
    refine zGetR (r := 304) rfl rfl ⟨by decide, rfl, by decide, rfl⟩ ?_
    refine zPs (pc1 := 107) (l1 := [(5, .int (1 : Int32)), (0, .ref 292), (1, .int (i32 m)), (2, .int (1 : Int32)), (3, .int (1 : Int32)), (4, .int (1 : Int32))]) (st1 := [.int (3 : Int32), .int (i32 m), .ref 304]) 2 rfl rfl rfl ?_
    refine zIas (n := m) rfl (icM (k := 304) (L := 30) rfl hm) ?_
    refine zPs (pc1 := 109) (l1 := [(5, .int (1 : Int32)), (0, .ref 292), (1, .int (i32 m)), (2, .int (1 : Int32)), (3, .int (1 : Int32)), (4, .int (1 : Int32))]) (st1 := [.ref 292]) 1 rfl rfl rfl ?_
    refine zGetR (r := 305) rfl rfl ⟨by decide, rfl, by decide, rfl⟩ ?_
    refine zPs (pc1 := 114) (l1 := [(5, .int (1 : Int32)), (0, .ref 292), (1, .int (i32 m)), (2, .int (1 : Int32)), (3, .int (1 : Int32)), (4, .int (1 : Int32))]) (st1 := [.int (2 : Int32), .int (i32 m), .ref 305]) 2 rfl rfl rfl ?_
    refine zIas (n := m) rfl (icM (k := 305) (L := 30) rfl hm) ?_
    refine zPs (pc1 := 116) (l1 := [(5, .int (1 : Int32)), (0, .ref 292), (1, .int (i32 m)), (2, .int (1 : Int32)), (3, .int (1 : Int32)), (4, .int (1 : Int32))]) (st1 := [.ref 292]) 1 rfl rfl rfl ?_
    refine zGetR (r := 302) rfl rfl ⟨by decide, rfl, by decide, rfl⟩ ?_
    refine zPs (pc1 := 121) (l1 := [(5, .int (1 : Int32)), (0, .ref 292), (1, .int (i32 m)), (2, .int (1 : Int32)), (3, .int (1 : Int32)), (4, .int (1 : Int32))]) (st1 := [.int (-1 : Int32), .int (i32 m), .ref 302]) 2 rfl rfl rfl ?_
    refine zIas (n := m) rfl (icM (k := 302) (L := 30) rfl hm) ?_
    refine zPs (pc1 := 123) (l1 := [(5, .int (1 : Int32)), (0, .ref 292), (1, .int (i32 m)), (2, .int (1 : Int32)), (3, .int (1 : Int32)), (4, .int (1 : Int32))]) (st1 := [.int (1 : Int32)]) 1 rfl rfl rfl ?_
    refine zRz rfl rfl (Or.inr rfl) ?_
    exact k1 h1
  · refine kI ?_
    refine zPs (pc1 := 67) (l1 := [(5, .int (1 : Int32)), (0, .ref 292), (1, .int (i32 m)), (2, .int (1 : Int32)), (3, .int (1 : Int32)), (4, .int (1 : Int32))]) (st1 := [.int (3 : Int32), .ref 292]) 5 rfl rfl rfl ?_
    refine zPutI rfl rfl icThr rfl ?_
    refine zPs (pc1 := 71) (l1 := [(5, .int (1 : Int32)), (0, .ref 292), (1, .int (i32 m)), (2, .int (1 : Int32)), (3, .int (1 : Int32)), (4, .int (1 : Int32))]) (st1 := [.ref 292]) 1 rfl rfl rfl ?_
    refine zGetI (v := (3 : Int32)) rfl rfl icThr (by simp [up2]) ?_
    refine zPs (pc1 := 78) (l1 := [(5, .int (1 : Int32)), (0, .ref 292), (1, .int (i32 m)), (2, .int (1 : Int32)), (3, .int (1 : Int32)), (4, .int (1 : Int32))]) (st1 := [.int (0 : Int32)]) 2 rfl rfl rfl ?_
    refine zRz rfl rfl (Or.inl rfl) ?_
    exact k0 h2
theorem c_111n2 {z : Sg} {P : MO → Sg → Prop} {a b : Int32} (k : P (.inl (some (.int 0))) (thr z 1)) : Es true 111 [.ref 292, .int a, .int (2 : Int32), .int (0 : Int32), .int b] z P := by
  refine Es.of ?_
  refine zPs (pc1 := 67) (l1 := [(5, .int (0 : Int32)), (0, .ref 292), (1, .int a), (2, .int (2 : Int32)), (3, .int (0 : Int32)), (4, .int b)]) (st1 := [.int (1 : Int32), .ref 292]) 19 rfl rfl rfl ?_
  refine zPutI rfl rfl icThr rfl ?_
  refine zPs (pc1 := 71) (l1 := [(5, .int (0 : Int32)), (0, .ref 292), (1, .int a), (2, .int (2 : Int32)), (3, .int (0 : Int32)), (4, .int b)]) (st1 := [.ref 292]) 1 rfl rfl rfl ?_
  refine zGetI (v := (1 : Int32)) rfl rfl icThr (by simp [up2]) ?_
  refine zPs (pc1 := 78) (l1 := [(5, .int (0 : Int32)), (0, .ref 292), (1, .int a), (2, .int (2 : Int32)), (3, .int (0 : Int32)), (4, .int b)]) (st1 := [.int (0 : Int32)]) 2 rfl rfl rfl ?_
  refine zRz rfl rfl (Or.inl rfl) ?_
  exact k
theorem c_111b2 {z : Sg} {P : MO → Sg → Prop} {a : Int32} (k : P (.inl (some (.int 0))) (thr z 2)) : Es true 111 [.ref 292, .int a, .int (2 : Int32), .int (1 : Int32), .int (0 : Int32)] z P := by
  refine Es.of ?_
  refine zPs (pc1 := 67) (l1 := [(5, .int (0 : Int32)), (0, .ref 292), (1, .int a), (2, .int (2 : Int32)), (3, .int (1 : Int32)), (4, .int (0 : Int32))]) (st1 := [.int (2 : Int32), .ref 292]) 21 rfl rfl rfl ?_
  refine zPutI rfl rfl icThr rfl ?_
  refine zPs (pc1 := 71) (l1 := [(5, .int (0 : Int32)), (0, .ref 292), (1, .int a), (2, .int (2 : Int32)), (3, .int (1 : Int32)), (4, .int (0 : Int32))]) (st1 := [.ref 292]) 1 rfl rfl rfl ?_
  refine zGetI (v := (2 : Int32)) rfl rfl icThr (by simp [up2]) ?_
  refine zPs (pc1 := 78) (l1 := [(5, .int (0 : Int32)), (0, .ref 292), (1, .int a), (2, .int (2 : Int32)), (3, .int (1 : Int32)), (4, .int (0 : Int32))]) (st1 := [.int (0 : Int32)]) 2 rfl rfl rfl ?_
  refine zRz rfl rfl (Or.inl rfl) ?_
  exact k
theorem c_111o2 {z : Sg} {P : MO → Sg → Prop} {n m : Nat} (hl : n ≤ 60) (hn : z 292 19 = i32 n) (hm : m < 30) (k1 : quiet z n → P (.inl (some (.int 1))) (sTell z m 2)) (k0 : ¬ quiet z n → P (.inl (some (.int 0))) (thr z 2)) : Es true 111 [.ref 292, .int (i32 m), .int (2 : Int32), .int (1 : Int32), .int (1 : Int32)] z P := by
  refine Es.of ?_
  refine zPs (pc1 := 47) (l1 := [(5, .int (0 : Int32)), (0, .ref 292), (1, .int (i32 m)), (2, .int (2 : Int32)), (3, .int (1 : Int32)), (4, .int (1 : Int32))]) (st1 := [.ref 292, .ref 292]) 20 rfl rfl rfl ?_
  refine zCv (mj := 110) (k := 292) (n := 0) rfl rfl rfl rfl (by decide) rfl rfl rfl rfl rfl rfl ?_
  refine c_110 hl hn (fun h1 => ?_) (fun h2 => ?_)
  · refine kI ?_
    refine zPs (pc1 := 67) (l1 := [(5, .int (0 : Int32)), (0, .ref 292), (1, .int (i32 m)), (2, .int (2 : Int32)), (3, .int (1 : Int32)), (4, .int (1 : Int32))]) (st1 := [.int (0 : Int32), .ref 292]) 3 rfl rfl rfl ?_
    refine zPutI rfl rfl icThr rfl ?_
    refine zPs (pc1 := 71) (l1 := [(5, .int (0 : Int32)), (0, .ref 292), (1, .int (i32 m)), (2, .int (2 : Int32)), (3, .int (1 : Int32)), (4, .int (1 : Int32))]) (st1 := [.ref 292]) 1 rfl rfl rfl ?_
    refine zGetI (v := (0 : Int32)) rfl rfl icThr (by simp [up2]) ?_
    refine zPs (pc1 := 80) (l1 := [(5, .int (0 : Int32)), (0, .ref 292), (1, .int (i32 m)), (2, .int (2 : Int32)), (3, .int (1 : Int32)), (4, .int (1 : Int32))]) (st1 := [.ref 292]) 2 rfl rfl rfl ?_
    refine zGetR (r := 296) rfl rfl ⟨by decide, rfl, by decide, rfl⟩ ?_
    refine zPs (pc1 := 85) (l1 := [(5, .int (0 : Int32)), (0, .ref 292), (1, .int (i32 m)), (2, .int (2 : Int32)), (3, .int (1 : Int32)), (4, .int (1 : Int32))]) (st1 := [.int (2 : Int32), .int (i32 m), .ref 296]) 2 rfl rfl rfl ?_
    refine zIas (n := m) rfl (icM (k := 296) (L := 30) rfl hm) ?_
    refine zPs (pc1 := 87) (l1 := [(5, .int (0 : Int32)), (0, .ref 292), (1, .int (i32 m)), (2, .int (2 : Int32)), (3, .int (1 : Int32)), (4, .int (1 : Int32))]) (st1 := [.ref 292]) 1 rfl rfl rfl ?_
    refine zGetR (r := 306) rfl rfl ⟨by decide, rfl, by decide, rfl⟩ ?_
    refine zPs (pc1 := 92) (l1 := [(5, .int (0 : Int32)), (0, .ref 292), (1, .int (i32 m)), (2, .int (2 : Int32)), (3, .int (1 : Int32)), (4, .int (1 : Int32))]) (st1 := [.int (0 : Int32), .int (i32 m), .ref 306]) 2 rfl rfl rfl ?_
    refine zIas (n := m) rfl (icM (k := 306) (L := 30) rfl hm) ?_
    refine zPs (pc1 := 94) (l1 := [(5, .int (0 : Int32)), (0, .ref 292), (1, .int (i32 m)), (2, .int (2 : Int32)), (3, .int (1 : Int32)), (4, .int (1 : Int32))]) (st1 := [.ref 292]) 1 rfl rfl rfl ?_
    refine zGetR (r := 303) rfl rfl ⟨by decide, rfl, by decide, rfl⟩ ?_
    refine zPs (pc1 := 100) (l1 := [(5, .int (0 : Int32)), (0, .ref 292), (1, .int (i32 m)), (2, .int (2 : Int32)), (3, .int (1 : Int32)), (4, .int (1 : Int32))]) (st1 := [.int (10 : Int32), .int (i32 m), .ref 303]) 2 rfl rfl rfl ?_
    refine zIas (n := m) rfl (icM (k := 303) (L := 30) rfl hm) ?_
    refine zPs (pc1 := 102) (l1 := [(5, .int (0 : Int32)), (0, .ref 292), (1, .int (i32 m)), (2, .int (2 : Int32)), (3, .int (1 : Int32)), (4, .int (1 : Int32))]) (st1 := [.ref 292]) 1 rfl rfl rfl ?_
    refine zGetR (r := 304) rfl rfl ⟨by decide, rfl, by decide, rfl⟩ ?_
    refine zPs (pc1 := 107) (l1 := [(5, .int (0 : Int32)), (0, .ref 292), (1, .int (i32 m)), (2, .int (2 : Int32)), (3, .int (1 : Int32)), (4, .int (1 : Int32))]) (st1 := [.int (3 : Int32), .int (i32 m), .ref 304]) 2 rfl rfl rfl ?_
    refine zIas (n := m) rfl (icM (k := 304) (L := 30) rfl hm) ?_
    refine zPs (pc1 := 109) (l1 := [(5, .int (0 : Int32)), (0, .ref 292), (1, .int (i32 m)), (2, .int (2 : Int32)), (3, .int (1 : Int32)), (4, .int (1 : Int32))]) (st1 := [.ref 292]) 1 rfl rfl rfl ?_
    refine zGetR (r := 305) rfl rfl ⟨by decide, rfl, by decide, rfl⟩ ?_
    refine zPs (pc1 := 114) (l1 := [(5, .int (0 : Int32)), (0, .ref 292), (1, .int (i32 m)), (2, .int (2 : Int32)), (3, .int (1 : Int32)), (4, .int (1 : Int32))]) (st1 := [.int (2 : Int32), .int (i32 m), .ref 305]) 2 rfl rfl rfl ?_
    refine zIas (n := m) rfl (icM (k := 305) (L := 30) rfl hm) ?_
    refine zPs (pc1 := 116) (l1 := [(5, .int (0 : Int32)), (0, .ref 292), (1, .int (i32 m)), (2, .int (2 : Int32)), (3, .int (1 : Int32)), (4, .int (1 : Int32))]) (st1 := [.ref 292]) 1 rfl rfl rfl ?_
    refine zGetR (r := 302) rfl rfl ⟨by decide, rfl, by decide, rfl⟩ ?_
    refine zPs (pc1 := 121) (l1 := [(5, .int (0 : Int32)), (0, .ref 292), (1, .int (i32 m)), (2, .int (2 : Int32)), (3, .int (1 : Int32)), (4, .int (1 : Int32))]) (st1 := [.int (-1 : Int32), .int (i32 m), .ref 302]) 2 rfl rfl rfl ?_
    refine zIas (n := m) rfl (icM (k := 302) (L := 30) rfl hm) ?_
    refine zPs (pc1 := 123) (l1 := [(5, .int (0 : Int32)), (0, .ref 292), (1, .int (i32 m)), (2, .int (2 : Int32)), (3, .int (1 : Int32)), (4, .int (1 : Int32))]) (st1 := [.int (1 : Int32)]) 1 rfl rfl rfl ?_
    refine zRz rfl rfl (Or.inr rfl) ?_
    exact k1 h1
  · refine kI ?_
    refine zPs (pc1 := 67) (l1 := [(5, .int (0 : Int32)), (0, .ref 292), (1, .int (i32 m)), (2, .int (2 : Int32)), (3, .int (1 : Int32)), (4, .int (1 : Int32))]) (st1 := [.int (2 : Int32), .ref 292]) 4 rfl rfl rfl ?_
    refine zPutI rfl rfl icThr rfl ?_
    refine zPs (pc1 := 71) (l1 := [(5, .int (0 : Int32)), (0, .ref 292), (1, .int (i32 m)), (2, .int (2 : Int32)), (3, .int (1 : Int32)), (4, .int (1 : Int32))]) (st1 := [.ref 292]) 1 rfl rfl rfl ?_
    refine zGetI (v := (2 : Int32)) rfl rfl icThr (by simp [up2]) ?_
    refine zPs (pc1 := 78) (l1 := [(5, .int (0 : Int32)), (0, .ref 292), (1, .int (i32 m)), (2, .int (2 : Int32)), (3, .int (1 : Int32)), (4, .int (1 : Int32))]) (st1 := [.int (0 : Int32)]) 2 rfl rfl rfl ?_
    refine zRz rfl rfl (Or.inl rfl) ?_
    exact k0 h2
theorem c_111n3 {z : Sg} {P : MO → Sg → Prop} {a b : Int32} (k : P (.inl (some (.int 0))) (thr z 1)) : Es true 111 [.ref 292, .int a, .int (3 : Int32), .int (0 : Int32), .int b] z P := by
  refine Es.of ?_
  refine zPs (pc1 := 67) (l1 := [(5, .int (1 : Int32)), (0, .ref 292), (1, .int a), (2, .int (3 : Int32)), (3, .int (0 : Int32)), (4, .int b)]) (st1 := [.int (1 : Int32), .ref 292]) 14 rfl rfl rfl ?_
  refine zPutI rfl rfl icThr rfl ?_
  refine zPs (pc1 := 71) (l1 := [(5, .int (1 : Int32)), (0, .ref 292), (1, .int a), (2, .int (3 : Int32)), (3, .int (0 : Int32)), (4, .int b)]) (st1 := [.ref 292]) 1 rfl rfl rfl ?_
  refine zGetI (v := (1 : Int32)) rfl rfl icThr (by simp [up2]) ?_
  refine zPs (pc1 := 78) (l1 := [(5, .int (1 : Int32)), (0, .ref 292), (1, .int a), (2, .int (3 : Int32)), (3, .int (0 : Int32)), (4, .int b)]) (st1 := [.int (0 : Int32)]) 2 rfl rfl rfl ?_
  refine zRz rfl rfl (Or.inl rfl) ?_
  exact k
theorem c_111b3 {z : Sg} {P : MO → Sg → Prop} {a : Int32} (k : P (.inl (some (.int 0))) (thr z 2)) : Es true 111 [.ref 292, .int a, .int (3 : Int32), .int (1 : Int32), .int (0 : Int32)] z P := by
  refine Es.of ?_
  refine zPs (pc1 := 67) (l1 := [(5, .int (1 : Int32)), (0, .ref 292), (1, .int a), (2, .int (3 : Int32)), (3, .int (1 : Int32)), (4, .int (0 : Int32))]) (st1 := [.int (2 : Int32), .ref 292]) 16 rfl rfl rfl ?_
  refine zPutI rfl rfl icThr rfl ?_
  refine zPs (pc1 := 71) (l1 := [(5, .int (1 : Int32)), (0, .ref 292), (1, .int a), (2, .int (3 : Int32)), (3, .int (1 : Int32)), (4, .int (0 : Int32))]) (st1 := [.ref 292]) 1 rfl rfl rfl ?_
  refine zGetI (v := (2 : Int32)) rfl rfl icThr (by simp [up2]) ?_
  refine zPs (pc1 := 78) (l1 := [(5, .int (1 : Int32)), (0, .ref 292), (1, .int a), (2, .int (3 : Int32)), (3, .int (1 : Int32)), (4, .int (0 : Int32))]) (st1 := [.int (0 : Int32)]) 2 rfl rfl rfl ?_
  refine zRz rfl rfl (Or.inl rfl) ?_
  exact k
theorem c_111o3 {z : Sg} {P : MO → Sg → Prop} {n m : Nat} (hl : n ≤ 60) (hn : z 292 19 = i32 n) (hm : m < 30) (k1 : quiet z n → P (.inl (some (.int 1))) (sTell z m 3)) (k0 : ¬ quiet z n → P (.inl (some (.int 0))) (thr z 3)) : Es true 111 [.ref 292, .int (i32 m), .int (3 : Int32), .int (1 : Int32), .int (1 : Int32)] z P := by
  refine Es.of ?_
  refine zPs (pc1 := 47) (l1 := [(5, .int (1 : Int32)), (0, .ref 292), (1, .int (i32 m)), (2, .int (3 : Int32)), (3, .int (1 : Int32)), (4, .int (1 : Int32))]) (st1 := [.ref 292, .ref 292]) 15 rfl rfl rfl ?_
  refine zCv (mj := 110) (k := 292) (n := 0) rfl rfl rfl rfl (by decide) rfl rfl rfl rfl rfl rfl ?_
  refine c_110 hl hn (fun h1 => ?_) (fun h2 => ?_)
  · refine kI ?_
    refine zPs (pc1 := 67) (l1 := [(5, .int (1 : Int32)), (0, .ref 292), (1, .int (i32 m)), (2, .int (3 : Int32)), (3, .int (1 : Int32)), (4, .int (1 : Int32))]) (st1 := [.int (0 : Int32), .ref 292]) 3 rfl rfl rfl ?_
    refine zPutI rfl rfl icThr rfl ?_
    refine zPs (pc1 := 71) (l1 := [(5, .int (1 : Int32)), (0, .ref 292), (1, .int (i32 m)), (2, .int (3 : Int32)), (3, .int (1 : Int32)), (4, .int (1 : Int32))]) (st1 := [.ref 292]) 1 rfl rfl rfl ?_
    refine zGetI (v := (0 : Int32)) rfl rfl icThr (by simp [up2]) ?_
    refine zPs (pc1 := 80) (l1 := [(5, .int (1 : Int32)), (0, .ref 292), (1, .int (i32 m)), (2, .int (3 : Int32)), (3, .int (1 : Int32)), (4, .int (1 : Int32))]) (st1 := [.ref 292]) 2 rfl rfl rfl ?_
    refine zGetR (r := 296) rfl rfl ⟨by decide, rfl, by decide, rfl⟩ ?_
    refine zPs (pc1 := 85) (l1 := [(5, .int (1 : Int32)), (0, .ref 292), (1, .int (i32 m)), (2, .int (3 : Int32)), (3, .int (1 : Int32)), (4, .int (1 : Int32))]) (st1 := [.int (3 : Int32), .int (i32 m), .ref 296]) 2 rfl rfl rfl ?_
    refine zIas (n := m) rfl (icM (k := 296) (L := 30) rfl hm) ?_
    refine zPs (pc1 := 87) (l1 := [(5, .int (1 : Int32)), (0, .ref 292), (1, .int (i32 m)), (2, .int (3 : Int32)), (3, .int (1 : Int32)), (4, .int (1 : Int32))]) (st1 := [.ref 292]) 1 rfl rfl rfl ?_
    refine zGetR (r := 306) rfl rfl ⟨by decide, rfl, by decide, rfl⟩ ?_
    refine zPs (pc1 := 92) (l1 := [(5, .int (1 : Int32)), (0, .ref 292), (1, .int (i32 m)), (2, .int (3 : Int32)), (3, .int (1 : Int32)), (4, .int (1 : Int32))]) (st1 := [.int (0 : Int32), .int (i32 m), .ref 306]) 2 rfl rfl rfl ?_
    refine zIas (n := m) rfl (icM (k := 306) (L := 30) rfl hm) ?_
    refine zPs (pc1 := 94) (l1 := [(5, .int (1 : Int32)), (0, .ref 292), (1, .int (i32 m)), (2, .int (3 : Int32)), (3, .int (1 : Int32)), (4, .int (1 : Int32))]) (st1 := [.ref 292]) 1 rfl rfl rfl ?_
    refine zGetR (r := 303) rfl rfl ⟨by decide, rfl, by decide, rfl⟩ ?_
    refine zPs (pc1 := 100) (l1 := [(5, .int (1 : Int32)), (0, .ref 292), (1, .int (i32 m)), (2, .int (3 : Int32)), (3, .int (1 : Int32)), (4, .int (1 : Int32))]) (st1 := [.int (10 : Int32), .int (i32 m), .ref 303]) 2 rfl rfl rfl ?_
    refine zIas (n := m) rfl (icM (k := 303) (L := 30) rfl hm) ?_
    refine zPs (pc1 := 102) (l1 := [(5, .int (1 : Int32)), (0, .ref 292), (1, .int (i32 m)), (2, .int (3 : Int32)), (3, .int (1 : Int32)), (4, .int (1 : Int32))]) (st1 := [.ref 292]) 1 rfl rfl rfl ?_
    refine zGetR (r := 304) rfl rfl ⟨by decide, rfl, by decide, rfl⟩ ?_
    refine zPs (pc1 := 107) (l1 := [(5, .int (1 : Int32)), (0, .ref 292), (1, .int (i32 m)), (2, .int (3 : Int32)), (3, .int (1 : Int32)), (4, .int (1 : Int32))]) (st1 := [.int (3 : Int32), .int (i32 m), .ref 304]) 2 rfl rfl rfl ?_
    refine zIas (n := m) rfl (icM (k := 304) (L := 30) rfl hm) ?_
    refine zPs (pc1 := 109) (l1 := [(5, .int (1 : Int32)), (0, .ref 292), (1, .int (i32 m)), (2, .int (3 : Int32)), (3, .int (1 : Int32)), (4, .int (1 : Int32))]) (st1 := [.ref 292]) 1 rfl rfl rfl ?_
    refine zGetR (r := 305) rfl rfl ⟨by decide, rfl, by decide, rfl⟩ ?_
    refine zPs (pc1 := 114) (l1 := [(5, .int (1 : Int32)), (0, .ref 292), (1, .int (i32 m)), (2, .int (3 : Int32)), (3, .int (1 : Int32)), (4, .int (1 : Int32))]) (st1 := [.int (2 : Int32), .int (i32 m), .ref 305]) 2 rfl rfl rfl ?_
    refine zIas (n := m) rfl (icM (k := 305) (L := 30) rfl hm) ?_
    refine zPs (pc1 := 116) (l1 := [(5, .int (1 : Int32)), (0, .ref 292), (1, .int (i32 m)), (2, .int (3 : Int32)), (3, .int (1 : Int32)), (4, .int (1 : Int32))]) (st1 := [.ref 292]) 1 rfl rfl rfl ?_
    refine zGetR (r := 302) rfl rfl ⟨by decide, rfl, by decide, rfl⟩ ?_
    refine zPs (pc1 := 121) (l1 := [(5, .int (1 : Int32)), (0, .ref 292), (1, .int (i32 m)), (2, .int (3 : Int32)), (3, .int (1 : Int32)), (4, .int (1 : Int32))]) (st1 := [.int (-1 : Int32), .int (i32 m), .ref 302]) 2 rfl rfl rfl ?_
    refine zIas (n := m) rfl (icM (k := 302) (L := 30) rfl hm) ?_
    refine zPs (pc1 := 123) (l1 := [(5, .int (1 : Int32)), (0, .ref 292), (1, .int (i32 m)), (2, .int (3 : Int32)), (3, .int (1 : Int32)), (4, .int (1 : Int32))]) (st1 := [.int (1 : Int32)]) 1 rfl rfl rfl ?_
    refine zRz rfl rfl (Or.inr rfl) ?_
    exact k1 h1
  · refine kI ?_
    refine zPs (pc1 := 67) (l1 := [(5, .int (1 : Int32)), (0, .ref 292), (1, .int (i32 m)), (2, .int (3 : Int32)), (3, .int (1 : Int32)), (4, .int (1 : Int32))]) (st1 := [.int (3 : Int32), .ref 292]) 5 rfl rfl rfl ?_
    refine zPutI rfl rfl icThr rfl ?_
    refine zPs (pc1 := 71) (l1 := [(5, .int (1 : Int32)), (0, .ref 292), (1, .int (i32 m)), (2, .int (3 : Int32)), (3, .int (1 : Int32)), (4, .int (1 : Int32))]) (st1 := [.ref 292]) 1 rfl rfl rfl ?_
    refine zGetI (v := (3 : Int32)) rfl rfl icThr (by simp [up2]) ?_
    refine zPs (pc1 := 78) (l1 := [(5, .int (1 : Int32)), (0, .ref 292), (1, .int (i32 m)), (2, .int (3 : Int32)), (3, .int (1 : Int32)), (4, .int (1 : Int32))]) (st1 := [.int (0 : Int32)]) 2 rfl rfl rfl ?_
    refine zRz rfl rfl (Or.inl rfl) ?_
    exact k0 h2
theorem c_111n4 {z : Sg} {P : MO → Sg → Prop} {a b : Int32} (k : P (.inl (some (.int 0))) (thr z 1)) : Es true 111 [.ref 292, .int a, .int (4 : Int32), .int (0 : Int32), .int b] z P := by
  refine Es.of ?_
  refine zPs (pc1 := 67) (l1 := [(5, .int (1 : Int32)), (0, .ref 292), (1, .int a), (2, .int (4 : Int32)), (3, .int (0 : Int32)), (4, .int b)]) (st1 := [.int (1 : Int32), .ref 292]) 17 rfl rfl rfl ?_
  refine zPutI rfl rfl icThr rfl ?_
  refine zPs (pc1 := 71) (l1 := [(5, .int (1 : Int32)), (0, .ref 292), (1, .int a), (2, .int (4 : Int32)), (3, .int (0 : Int32)), (4, .int b)]) (st1 := [.ref 292]) 1 rfl rfl rfl ?_
  refine zGetI (v := (1 : Int32)) rfl rfl icThr (by simp [up2]) ?_
  refine zPs (pc1 := 78) (l1 := [(5, .int (1 : Int32)), (0, .ref 292), (1, .int a), (2, .int (4 : Int32)), (3, .int (0 : Int32)), (4, .int b)]) (st1 := [.int (0 : Int32)]) 2 rfl rfl rfl ?_
  refine zRz rfl rfl (Or.inl rfl) ?_
  exact k
theorem c_111b4 {z : Sg} {P : MO → Sg → Prop} {a : Int32} (k : P (.inl (some (.int 0))) (thr z 2)) : Es true 111 [.ref 292, .int a, .int (4 : Int32), .int (1 : Int32), .int (0 : Int32)] z P := by
  refine Es.of ?_
  refine zPs (pc1 := 67) (l1 := [(5, .int (1 : Int32)), (0, .ref 292), (1, .int a), (2, .int (4 : Int32)), (3, .int (1 : Int32)), (4, .int (0 : Int32))]) (st1 := [.int (2 : Int32), .ref 292]) 19 rfl rfl rfl ?_
  refine zPutI rfl rfl icThr rfl ?_
  refine zPs (pc1 := 71) (l1 := [(5, .int (1 : Int32)), (0, .ref 292), (1, .int a), (2, .int (4 : Int32)), (3, .int (1 : Int32)), (4, .int (0 : Int32))]) (st1 := [.ref 292]) 1 rfl rfl rfl ?_
  refine zGetI (v := (2 : Int32)) rfl rfl icThr (by simp [up2]) ?_
  refine zPs (pc1 := 78) (l1 := [(5, .int (1 : Int32)), (0, .ref 292), (1, .int a), (2, .int (4 : Int32)), (3, .int (1 : Int32)), (4, .int (0 : Int32))]) (st1 := [.int (0 : Int32)]) 2 rfl rfl rfl ?_
  refine zRz rfl rfl (Or.inl rfl) ?_
  exact k
theorem c_111o4 {z : Sg} {P : MO → Sg → Prop} {n m : Nat} (hl : n ≤ 60) (hn : z 292 19 = i32 n) (hm : m < 30) (k1 : quiet z n → P (.inl (some (.int 1))) (sTell z m 4)) (k0 : ¬ quiet z n → P (.inl (some (.int 0))) (thr z 3)) : Es true 111 [.ref 292, .int (i32 m), .int (4 : Int32), .int (1 : Int32), .int (1 : Int32)] z P := by
  refine Es.of ?_
  refine zPs (pc1 := 47) (l1 := [(5, .int (1 : Int32)), (0, .ref 292), (1, .int (i32 m)), (2, .int (4 : Int32)), (3, .int (1 : Int32)), (4, .int (1 : Int32))]) (st1 := [.ref 292, .ref 292]) 18 rfl rfl rfl ?_
  refine zCv (mj := 110) (k := 292) (n := 0) rfl rfl rfl rfl (by decide) rfl rfl rfl rfl rfl rfl ?_
  refine c_110 hl hn (fun h1 => ?_) (fun h2 => ?_)
  · refine kI ?_
    refine zPs (pc1 := 67) (l1 := [(5, .int (1 : Int32)), (0, .ref 292), (1, .int (i32 m)), (2, .int (4 : Int32)), (3, .int (1 : Int32)), (4, .int (1 : Int32))]) (st1 := [.int (0 : Int32), .ref 292]) 3 rfl rfl rfl ?_
    refine zPutI rfl rfl icThr rfl ?_
    refine zPs (pc1 := 71) (l1 := [(5, .int (1 : Int32)), (0, .ref 292), (1, .int (i32 m)), (2, .int (4 : Int32)), (3, .int (1 : Int32)), (4, .int (1 : Int32))]) (st1 := [.ref 292]) 1 rfl rfl rfl ?_
    refine zGetI (v := (0 : Int32)) rfl rfl icThr (by simp [up2]) ?_
    refine zPs (pc1 := 80) (l1 := [(5, .int (1 : Int32)), (0, .ref 292), (1, .int (i32 m)), (2, .int (4 : Int32)), (3, .int (1 : Int32)), (4, .int (1 : Int32))]) (st1 := [.ref 292]) 2 rfl rfl rfl ?_
    refine zGetR (r := 296) rfl rfl ⟨by decide, rfl, by decide, rfl⟩ ?_
    refine zPs (pc1 := 85) (l1 := [(5, .int (1 : Int32)), (0, .ref 292), (1, .int (i32 m)), (2, .int (4 : Int32)), (3, .int (1 : Int32)), (4, .int (1 : Int32))]) (st1 := [.int (4 : Int32), .int (i32 m), .ref 296]) 2 rfl rfl rfl ?_
    refine zIas (n := m) rfl (icM (k := 296) (L := 30) rfl hm) ?_
    refine zPs (pc1 := 87) (l1 := [(5, .int (1 : Int32)), (0, .ref 292), (1, .int (i32 m)), (2, .int (4 : Int32)), (3, .int (1 : Int32)), (4, .int (1 : Int32))]) (st1 := [.ref 292]) 1 rfl rfl rfl ?_
    refine zGetR (r := 306) rfl rfl ⟨by decide, rfl, by decide, rfl⟩ ?_
    refine zPs (pc1 := 92) (l1 := [(5, .int (1 : Int32)), (0, .ref 292), (1, .int (i32 m)), (2, .int (4 : Int32)), (3, .int (1 : Int32)), (4, .int (1 : Int32))]) (st1 := [.int (0 : Int32), .int (i32 m), .ref 306]) 2 rfl rfl rfl ?_
    refine zIas (n := m) rfl (icM (k := 306) (L := 30) rfl hm) ?_
    refine zPs (pc1 := 94) (l1 := [(5, .int (1 : Int32)), (0, .ref 292), (1, .int (i32 m)), (2, .int (4 : Int32)), (3, .int (1 : Int32)), (4, .int (1 : Int32))]) (st1 := [.ref 292]) 1 rfl rfl rfl ?_
    refine zGetR (r := 303) rfl rfl ⟨by decide, rfl, by decide, rfl⟩ ?_
    refine zPs (pc1 := 100) (l1 := [(5, .int (1 : Int32)), (0, .ref 292), (1, .int (i32 m)), (2, .int (4 : Int32)), (3, .int (1 : Int32)), (4, .int (1 : Int32))]) (st1 := [.int (10 : Int32), .int (i32 m), .ref 303]) 2 rfl rfl rfl ?_
    refine zIas (n := m) rfl (icM (k := 303) (L := 30) rfl hm) ?_
    refine zPs (pc1 := 102) (l1 := [(5, .int (1 : Int32)), (0, .ref 292), (1, .int (i32 m)), (2, .int (4 : Int32)), (3, .int (1 : Int32)), (4, .int (1 : Int32))]) (st1 := [.ref 292]) 1 rfl rfl rfl ?_
    refine zGetR (r := 304) rfl rfl ⟨by decide, rfl, by decide, rfl⟩ ?_
    refine zPs (pc1 := 107) (l1 := [(5, .int (1 : Int32)), (0, .ref 292), (1, .int (i32 m)), (2, .int (4 : Int32)), (3, .int (1 : Int32)), (4, .int (1 : Int32))]) (st1 := [.int (3 : Int32), .int (i32 m), .ref 304]) 2 rfl rfl rfl ?_
    refine zIas (n := m) rfl (icM (k := 304) (L := 30) rfl hm) ?_
    refine zPs (pc1 := 109) (l1 := [(5, .int (1 : Int32)), (0, .ref 292), (1, .int (i32 m)), (2, .int (4 : Int32)), (3, .int (1 : Int32)), (4, .int (1 : Int32))]) (st1 := [.ref 292]) 1 rfl rfl rfl ?_
    refine zGetR (r := 305) rfl rfl ⟨by decide, rfl, by decide, rfl⟩ ?_
    refine zPs (pc1 := 114) (l1 := [(5, .int (1 : Int32)), (0, .ref 292), (1, .int (i32 m)), (2, .int (4 : Int32)), (3, .int (1 : Int32)), (4, .int (1 : Int32))]) (st1 := [.int (2 : Int32), .int (i32 m), .ref 305]) 2 rfl rfl rfl ?_
    refine zIas (n := m) rfl (icM (k := 305) (L := 30) rfl hm) ?_
    refine zPs (pc1 := 116) (l1 := [(5, .int (1 : Int32)), (0, .ref 292), (1, .int (i32 m)), (2, .int (4 : Int32)), (3, .int (1 : Int32)), (4, .int (1 : Int32))]) (st1 := [.ref 292]) 1 rfl rfl rfl ?_
    refine zGetR (r := 302) rfl rfl ⟨by decide, rfl, by decide, rfl⟩ ?_
    refine zPs (pc1 := 121) (l1 := [(5, .int (1 : Int32)), (0, .ref 292), (1, .int (i32 m)), (2, .int (4 : Int32)), (3, .int (1 : Int32)), (4, .int (1 : Int32))]) (st1 := [.int (-1 : Int32), .int (i32 m), .ref 302]) 2 rfl rfl rfl ?_
    refine zIas (n := m) rfl (icM (k := 302) (L := 30) rfl hm) ?_
    refine zPs (pc1 := 123) (l1 := [(5, .int (1 : Int32)), (0, .ref 292), (1, .int (i32 m)), (2, .int (4 : Int32)), (3, .int (1 : Int32)), (4, .int (1 : Int32))]) (st1 := [.int (1 : Int32)]) 1 rfl rfl rfl ?_
    refine zRz rfl rfl (Or.inr rfl) ?_
    exact k1 h1
  · refine kI ?_
    refine zPs (pc1 := 67) (l1 := [(5, .int (1 : Int32)), (0, .ref 292), (1, .int (i32 m)), (2, .int (4 : Int32)), (3, .int (1 : Int32)), (4, .int (1 : Int32))]) (st1 := [.int (3 : Int32), .ref 292]) 5 rfl rfl rfl ?_
    refine zPutI rfl rfl icThr rfl ?_
    refine zPs (pc1 := 71) (l1 := [(5, .int (1 : Int32)), (0, .ref 292), (1, .int (i32 m)), (2, .int (4 : Int32)), (3, .int (1 : Int32)), (4, .int (1 : Int32))]) (st1 := [.ref 292]) 1 rfl rfl rfl ?_
    refine zGetI (v := (3 : Int32)) rfl rfl icThr (by simp [up2]) ?_
    refine zPs (pc1 := 78) (l1 := [(5, .int (1 : Int32)), (0, .ref 292), (1, .int (i32 m)), (2, .int (4 : Int32)), (3, .int (1 : Int32)), (4, .int (1 : Int32))]) (st1 := [.int (0 : Int32)]) 2 rfl rfl rfl ?_
    refine zRz rfl rfl (Or.inl rfl) ?_
    exact k0 h2
theorem c_111n5 {z : Sg} {P : MO → Sg → Prop} {a b : Int32} (k : P (.inl (some (.int 0))) (thr z 1)) : Es true 111 [.ref 292, .int a, .int (5 : Int32), .int (0 : Int32), .int b] z P := by
  refine Es.of ?_
  refine zPs (pc1 := 67) (l1 := [(5, .int (0 : Int32)), (0, .ref 292), (1, .int a), (2, .int (5 : Int32)), (3, .int (0 : Int32)), (4, .int b)]) (st1 := [.int (1 : Int32), .ref 292]) 19 rfl rfl rfl ?_
  refine zPutI rfl rfl icThr rfl ?_
  refine zPs (pc1 := 71) (l1 := [(5, .int (0 : Int32)), (0, .ref 292), (1, .int a), (2, .int (5 : Int32)), (3, .int (0 : Int32)), (4, .int b)]) (st1 := [.ref 292]) 1 rfl rfl rfl ?_
  refine zGetI (v := (1 : Int32)) rfl rfl icThr (by simp [up2]) ?_
  refine zPs (pc1 := 78) (l1 := [(5, .int (0 : Int32)), (0, .ref 292), (1, .int a), (2, .int (5 : Int32)), (3, .int (0 : Int32)), (4, .int b)]) (st1 := [.int (0 : Int32)]) 2 rfl rfl rfl ?_
  refine zRz rfl rfl (Or.inl rfl) ?_
  exact k
theorem c_111b5 {z : Sg} {P : MO → Sg → Prop} {a : Int32} (k : P (.inl (some (.int 0))) (thr z 2)) : Es true 111 [.ref 292, .int a, .int (5 : Int32), .int (1 : Int32), .int (0 : Int32)] z P := by
  refine Es.of ?_
  refine zPs (pc1 := 67) (l1 := [(5, .int (0 : Int32)), (0, .ref 292), (1, .int a), (2, .int (5 : Int32)), (3, .int (1 : Int32)), (4, .int (0 : Int32))]) (st1 := [.int (2 : Int32), .ref 292]) 21 rfl rfl rfl ?_
  refine zPutI rfl rfl icThr rfl ?_
  refine zPs (pc1 := 71) (l1 := [(5, .int (0 : Int32)), (0, .ref 292), (1, .int a), (2, .int (5 : Int32)), (3, .int (1 : Int32)), (4, .int (0 : Int32))]) (st1 := [.ref 292]) 1 rfl rfl rfl ?_
  refine zGetI (v := (2 : Int32)) rfl rfl icThr (by simp [up2]) ?_
  refine zPs (pc1 := 78) (l1 := [(5, .int (0 : Int32)), (0, .ref 292), (1, .int a), (2, .int (5 : Int32)), (3, .int (1 : Int32)), (4, .int (0 : Int32))]) (st1 := [.int (0 : Int32)]) 2 rfl rfl rfl ?_
  refine zRz rfl rfl (Or.inl rfl) ?_
  exact k
theorem c_111o5 {z : Sg} {P : MO → Sg → Prop} {n m : Nat} (hl : n ≤ 60) (hn : z 292 19 = i32 n) (hm : m < 30) (k1 : quiet z n → P (.inl (some (.int 1))) (sTell z m 5)) (k0 : ¬ quiet z n → P (.inl (some (.int 0))) (thr z 2)) : Es true 111 [.ref 292, .int (i32 m), .int (5 : Int32), .int (1 : Int32), .int (1 : Int32)] z P := by
  refine Es.of ?_
  refine zPs (pc1 := 47) (l1 := [(5, .int (0 : Int32)), (0, .ref 292), (1, .int (i32 m)), (2, .int (5 : Int32)), (3, .int (1 : Int32)), (4, .int (1 : Int32))]) (st1 := [.ref 292, .ref 292]) 20 rfl rfl rfl ?_
  refine zCv (mj := 110) (k := 292) (n := 0) rfl rfl rfl rfl (by decide) rfl rfl rfl rfl rfl rfl ?_
  refine c_110 hl hn (fun h1 => ?_) (fun h2 => ?_)
  · refine kI ?_
    refine zPs (pc1 := 67) (l1 := [(5, .int (0 : Int32)), (0, .ref 292), (1, .int (i32 m)), (2, .int (5 : Int32)), (3, .int (1 : Int32)), (4, .int (1 : Int32))]) (st1 := [.int (0 : Int32), .ref 292]) 3 rfl rfl rfl ?_
    refine zPutI rfl rfl icThr rfl ?_
    refine zPs (pc1 := 71) (l1 := [(5, .int (0 : Int32)), (0, .ref 292), (1, .int (i32 m)), (2, .int (5 : Int32)), (3, .int (1 : Int32)), (4, .int (1 : Int32))]) (st1 := [.ref 292]) 1 rfl rfl rfl ?_
    refine zGetI (v := (0 : Int32)) rfl rfl icThr (by simp [up2]) ?_
    refine zPs (pc1 := 80) (l1 := [(5, .int (0 : Int32)), (0, .ref 292), (1, .int (i32 m)), (2, .int (5 : Int32)), (3, .int (1 : Int32)), (4, .int (1 : Int32))]) (st1 := [.ref 292]) 2 rfl rfl rfl ?_
    refine zGetR (r := 296) rfl rfl ⟨by decide, rfl, by decide, rfl⟩ ?_
    refine zPs (pc1 := 85) (l1 := [(5, .int (0 : Int32)), (0, .ref 292), (1, .int (i32 m)), (2, .int (5 : Int32)), (3, .int (1 : Int32)), (4, .int (1 : Int32))]) (st1 := [.int (5 : Int32), .int (i32 m), .ref 296]) 2 rfl rfl rfl ?_
    refine zIas (n := m) rfl (icM (k := 296) (L := 30) rfl hm) ?_
    refine zPs (pc1 := 87) (l1 := [(5, .int (0 : Int32)), (0, .ref 292), (1, .int (i32 m)), (2, .int (5 : Int32)), (3, .int (1 : Int32)), (4, .int (1 : Int32))]) (st1 := [.ref 292]) 1 rfl rfl rfl ?_
    refine zGetR (r := 306) rfl rfl ⟨by decide, rfl, by decide, rfl⟩ ?_
    refine zPs (pc1 := 92) (l1 := [(5, .int (0 : Int32)), (0, .ref 292), (1, .int (i32 m)), (2, .int (5 : Int32)), (3, .int (1 : Int32)), (4, .int (1 : Int32))]) (st1 := [.int (0 : Int32), .int (i32 m), .ref 306]) 2 rfl rfl rfl ?_
    refine zIas (n := m) rfl (icM (k := 306) (L := 30) rfl hm) ?_
    refine zPs (pc1 := 94) (l1 := [(5, .int (0 : Int32)), (0, .ref 292), (1, .int (i32 m)), (2, .int (5 : Int32)), (3, .int (1 : Int32)), (4, .int (1 : Int32))]) (st1 := [.ref 292]) 1 rfl rfl rfl ?_
    refine zGetR (r := 303) rfl rfl ⟨by decide, rfl, by decide, rfl⟩ ?_
    refine zPs (pc1 := 100) (l1 := [(5, .int (0 : Int32)), (0, .ref 292), (1, .int (i32 m)), (2, .int (5 : Int32)), (3, .int (1 : Int32)), (4, .int (1 : Int32))]) (st1 := [.int (10 : Int32), .int (i32 m), .ref 303]) 2 rfl rfl rfl ?_
    refine zIas (n := m) rfl (icM (k := 303) (L := 30) rfl hm) ?_
    refine zPs (pc1 := 102) (l1 := [(5, .int (0 : Int32)), (0, .ref 292), (1, .int (i32 m)), (2, .int (5 : Int32)), (3, .int (1 : Int32)), (4, .int (1 : Int32))]) (st1 := [.ref 292]) 1 rfl rfl rfl ?_
    refine zGetR (r := 304) rfl rfl ⟨by decide, rfl, by decide, rfl⟩ ?_
    refine zPs (pc1 := 107) (l1 := [(5, .int (0 : Int32)), (0, .ref 292), (1, .int (i32 m)), (2, .int (5 : Int32)), (3, .int (1 : Int32)), (4, .int (1 : Int32))]) (st1 := [.int (3 : Int32), .int (i32 m), .ref 304]) 2 rfl rfl rfl ?_
    refine zIas (n := m) rfl (icM (k := 304) (L := 30) rfl hm) ?_
    refine zPs (pc1 := 109) (l1 := [(5, .int (0 : Int32)), (0, .ref 292), (1, .int (i32 m)), (2, .int (5 : Int32)), (3, .int (1 : Int32)), (4, .int (1 : Int32))]) (st1 := [.ref 292]) 1 rfl rfl rfl ?_
    refine zGetR (r := 305) rfl rfl ⟨by decide, rfl, by decide, rfl⟩ ?_
    refine zPs (pc1 := 114) (l1 := [(5, .int (0 : Int32)), (0, .ref 292), (1, .int (i32 m)), (2, .int (5 : Int32)), (3, .int (1 : Int32)), (4, .int (1 : Int32))]) (st1 := [.int (2 : Int32), .int (i32 m), .ref 305]) 2 rfl rfl rfl ?_
    refine zIas (n := m) rfl (icM (k := 305) (L := 30) rfl hm) ?_
    refine zPs (pc1 := 116) (l1 := [(5, .int (0 : Int32)), (0, .ref 292), (1, .int (i32 m)), (2, .int (5 : Int32)), (3, .int (1 : Int32)), (4, .int (1 : Int32))]) (st1 := [.ref 292]) 1 rfl rfl rfl ?_
    refine zGetR (r := 302) rfl rfl ⟨by decide, rfl, by decide, rfl⟩ ?_
    refine zPs (pc1 := 121) (l1 := [(5, .int (0 : Int32)), (0, .ref 292), (1, .int (i32 m)), (2, .int (5 : Int32)), (3, .int (1 : Int32)), (4, .int (1 : Int32))]) (st1 := [.int (-1 : Int32), .int (i32 m), .ref 302]) 2 rfl rfl rfl ?_
    refine zIas (n := m) rfl (icM (k := 302) (L := 30) rfl hm) ?_
    refine zPs (pc1 := 123) (l1 := [(5, .int (0 : Int32)), (0, .ref 292), (1, .int (i32 m)), (2, .int (5 : Int32)), (3, .int (1 : Int32)), (4, .int (1 : Int32))]) (st1 := [.int (1 : Int32)]) 1 rfl rfl rfl ?_
    refine zRz rfl rfl (Or.inr rfl) ?_
    exact k1 h1
  · refine kI ?_
    refine zPs (pc1 := 67) (l1 := [(5, .int (0 : Int32)), (0, .ref 292), (1, .int (i32 m)), (2, .int (5 : Int32)), (3, .int (1 : Int32)), (4, .int (1 : Int32))]) (st1 := [.int (2 : Int32), .ref 292]) 4 rfl rfl rfl ?_
    refine zPutI rfl rfl icThr rfl ?_
    refine zPs (pc1 := 71) (l1 := [(5, .int (0 : Int32)), (0, .ref 292), (1, .int (i32 m)), (2, .int (5 : Int32)), (3, .int (1 : Int32)), (4, .int (1 : Int32))]) (st1 := [.ref 292]) 1 rfl rfl rfl ?_
    refine zGetI (v := (2 : Int32)) rfl rfl icThr (by simp [up2]) ?_
    refine zPs (pc1 := 78) (l1 := [(5, .int (0 : Int32)), (0, .ref 292), (1, .int (i32 m)), (2, .int (5 : Int32)), (3, .int (1 : Int32)), (4, .int (1 : Int32))]) (st1 := [.int (0 : Int32)]) 2 rfl rfl rfl ?_
    refine zRz rfl rfl (Or.inl rfl) ?_
    exact k0 h2
theorem c_111n6 {z : Sg} {P : MO → Sg → Prop} {a b : Int32} (k : P (.inl (some (.int 0))) (thr z 1)) : Es true 111 [.ref 292, .int a, .int (6 : Int32), .int (0 : Int32), .int b] z P := by
  refine Es.of ?_
  refine zPs (pc1 := 67) (l1 := [(5, .int (0 : Int32)), (0, .ref 292), (1, .int a), (2, .int (6 : Int32)), (3, .int (0 : Int32)), (4, .int b)]) (st1 := [.int (1 : Int32), .ref 292]) 19 rfl rfl rfl ?_
  refine zPutI rfl rfl icThr rfl ?_
  refine zPs (pc1 := 71) (l1 := [(5, .int (0 : Int32)), (0, .ref 292), (1, .int a), (2, .int (6 : Int32)), (3, .int (0 : Int32)), (4, .int b)]) (st1 := [.ref 292]) 1 rfl rfl rfl ?_
  refine zGetI (v := (1 : Int32)) rfl rfl icThr (by simp [up2]) ?_
  refine zPs (pc1 := 78) (l1 := [(5, .int (0 : Int32)), (0, .ref 292), (1, .int a), (2, .int (6 : Int32)), (3, .int (0 : Int32)), (4, .int b)]) (st1 := [.int (0 : Int32)]) 2 rfl rfl rfl ?_
  refine zRz rfl rfl (Or.inl rfl) ?_
  exact k
theorem c_111b6 {z : Sg} {P : MO → Sg → Prop} {a : Int32} (k : P (.inl (some (.int 0))) (thr z 2)) : Es true 111 [.ref 292, .int a, .int (6 : Int32), .int (1 : Int32), .int (0 : Int32)] z P := by
  refine Es.of ?_
  refine zPs (pc1 := 67) (l1 := [(5, .int (0 : Int32)), (0, .ref 292), (1, .int a), (2, .int (6 : Int32)), (3, .int (1 : Int32)), (4, .int (0 : Int32))]) (st1 := [.int (2 : Int32), .ref 292]) 21 rfl rfl rfl ?_
  refine zPutI rfl rfl icThr rfl ?_
  refine zPs (pc1 := 71) (l1 := [(5, .int (0 : Int32)), (0, .ref 292), (1, .int a), (2, .int (6 : Int32)), (3, .int (1 : Int32)), (4, .int (0 : Int32))]) (st1 := [.ref 292]) 1 rfl rfl rfl ?_
  refine zGetI (v := (2 : Int32)) rfl rfl icThr (by simp [up2]) ?_
  refine zPs (pc1 := 78) (l1 := [(5, .int (0 : Int32)), (0, .ref 292), (1, .int a), (2, .int (6 : Int32)), (3, .int (1 : Int32)), (4, .int (0 : Int32))]) (st1 := [.int (0 : Int32)]) 2 rfl rfl rfl ?_
  refine zRz rfl rfl (Or.inl rfl) ?_
  exact k
theorem c_111o6 {z : Sg} {P : MO → Sg → Prop} {n m : Nat} (hl : n ≤ 60) (hn : z 292 19 = i32 n) (hm : m < 30) (k1 : quiet z n → P (.inl (some (.int 1))) (sTell z m 6)) (k0 : ¬ quiet z n → P (.inl (some (.int 0))) (thr z 2)) : Es true 111 [.ref 292, .int (i32 m), .int (6 : Int32), .int (1 : Int32), .int (1 : Int32)] z P := by
  refine Es.of ?_
  refine zPs (pc1 := 47) (l1 := [(5, .int (0 : Int32)), (0, .ref 292), (1, .int (i32 m)), (2, .int (6 : Int32)), (3, .int (1 : Int32)), (4, .int (1 : Int32))]) (st1 := [.ref 292, .ref 292]) 20 rfl rfl rfl ?_
  refine zCv (mj := 110) (k := 292) (n := 0) rfl rfl rfl rfl (by decide) rfl rfl rfl rfl rfl rfl ?_
  refine c_110 hl hn (fun h1 => ?_) (fun h2 => ?_)
  · refine kI ?_
    refine zPs (pc1 := 67) (l1 := [(5, .int (0 : Int32)), (0, .ref 292), (1, .int (i32 m)), (2, .int (6 : Int32)), (3, .int (1 : Int32)), (4, .int (1 : Int32))]) (st1 := [.int (0 : Int32), .ref 292]) 3 rfl rfl rfl ?_
    refine zPutI rfl rfl icThr rfl ?_
    refine zPs (pc1 := 71) (l1 := [(5, .int (0 : Int32)), (0, .ref 292), (1, .int (i32 m)), (2, .int (6 : Int32)), (3, .int (1 : Int32)), (4, .int (1 : Int32))]) (st1 := [.ref 292]) 1 rfl rfl rfl ?_
    refine zGetI (v := (0 : Int32)) rfl rfl icThr (by simp [up2]) ?_
    refine zPs (pc1 := 80) (l1 := [(5, .int (0 : Int32)), (0, .ref 292), (1, .int (i32 m)), (2, .int (6 : Int32)), (3, .int (1 : Int32)), (4, .int (1 : Int32))]) (st1 := [.ref 292]) 2 rfl rfl rfl ?_
    refine zGetR (r := 296) rfl rfl ⟨by decide, rfl, by decide, rfl⟩ ?_
    refine zPs (pc1 := 85) (l1 := [(5, .int (0 : Int32)), (0, .ref 292), (1, .int (i32 m)), (2, .int (6 : Int32)), (3, .int (1 : Int32)), (4, .int (1 : Int32))]) (st1 := [.int (6 : Int32), .int (i32 m), .ref 296]) 2 rfl rfl rfl ?_
    refine zIas (n := m) rfl (icM (k := 296) (L := 30) rfl hm) ?_
    refine zPs (pc1 := 87) (l1 := [(5, .int (0 : Int32)), (0, .ref 292), (1, .int (i32 m)), (2, .int (6 : Int32)), (3, .int (1 : Int32)), (4, .int (1 : Int32))]) (st1 := [.ref 292]) 1 rfl rfl rfl ?_
    refine zGetR (r := 306) rfl rfl ⟨by decide, rfl, by decide, rfl⟩ ?_
    refine zPs (pc1 := 92) (l1 := [(5, .int (0 : Int32)), (0, .ref 292), (1, .int (i32 m)), (2, .int (6 : Int32)), (3, .int (1 : Int32)), (4, .int (1 : Int32))]) (st1 := [.int (0 : Int32), .int (i32 m), .ref 306]) 2 rfl rfl rfl ?_
    refine zIas (n := m) rfl (icM (k := 306) (L := 30) rfl hm) ?_
    refine zPs (pc1 := 94) (l1 := [(5, .int (0 : Int32)), (0, .ref 292), (1, .int (i32 m)), (2, .int (6 : Int32)), (3, .int (1 : Int32)), (4, .int (1 : Int32))]) (st1 := [.ref 292]) 1 rfl rfl rfl ?_
    refine zGetR (r := 303) rfl rfl ⟨by decide, rfl, by decide, rfl⟩ ?_
    refine zPs (pc1 := 100) (l1 := [(5, .int (0 : Int32)), (0, .ref 292), (1, .int (i32 m)), (2, .int (6 : Int32)), (3, .int (1 : Int32)), (4, .int (1 : Int32))]) (st1 := [.int (10 : Int32), .int (i32 m), .ref 303]) 2 rfl rfl rfl ?_
    refine zIas (n := m) rfl (icM (k := 303) (L := 30) rfl hm) ?_
    refine zPs (pc1 := 102) (l1 := [(5, .int (0 : Int32)), (0, .ref 292), (1, .int (i32 m)), (2, .int (6 : Int32)), (3, .int (1 : Int32)), (4, .int (1 : Int32))]) (st1 := [.ref 292]) 1 rfl rfl rfl ?_
    refine zGetR (r := 304) rfl rfl ⟨by decide, rfl, by decide, rfl⟩ ?_
    refine zPs (pc1 := 107) (l1 := [(5, .int (0 : Int32)), (0, .ref 292), (1, .int (i32 m)), (2, .int (6 : Int32)), (3, .int (1 : Int32)), (4, .int (1 : Int32))]) (st1 := [.int (3 : Int32), .int (i32 m), .ref 304]) 2 rfl rfl rfl ?_
    refine zIas (n := m) rfl (icM (k := 304) (L := 30) rfl hm) ?_
    refine zPs (pc1 := 109) (l1 := [(5, .int (0 : Int32)), (0, .ref 292), (1, .int (i32 m)), (2, .int (6 : Int32)), (3, .int (1 : Int32)), (4, .int (1 : Int32))]) (st1 := [.ref 292]) 1 rfl rfl rfl ?_
    refine zGetR (r := 305) rfl rfl ⟨by decide, rfl, by decide, rfl⟩ ?_
    refine zPs (pc1 := 114) (l1 := [(5, .int (0 : Int32)), (0, .ref 292), (1, .int (i32 m)), (2, .int (6 : Int32)), (3, .int (1 : Int32)), (4, .int (1 : Int32))]) (st1 := [.int (2 : Int32), .int (i32 m), .ref 305]) 2 rfl rfl rfl ?_
    refine zIas (n := m) rfl (icM (k := 305) (L := 30) rfl hm) ?_
    refine zPs (pc1 := 116) (l1 := [(5, .int (0 : Int32)), (0, .ref 292), (1, .int (i32 m)), (2, .int (6 : Int32)), (3, .int (1 : Int32)), (4, .int (1 : Int32))]) (st1 := [.ref 292]) 1 rfl rfl rfl ?_
    refine zGetR (r := 302) rfl rfl ⟨by decide, rfl, by decide, rfl⟩ ?_
    refine zPs (pc1 := 121) (l1 := [(5, .int (0 : Int32)), (0, .ref 292), (1, .int (i32 m)), (2, .int (6 : Int32)), (3, .int (1 : Int32)), (4, .int (1 : Int32))]) (st1 := [.int (-1 : Int32), .int (i32 m), .ref 302]) 2 rfl rfl rfl ?_
    refine zIas (n := m) rfl (icM (k := 302) (L := 30) rfl hm) ?_
    refine zPs (pc1 := 123) (l1 := [(5, .int (0 : Int32)), (0, .ref 292), (1, .int (i32 m)), (2, .int (6 : Int32)), (3, .int (1 : Int32)), (4, .int (1 : Int32))]) (st1 := [.int (1 : Int32)]) 1 rfl rfl rfl ?_
    refine zRz rfl rfl (Or.inr rfl) ?_
    exact k1 h1
  · refine kI ?_
    refine zPs (pc1 := 67) (l1 := [(5, .int (0 : Int32)), (0, .ref 292), (1, .int (i32 m)), (2, .int (6 : Int32)), (3, .int (1 : Int32)), (4, .int (1 : Int32))]) (st1 := [.int (2 : Int32), .ref 292]) 4 rfl rfl rfl ?_
    refine zPutI rfl rfl icThr rfl ?_
    refine zPs (pc1 := 71) (l1 := [(5, .int (0 : Int32)), (0, .ref 292), (1, .int (i32 m)), (2, .int (6 : Int32)), (3, .int (1 : Int32)), (4, .int (1 : Int32))]) (st1 := [.ref 292]) 1 rfl rfl rfl ?_
    refine zGetI (v := (2 : Int32)) rfl rfl icThr (by simp [up2]) ?_
    refine zPs (pc1 := 78) (l1 := [(5, .int (0 : Int32)), (0, .ref 292), (1, .int (i32 m)), (2, .int (6 : Int32)), (3, .int (1 : Int32)), (4, .int (1 : Int32))]) (st1 := [.int (0 : Int32)]) 2 rfl rfl rfl ?_
    refine zRz rfl rfl (Or.inl rfl) ?_
    exact k0 h2
theorem c_111n7 {z : Sg} {P : MO → Sg → Prop} {a b : Int32} (k : P (.inl (some (.int 0))) (thr z 1)) : Es true 111 [.ref 292, .int a, .int (7 : Int32), .int (0 : Int32), .int b] z P := by
  refine Es.of ?_
  refine zPs (pc1 := 67) (l1 := [(5, .int (1 : Int32)), (0, .ref 292), (1, .int a), (2, .int (7 : Int32)), (3, .int (0 : Int32)), (4, .int b)]) (st1 := [.int (1 : Int32), .ref 292]) 20 rfl rfl rfl ?_
  refine zPutI rfl rfl icThr rfl ?_
  refine zPs (pc1 := 71) (l1 := [(5, .int (1 : Int32)), (0, .ref 292), (1, .int a), (2, .int (7 : Int32)), (3, .int (0 : Int32)), (4, .int b)]) (st1 := [.ref 292]) 1 rfl rfl rfl ?_
  refine zGetI (v := (1 : Int32)) rfl rfl icThr (by simp [up2]) ?_
  refine zPs (pc1 := 78) (l1 := [(5, .int (1 : Int32)), (0, .ref 292), (1, .int a), (2, .int (7 : Int32)), (3, .int (0 : Int32)), (4, .int b)]) (st1 := [.int (0 : Int32)]) 2 rfl rfl rfl ?_
  refine zRz rfl rfl (Or.inl rfl) ?_
  exact k
theorem c_111b7 {z : Sg} {P : MO → Sg → Prop} {a : Int32} (k : P (.inl (some (.int 0))) (thr z 2)) : Es true 111 [.ref 292, .int a, .int (7 : Int32), .int (1 : Int32), .int (0 : Int32)] z P := by
  refine Es.of ?_
  refine zPs (pc1 := 67) (l1 := [(5, .int (1 : Int32)), (0, .ref 292), (1, .int a), (2, .int (7 : Int32)), (3, .int (1 : Int32)), (4, .int (0 : Int32))]) (st1 := [.int (2 : Int32), .ref 292]) 22 rfl rfl rfl ?_
  refine zPutI rfl rfl icThr rfl ?_
  refine zPs (pc1 := 71) (l1 := [(5, .int (1 : Int32)), (0, .ref 292), (1, .int a), (2, .int (7 : Int32)), (3, .int (1 : Int32)), (4, .int (0 : Int32))]) (st1 := [.ref 292]) 1 rfl rfl rfl ?_
  refine zGetI (v := (2 : Int32)) rfl rfl icThr (by simp [up2]) ?_
  refine zPs (pc1 := 78) (l1 := [(5, .int (1 : Int32)), (0, .ref 292), (1, .int a), (2, .int (7 : Int32)), (3, .int (1 : Int32)), (4, .int (0 : Int32))]) (st1 := [.int (0 : Int32)]) 2 rfl rfl rfl ?_
  refine zRz rfl rfl (Or.inl rfl) ?_
  exact k
theorem c_111o7 {z : Sg} {P : MO → Sg → Prop} {n m : Nat} (hl : n ≤ 60) (hn : z 292 19 = i32 n) (hm : m < 30) (k1 : quiet z n → P (.inl (some (.int 1))) (sTell z m 7)) (k0 : ¬ quiet z n → P (.inl (some (.int 0))) (thr z 3)) : Es true 111 [.ref 292, .int (i32 m), .int (7 : Int32), .int (1 : Int32), .int (1 : Int32)] z P := by
  refine Es.of ?_
  refine zPs (pc1 := 47) (l1 := [(5, .int (1 : Int32)), (0, .ref 292), (1, .int (i32 m)), (2, .int (7 : Int32)), (3, .int (1 : Int32)), (4, .int (1 : Int32))]) (st1 := [.ref 292, .ref 292]) 21 rfl rfl rfl ?_
  refine zCv (mj := 110) (k := 292) (n := 0) rfl rfl rfl rfl (by decide) rfl rfl rfl rfl rfl rfl ?_
  refine c_110 hl hn (fun h1 => ?_) (fun h2 => ?_)
  · refine kI ?_
    refine zPs (pc1 := 67) (l1 := [(5, .int (1 : Int32)), (0, .ref 292), (1, .int (i32 m)), (2, .int (7 : Int32)), (3, .int (1 : Int32)), (4, .int (1 : Int32))]) (st1 := [.int (0 : Int32), .ref 292]) 3 rfl rfl rfl ?_
    refine zPutI rfl rfl icThr rfl ?_
    refine zPs (pc1 := 71) (l1 := [(5, .int (1 : Int32)), (0, .ref 292), (1, .int (i32 m)), (2, .int (7 : Int32)), (3, .int (1 : Int32)), (4, .int (1 : Int32))]) (st1 := [.ref 292]) 1 rfl rfl rfl ?_
    refine zGetI (v := (0 : Int32)) rfl rfl icThr (by simp [up2]) ?_
    refine zPs (pc1 := 80) (l1 := [(5, .int (1 : Int32)), (0, .ref 292), (1, .int (i32 m)), (2, .int (7 : Int32)), (3, .int (1 : Int32)), (4, .int (1 : Int32))]) (st1 := [.ref 292]) 2 rfl rfl rfl ?_
    refine zGetR (r := 296) rfl rfl ⟨by decide, rfl, by decide, rfl⟩ ?_
    refine zPs (pc1 := 85) (l1 := [(5, .int (1 : Int32)), (0, .ref 292), (1, .int (i32 m)), (2, .int (7 : Int32)), (3, .int (1 : Int32)), (4, .int (1 : Int32))]) (st1 := [.int (7 : Int32), .int (i32 m), .ref 296]) 2 rfl rfl rfl ?_
    refine zIas (n := m) rfl (icM (k := 296) (L := 30) rfl hm) ?_
    refine zPs (pc1 := 87) (l1 := [(5, .int (1 : Int32)), (0, .ref 292), (1, .int (i32 m)), (2, .int (7 : Int32)), (3, .int (1 : Int32)), (4, .int (1 : Int32))]) (st1 := [.ref 292]) 1 rfl rfl rfl ?_
    refine zGetR (r := 306) rfl rfl ⟨by decide, rfl, by decide, rfl⟩ ?_
    refine zPs (pc1 := 92) (l1 := [(5, .int (1 : Int32)), (0, .ref 292), (1, .int (i32 m)), (2, .int (7 : Int32)), (3, .int (1 : Int32)), (4, .int (1 : Int32))]) (st1 := [.int (0 : Int32), .int (i32 m), .ref 306]) 2 rfl rfl rfl ?_
    refine zIas (n := m) rfl (icM (k := 306) (L := 30) rfl hm) ?_
    refine zPs (pc1 := 94) (l1 := [(5, .int (1 : Int32)), (0, .ref 292), (1, .int (i32 m)), (2, .int (7 : Int32)), (3, .int (1 : Int32)), (4, .int (1 : Int32))]) (st1 := [.ref 292]) 1 rfl rfl rfl ?_
    refine zGetR (r := 303) rfl rfl ⟨by decide, rfl, by decide, rfl⟩ ?_
    refine zPs (pc1 := 100) (l1 := [(5, .int (1 : Int32)), (0, .ref 292), (1, .int (i32 m)), (2, .int (7 : Int32)), (3, .int (1 : Int32)), (4, .int (1 : Int32))]) (st1 := [.int (10 : Int32), .int (i32 m), .ref 303]) 2 rfl rfl rfl ?_
    refine zIas (n := m) rfl (icM (k := 303) (L := 30) rfl hm) ?_
    refine zPs (pc1 := 102) (l1 := [(5, .int (1 : Int32)), (0, .ref 292), (1, .int (i32 m)), (2, .int (7 : Int32)), (3, .int (1 : Int32)), (4, .int (1 : Int32))]) (st1 := [.ref 292]) 1 rfl rfl rfl ?_
    refine zGetR (r := 304) rfl rfl ⟨by decide, rfl, by decide, rfl⟩ ?_
    refine zPs (pc1 := 107) (l1 := [(5, .int (1 : Int32)), (0, .ref 292), (1, .int (i32 m)), (2, .int (7 : Int32)), (3, .int (1 : Int32)), (4, .int (1 : Int32))]) (st1 := [.int (3 : Int32), .int (i32 m), .ref 304]) 2 rfl rfl rfl ?_
    refine zIas (n := m) rfl (icM (k := 304) (L := 30) rfl hm) ?_
    refine zPs (pc1 := 109) (l1 := [(5, .int (1 : Int32)), (0, .ref 292), (1, .int (i32 m)), (2, .int (7 : Int32)), (3, .int (1 : Int32)), (4, .int (1 : Int32))]) (st1 := [.ref 292]) 1 rfl rfl rfl ?_
    refine zGetR (r := 305) rfl rfl ⟨by decide, rfl, by decide, rfl⟩ ?_
    refine zPs (pc1 := 114) (l1 := [(5, .int (1 : Int32)), (0, .ref 292), (1, .int (i32 m)), (2, .int (7 : Int32)), (3, .int (1 : Int32)), (4, .int (1 : Int32))]) (st1 := [.int (2 : Int32), .int (i32 m), .ref 305]) 2 rfl rfl rfl ?_
    refine zIas (n := m) rfl (icM (k := 305) (L := 30) rfl hm) ?_
    refine zPs (pc1 := 116) (l1 := [(5, .int (1 : Int32)), (0, .ref 292), (1, .int (i32 m)), (2, .int (7 : Int32)), (3, .int (1 : Int32)), (4, .int (1 : Int32))]) (st1 := [.ref 292]) 1 rfl rfl rfl ?_
    refine zGetR (r := 302) rfl rfl ⟨by decide, rfl, by decide, rfl⟩ ?_
    refine zPs (pc1 := 121) (l1 := [(5, .int (1 : Int32)), (0, .ref 292), (1, .int (i32 m)), (2, .int (7 : Int32)), (3, .int (1 : Int32)), (4, .int (1 : Int32))]) (st1 := [.int (-1 : Int32), .int (i32 m), .ref 302]) 2 rfl rfl rfl ?_
    refine zIas (n := m) rfl (icM (k := 302) (L := 30) rfl hm) ?_
    refine zPs (pc1 := 123) (l1 := [(5, .int (1 : Int32)), (0, .ref 292), (1, .int (i32 m)), (2, .int (7 : Int32)), (3, .int (1 : Int32)), (4, .int (1 : Int32))]) (st1 := [.int (1 : Int32)]) 1 rfl rfl rfl ?_
    refine zRz rfl rfl (Or.inr rfl) ?_
    exact k1 h1
  · refine kI ?_
    refine zPs (pc1 := 67) (l1 := [(5, .int (1 : Int32)), (0, .ref 292), (1, .int (i32 m)), (2, .int (7 : Int32)), (3, .int (1 : Int32)), (4, .int (1 : Int32))]) (st1 := [.int (3 : Int32), .ref 292]) 5 rfl rfl rfl ?_
    refine zPutI rfl rfl icThr rfl ?_
    refine zPs (pc1 := 71) (l1 := [(5, .int (1 : Int32)), (0, .ref 292), (1, .int (i32 m)), (2, .int (7 : Int32)), (3, .int (1 : Int32)), (4, .int (1 : Int32))]) (st1 := [.ref 292]) 1 rfl rfl rfl ?_
    refine zGetI (v := (3 : Int32)) rfl rfl icThr (by simp [up2]) ?_
    refine zPs (pc1 := 78) (l1 := [(5, .int (1 : Int32)), (0, .ref 292), (1, .int (i32 m)), (2, .int (7 : Int32)), (3, .int (1 : Int32)), (4, .int (1 : Int32))]) (st1 := [.int (0 : Int32)]) 2 rfl rfl rfl ?_
    refine zRz rfl rfl (Or.inl rfl) ?_
    exact k0 h2
theorem c_111n8 {z : Sg} {P : MO → Sg → Prop} {a b : Int32} (k : P (.inl (some (.int 0))) (thr z 1)) : Es true 111 [.ref 292, .int a, .int (8 : Int32), .int (0 : Int32), .int b] z P := by
  refine Es.of ?_
  refine zPs (pc1 := 67) (l1 := [(5, .int (0 : Int32)), (0, .ref 292), (1, .int a), (2, .int (8 : Int32)), (3, .int (0 : Int32)), (4, .int b)]) (st1 := [.int (1 : Int32), .ref 292]) 19 rfl rfl rfl ?_
  refine zPutI rfl rfl icThr rfl ?_
  refine zPs (pc1 := 71) (l1 := [(5, .int (0 : Int32)), (0, .ref 292), (1, .int a), (2, .int (8 : Int32)), (3, .int (0 : Int32)), (4, .int b)]) (st1 := [.ref 292]) 1 rfl rfl rfl ?_
  refine zGetI (v := (1 : Int32)) rfl rfl icThr (by simp [up2]) ?_
  refine zPs (pc1 := 78) (l1 := [(5, .int (0 : Int32)), (0, .ref 292), (1, .int a), (2, .int (8 : Int32)), (3, .int (0 : Int32)), (4, .int b)]) (st1 := [.int (0 : Int32)]) 2 rfl rfl rfl ?_
  refine zRz rfl rfl (Or.inl rfl) ?_
  exact k
theorem c_111b8 {z : Sg} {P : MO → Sg → Prop} {a : Int32} (k : P (.inl (some (.int 0))) (thr z 2)) : Es true 111 [.ref 292, .int a, .int (8 : Int32), .int (1 : Int32), .int (0 : Int32)] z P := by
  refine Es.of ?_
  refine zPs (pc1 := 67) (l1 := [(5, .int (0 : Int32)), (0, .ref 292), (1, .int a), (2, .int (8 : Int32)), (3, .int (1 : Int32)), (4, .int (0 : Int32))]) (st1 := [.int (2 : Int32), .ref 292]) 21 rfl rfl rfl ?_
  refine zPutI rfl rfl icThr rfl ?_
  refine zPs (pc1 := 71) (l1 := [(5, .int (0 : Int32)), (0, .ref 292), (1, .int a), (2, .int (8 : Int32)), (3, .int (1 : Int32)), (4, .int (0 : Int32))]) (st1 := [.ref 292]) 1 rfl rfl rfl ?_
  refine zGetI (v := (2 : Int32)) rfl rfl icThr (by simp [up2]) ?_
  refine zPs (pc1 := 78) (l1 := [(5, .int (0 : Int32)), (0, .ref 292), (1, .int a), (2, .int (8 : Int32)), (3, .int (1 : Int32)), (4, .int (0 : Int32))]) (st1 := [.int (0 : Int32)]) 2 rfl rfl rfl ?_
  refine zRz rfl rfl (Or.inl rfl) ?_
  exact k
theorem c_111o8 {z : Sg} {P : MO → Sg → Prop} {n m : Nat} (hl : n ≤ 60) (hn : z 292 19 = i32 n) (hm : m < 30) (k1 : quiet z n → P (.inl (some (.int 1))) (sTell z m 8)) (k0 : ¬ quiet z n → P (.inl (some (.int 0))) (thr z 2)) : Es true 111 [.ref 292, .int (i32 m), .int (8 : Int32), .int (1 : Int32), .int (1 : Int32)] z P := by
  refine Es.of ?_
  refine zPs (pc1 := 47) (l1 := [(5, .int (0 : Int32)), (0, .ref 292), (1, .int (i32 m)), (2, .int (8 : Int32)), (3, .int (1 : Int32)), (4, .int (1 : Int32))]) (st1 := [.ref 292, .ref 292]) 20 rfl rfl rfl ?_
  refine zCv (mj := 110) (k := 292) (n := 0) rfl rfl rfl rfl (by decide) rfl rfl rfl rfl rfl rfl ?_
  refine c_110 hl hn (fun h1 => ?_) (fun h2 => ?_)
  · refine kI ?_
    refine zPs (pc1 := 67) (l1 := [(5, .int (0 : Int32)), (0, .ref 292), (1, .int (i32 m)), (2, .int (8 : Int32)), (3, .int (1 : Int32)), (4, .int (1 : Int32))]) (st1 := [.int (0 : Int32), .ref 292]) 3 rfl rfl rfl ?_
    refine zPutI rfl rfl icThr rfl ?_
    refine zPs (pc1 := 71) (l1 := [(5, .int (0 : Int32)), (0, .ref 292), (1, .int (i32 m)), (2, .int (8 : Int32)), (3, .int (1 : Int32)), (4, .int (1 : Int32))]) (st1 := [.ref 292]) 1 rfl rfl rfl ?_
    refine zGetI (v := (0 : Int32)) rfl rfl icThr (by simp [up2]) ?_
    refine zPs (pc1 := 80) (l1 := [(5, .int (0 : Int32)), (0, .ref 292), (1, .int (i32 m)), (2, .int (8 : Int32)), (3, .int (1 : Int32)), (4, .int (1 : Int32))]) (st1 := [.ref 292]) 2 rfl rfl rfl ?_
    refine zGetR (r := 296) rfl rfl ⟨by decide, rfl, by decide, rfl⟩ ?_
    refine zPs (pc1 := 85) (l1 := [(5, .int (0 : Int32)), (0, .ref 292), (1, .int (i32 m)), (2, .int (8 : Int32)), (3, .int (1 : Int32)), (4, .int (1 : Int32))]) (st1 := [.int (8 : Int32), .int (i32 m), .ref 296]) 2 rfl rfl rfl ?_
    refine zIas (n := m) rfl (icM (k := 296) (L := 30) rfl hm) ?_
    refine zPs (pc1 := 87) (l1 := [(5, .int (0 : Int32)), (0, .ref 292), (1, .int (i32 m)), (2, .int (8 : Int32)), (3, .int (1 : Int32)), (4, .int (1 : Int32))]) (st1 := [.ref 292]) 1 rfl rfl rfl ?_
    refine zGetR (r := 306) rfl rfl ⟨by decide, rfl, by decide, rfl⟩ ?_
    refine zPs (pc1 := 92) (l1 := [(5, .int (0 : Int32)), (0, .ref 292), (1, .int (i32 m)), (2, .int (8 : Int32)), (3, .int (1 : Int32)), (4, .int (1 : Int32))]) (st1 := [.int (0 : Int32), .int (i32 m), .ref 306]) 2 rfl rfl rfl ?_
    refine zIas (n := m) rfl (icM (k := 306) (L := 30) rfl hm) ?_
    refine zPs (pc1 := 94) (l1 := [(5, .int (0 : Int32)), (0, .ref 292), (1, .int (i32 m)), (2, .int (8 : Int32)), (3, .int (1 : Int32)), (4, .int (1 : Int32))]) (st1 := [.ref 292]) 1 rfl rfl rfl ?_
    refine zGetR (r := 303) rfl rfl ⟨by decide, rfl, by decide, rfl⟩ ?_
    refine zPs (pc1 := 100) (l1 := [(5, .int (0 : Int32)), (0, .ref 292), (1, .int (i32 m)), (2, .int (8 : Int32)), (3, .int (1 : Int32)), (4, .int (1 : Int32))]) (st1 := [.int (10 : Int32), .int (i32 m), .ref 303]) 2 rfl rfl rfl ?_
    refine zIas (n := m) rfl (icM (k := 303) (L := 30) rfl hm) ?_
    refine zPs (pc1 := 102) (l1 := [(5, .int (0 : Int32)), (0, .ref 292), (1, .int (i32 m)), (2, .int (8 : Int32)), (3, .int (1 : Int32)), (4, .int (1 : Int32))]) (st1 := [.ref 292]) 1 rfl rfl rfl ?_
    refine zGetR (r := 304) rfl rfl ⟨by decide, rfl, by decide, rfl⟩ ?_
    refine zPs (pc1 := 107) (l1 := [(5, .int (0 : Int32)), (0, .ref 292), (1, .int (i32 m)), (2, .int (8 : Int32)), (3, .int (1 : Int32)), (4, .int (1 : Int32))]) (st1 := [.int (3 : Int32), .int (i32 m), .ref 304]) 2 rfl rfl rfl ?_
    refine zIas (n := m) rfl (icM (k := 304) (L := 30) rfl hm) ?_
    refine zPs (pc1 := 109) (l1 := [(5, .int (0 : Int32)), (0, .ref 292), (1, .int (i32 m)), (2, .int (8 : Int32)), (3, .int (1 : Int32)), (4, .int (1 : Int32))]) (st1 := [.ref 292]) 1 rfl rfl rfl ?_
    refine zGetR (r := 305) rfl rfl ⟨by decide, rfl, by decide, rfl⟩ ?_
    refine zPs (pc1 := 114) (l1 := [(5, .int (0 : Int32)), (0, .ref 292), (1, .int (i32 m)), (2, .int (8 : Int32)), (3, .int (1 : Int32)), (4, .int (1 : Int32))]) (st1 := [.int (2 : Int32), .int (i32 m), .ref 305]) 2 rfl rfl rfl ?_
    refine zIas (n := m) rfl (icM (k := 305) (L := 30) rfl hm) ?_
    refine zPs (pc1 := 116) (l1 := [(5, .int (0 : Int32)), (0, .ref 292), (1, .int (i32 m)), (2, .int (8 : Int32)), (3, .int (1 : Int32)), (4, .int (1 : Int32))]) (st1 := [.ref 292]) 1 rfl rfl rfl ?_
    refine zGetR (r := 302) rfl rfl ⟨by decide, rfl, by decide, rfl⟩ ?_
    refine zPs (pc1 := 121) (l1 := [(5, .int (0 : Int32)), (0, .ref 292), (1, .int (i32 m)), (2, .int (8 : Int32)), (3, .int (1 : Int32)), (4, .int (1 : Int32))]) (st1 := [.int (-1 : Int32), .int (i32 m), .ref 302]) 2 rfl rfl rfl ?_
    refine zIas (n := m) rfl (icM (k := 302) (L := 30) rfl hm) ?_
    refine zPs (pc1 := 123) (l1 := [(5, .int (0 : Int32)), (0, .ref 292), (1, .int (i32 m)), (2, .int (8 : Int32)), (3, .int (1 : Int32)), (4, .int (1 : Int32))]) (st1 := [.int (1 : Int32)]) 1 rfl rfl rfl ?_
    refine zRz rfl rfl (Or.inr rfl) ?_
    exact k1 h1
  · refine kI ?_
    refine zPs (pc1 := 67) (l1 := [(5, .int (0 : Int32)), (0, .ref 292), (1, .int (i32 m)), (2, .int (8 : Int32)), (3, .int (1 : Int32)), (4, .int (1 : Int32))]) (st1 := [.int (2 : Int32), .ref 292]) 4 rfl rfl rfl ?_
    refine zPutI rfl rfl icThr rfl ?_
    refine zPs (pc1 := 71) (l1 := [(5, .int (0 : Int32)), (0, .ref 292), (1, .int (i32 m)), (2, .int (8 : Int32)), (3, .int (1 : Int32)), (4, .int (1 : Int32))]) (st1 := [.ref 292]) 1 rfl rfl rfl ?_
    refine zGetI (v := (2 : Int32)) rfl rfl icThr (by simp [up2]) ?_
    refine zPs (pc1 := 78) (l1 := [(5, .int (0 : Int32)), (0, .ref 292), (1, .int (i32 m)), (2, .int (8 : Int32)), (3, .int (1 : Int32)), (4, .int (1 : Int32))]) (st1 := [.int (0 : Int32)]) 2 rfl rfl rfl ?_
    refine zRz rfl rfl (Or.inl rfl) ?_
    exact k0 h2
def sSay (z : Sg) (n : Nat) (a b c : Int32) : Sg := if ¬ (isN a ∧ isT c) then thr z 1 else if ¬ (1 ≤ b ∧ b ≤ 60) then thr z 2 else if quiet z n then up2 (up2 (sTell z a.toNatClampNeg 1) 297 a.toNatClampNeg b) 301 a.toNatClampNeg c else thr z 3
theorem c_112 {z : Sg} {P : MO → Sg → Prop} {n : Nat} (hl : n ≤ 60) (hn : z 292 19 = i32 n) {a b c : Int32} (k : P (.inl none) (sSay z n a b c)) : Es true 112 [.ref 292, .int a, .int b, .int c] z P := by
  refine Es.of ?_
  refine zPs (pc1 := 4) (l1 := [(0, .ref 292), (1, .int a), (2, .int b), (3, .int c)]) (st1 := [.int a, .int (1 : Int32), .int a, .ref 292]) 4 rfl rfl rfl ?_
  refine zCs (mj := 108) rfl rfl rfl rfl rfl rfl rfl rfl ?_
  refine c_108 (fun h1 h2 h3 => ?_) (fun h4 => ?_)
  · obtain rfl := h3
    have hNh1 := isN_of h2
    have hclh1 := i32_cl (n := h1) (by omega)
    refine kI ?_
    refine zPs (pc1 := 11) (l1 := [(0, .ref 292), (1, .int (i32 h1)), (2, .int b), (3, .int c)]) (st1 := [.int c, .int (1 : Int32), .int (i32 h1), .ref 292]) 2 rfl rfl rfl ?_
    refine zCs (mj := 109) rfl rfl rfl rfl rfl rfl rfl rfl ?_
    refine c_109 (fun h5 => ?_) (fun h6 => ?_)
    · refine kI ?_
      refine zPs (pc1 := 26) (l1 := [(0, .ref 292), (1, .int (i32 h1)), (2, .int b), (3, .int c)]) (st1 := [.int (60 : Int32), .int (1 : Int32), .int b, .int (1 : Int32), .int (1 : Int32), .int (i32 h1), .ref 292]) 6 rfl rfl rfl ?_
      refine zCs (mj := 107) rfl rfl rfl rfl rfl rfl rfl rfl ?_
      refine c_107 (fun h7 h8 => ?_) (fun h9 => ?_)
      · refine kI ?_
        refine zCv (mj := 111) (k := 292) (n := 4) rfl rfl rfl rfl (by decide) rfl rfl rfl rfl rfl rfl ?_
        refine c_111o1 hl hn (by omega) (fun h10 => ?_) (fun h11 => ?_)
        · refine kI ?_
          refine zPs (pc1 := 36) (l1 := [(0, .ref 292), (1, .int (i32 h1)), (2, .int b), (3, .int c)]) (st1 := [.ref 292]) 2 rfl rfl rfl ?_
          refine zGetR (r := 297) rfl rfl ⟨by decide, rfl, by decide, rfl⟩ ?_
          refine zPs (pc1 := 41) (l1 := [(0, .ref 292), (1, .int (i32 h1)), (2, .int b), (3, .int c)]) (st1 := [.int b, .int (i32 h1), .ref 297]) 2 rfl rfl rfl ?_
          refine zIas (n := h1) rfl (icM (k := 297) (L := 30) rfl (by omega)) ?_
          refine zPs (pc1 := 43) (l1 := [(0, .ref 292), (1, .int (i32 h1)), (2, .int b), (3, .int c)]) (st1 := [.ref 292]) 1 rfl rfl rfl ?_
          refine zGetR (r := 301) rfl rfl ⟨by decide, rfl, by decide, rfl⟩ ?_
          refine zPs (pc1 := 48) (l1 := [(0, .ref 292), (1, .int (i32 h1)), (2, .int b), (3, .int c)]) (st1 := [.int c, .int (i32 h1), .ref 301]) 2 rfl rfl rfl ?_
          refine zIas (n := h1) rfl (icM (k := 301) (L := 30) rfl (by omega)) ?_
          refine zRv rfl rfl ?_
          simpa [sSay, thr, h2, hNh1, hclh1, h5, h7, h8, if_pos h10] using k
        · refine kI ?_
          refine zPs (pc1 := 49) (l1 := [(0, .ref 292), (1, .int (i32 h1)), (2, .int b), (3, .int c)]) (st1 := []) 1 rfl rfl rfl ?_
          refine zRv rfl rfl ?_
          simpa [sSay, thr, h2, hNh1, hclh1, h5, h7, h8, if_neg h11] using k
      · refine kI ?_
        refine zCv (mj := 111) (k := 292) (n := 4) rfl rfl rfl rfl (by decide) rfl rfl rfl rfl rfl rfl ?_
        refine c_111b1 ?_
        refine kI ?_
        refine zPs (pc1 := 49) (l1 := [(0, .ref 292), (1, .int (i32 h1)), (2, .int b), (3, .int c)]) (st1 := []) 1 rfl rfl rfl ?_
        refine zRv rfl rfl ?_
        simpa [sSay, thr, h2, hNh1, hclh1, h5, h9] using k
    · refine kI ?_
      refine zPs (pc1 := 26) (l1 := [(0, .ref 292), (1, .int (i32 h1)), (2, .int b), (3, .int c)]) (st1 := [.int (60 : Int32), .int (1 : Int32), .int b, .int (0 : Int32), .int (1 : Int32), .int (i32 h1), .ref 292]) 5 rfl rfl rfl ?_
      refine zCs (mj := 107) rfl rfl rfl rfl rfl rfl rfl rfl ?_
      refine c_107 (fun h12 h13 => ?_) (fun h14 => ?_)
      · refine kI ?_
        refine zCv (mj := 111) (k := 292) (n := 4) rfl rfl rfl rfl (by decide) rfl rfl rfl rfl rfl rfl ?_
        refine c_111n1 ?_
        refine kI ?_
        refine zPs (pc1 := 49) (l1 := [(0, .ref 292), (1, .int (i32 h1)), (2, .int b), (3, .int c)]) (st1 := []) 1 rfl rfl rfl ?_
        refine zRv rfl rfl ?_
        simpa [sSay, thr, h2, hNh1, hclh1, h6, h12, h13] using k
      · refine kI ?_
        refine zCv (mj := 111) (k := 292) (n := 4) rfl rfl rfl rfl (by decide) rfl rfl rfl rfl rfl rfl ?_
        refine c_111n1 ?_
        refine kI ?_
        refine zPs (pc1 := 49) (l1 := [(0, .ref 292), (1, .int (i32 h1)), (2, .int b), (3, .int c)]) (st1 := []) 1 rfl rfl rfl ?_
        refine zRv rfl rfl ?_
        simpa [sSay, thr, h2, hNh1, hclh1, h6, h14] using k
  · refine kI ?_
    refine zPs (pc1 := 26) (l1 := [(0, .ref 292), (1, .int a), (2, .int b), (3, .int c)]) (st1 := [.int (60 : Int32), .int (1 : Int32), .int b, .int (0 : Int32), .int (1 : Int32), .int a, .ref 292]) 5 rfl rfl rfl ?_
    refine zCs (mj := 107) rfl rfl rfl rfl rfl rfl rfl rfl ?_
    refine c_107 (fun h15 h16 => ?_) (fun h17 => ?_)
    · refine kI ?_
      refine zCv (mj := 111) (k := 292) (n := 4) rfl rfl rfl rfl (by decide) rfl rfl rfl rfl rfl rfl ?_
      refine c_111n1 ?_
      refine kI ?_
      refine zPs (pc1 := 49) (l1 := [(0, .ref 292), (1, .int a), (2, .int b), (3, .int c)]) (st1 := []) 1 rfl rfl rfl ?_
      refine zRv rfl rfl ?_
      simpa [sSay, thr, h4, h15, h16] using k
    · refine kI ?_
      refine zCv (mj := 111) (k := 292) (n := 4) rfl rfl rfl rfl (by decide) rfl rfl rfl rfl rfl rfl ?_
      refine c_111n1 ?_
      refine kI ?_
      refine zPs (pc1 := 49) (l1 := [(0, .ref 292), (1, .int a), (2, .int b), (3, .int c)]) (st1 := []) 1 rfl rfl rfl ?_
      refine zRv rfl rfl ?_
      simpa [sSay, thr, h4, h17] using k
