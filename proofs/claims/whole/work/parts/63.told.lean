/-! ===== the model: what is told, on ===== -/
def sMenu (z : Sg) (n : Nat) (wh a : Int32) : Sg := if ¬ isN a then thr z 1 else if quiet z n then sTell z a.toNatClampNeg wh else thr z 2
def sInput (z : Sg) (n : Nat) (a b c e : Int32) : Sg := if ¬ (isN a ∧ isT e) then thr z 1 else if ¬ ((1 ≤ b ∧ b ≤ 6) ∧ (b ≤ c ∧ c ≤ 6)) then thr z 2 else if quiet z n then up2 (up2 (up2 (sTell z a.toNatClampNeg 3) 297 a.toNatClampNeg b) 298 a.toNatClampNeg c) 301 a.toNatClampNeg e else thr z 3
def sSub (z : Sg) (n : Nat) (a b c : Int32) : Sg := if ¬ (isN a ∧ (isT b ∧ isT c)) then thr z 1 else if quiet z n then up2 (up2 (sTell z a.toNatClampNeg 5) 301 a.toNatClampNeg b) 302 a.toNatClampNeg c else thr z 2
def sQueue (z : Sg) (n : Nat) (a b c e f g : Int32) : Sg := if ¬ (isN a ∧ isT g) then thr z 1 else if ¬ ((0 ≤ b ∧ b ≤ 5) ∧ ((0 ≤ c ∧ c ≤ 9) ∧ ((1 ≤ e ∧ e ≤ 500) ∧ (1 ≤ f ∧ f ≤ 30)))) then thr z 2 else if quiet z n then up2 (up2 (up2 (up2 (up2 (up2 (sTell z a.toNatClampNeg 7) 297 a.toNatClampNeg b) 298 a.toNatClampNeg c) 299 a.toNatClampNeg e) 300 a.toNatClampNeg f) 301 a.toNatClampNeg g) 302 a.toNatClampNeg (-2) else thr z 3
def mostA (w : Int32) : Int32 := if w = 2 ∨ w = 4 then 5 else if w = 3 then 6 else 999999
def sBranch (z : Sg) (n : Nat) (a b c e f g : Int32) : Sg := if ¬ (isN a ∧ (isT f ∧ isT g)) then thr z 1 else if ¬ ((0 ≤ b ∧ b ≤ 4) ∧ ((0 ≤ c ∧ c ≤ mostA b) ∧ (0 ≤ e ∧ e ≤ 60))) then thr z 2 else if quiet z n then up2 (up2 (up2 (up2 (up2 (sTell z a.toNatClampNeg 4) 297 a.toNatClampNeg c) 298 a.toNatClampNeg e) 299 a.toNatClampNeg b) 301 a.toNatClampNeg f) 302 a.toNatClampNeg g else thr z 3
theorem c_113 {z : Sg} {P : MO → Sg → Prop} {n : Nat} (hl : n ≤ 60) (hn : z 292 19 = i32 n) {a : Int32} (k : P (.inl none) (sMenu z n 2 a)) : Es true 113 [.ref 292, .int a] z P := by
  refine Es.of ?_
  refine zPs (pc1 := 4) (l1 := [(0, .ref 292), (1, .int a)]) (st1 := [.int a, .int (2 : Int32), .int a, .ref 292]) 4 rfl rfl rfl ?_
  refine zCs (mj := 108) rfl rfl rfl rfl rfl rfl rfl rfl ?_
  refine c_108 (fun h1 h2 h3 => ?_) (fun h4 => ?_)
  · obtain rfl := h3
    have hNh1 := isN_of h2
    have hclh1 := i32_cl (n := h1) (by omega)
    refine kI ?_
    refine zPs (pc1 := 8) (l1 := [(0, .ref 292), (1, .int (i32 h1))]) (st1 := [.int (1 : Int32), .int (1 : Int32), .int (2 : Int32), .int (i32 h1), .ref 292]) 1 rfl rfl rfl ?_
    refine zCv (mj := 111) (k := 292) (n := 4) rfl rfl rfl rfl (by decide) rfl rfl rfl rfl rfl rfl ?_
    refine c_111o2 hl hn (by omega) (fun h5 => ?_) (fun h6 => ?_)
    · refine kI ?_
      refine zPs (pc1 := 12) (l1 := [(0, .ref 292), (1, .int (i32 h1))]) (st1 := []) 1 rfl rfl rfl ?_
      refine zRv rfl rfl ?_
      simpa [sMenu, thr, h2, hNh1, hclh1, if_pos h5] using k
    · refine kI ?_
      refine zPs (pc1 := 12) (l1 := [(0, .ref 292), (1, .int (i32 h1))]) (st1 := []) 1 rfl rfl rfl ?_
      refine zRv rfl rfl ?_
      simpa [sMenu, thr, h2, hNh1, hclh1, if_neg h6] using k
  · refine kI ?_
    refine zPs (pc1 := 8) (l1 := [(0, .ref 292), (1, .int a)]) (st1 := [.int (1 : Int32), .int (0 : Int32), .int (2 : Int32), .int a, .ref 292]) 1 rfl rfl rfl ?_
    refine zCv (mj := 111) (k := 292) (n := 4) rfl rfl rfl rfl (by decide) rfl rfl rfl rfl rfl rfl ?_
    refine c_111n2 ?_
    refine kI ?_
    refine zPs (pc1 := 12) (l1 := [(0, .ref 292), (1, .int a)]) (st1 := []) 1 rfl rfl rfl ?_
    refine zRv rfl rfl ?_
    simpa [sMenu, thr, h4] using k
theorem c_120 {z : Sg} {P : MO → Sg → Prop} {n : Nat} (hl : n ≤ 60) (hn : z 292 19 = i32 n) {a : Int32} (k : P (.inl none) (sMenu z n 6 a)) : Es true 120 [.ref 292, .int a] z P := by
  refine Es.of ?_
  refine zPs (pc1 := 5) (l1 := [(0, .ref 292), (1, .int a)]) (st1 := [.int a, .int (6 : Int32), .int a, .ref 292]) 4 rfl rfl rfl ?_
  refine zCs (mj := 108) rfl rfl rfl rfl rfl rfl rfl rfl ?_
  refine c_108 (fun h1 h2 h3 => ?_) (fun h4 => ?_)
  · obtain rfl := h3
    have hNh1 := isN_of h2
    have hclh1 := i32_cl (n := h1) (by omega)
    refine kI ?_
    refine zPs (pc1 := 9) (l1 := [(0, .ref 292), (1, .int (i32 h1))]) (st1 := [.int (1 : Int32), .int (1 : Int32), .int (6 : Int32), .int (i32 h1), .ref 292]) 1 rfl rfl rfl ?_
    refine zCv (mj := 111) (k := 292) (n := 4) rfl rfl rfl rfl (by decide) rfl rfl rfl rfl rfl rfl ?_
    refine c_111o6 hl hn (by omega) (fun h5 => ?_) (fun h6 => ?_)
    · refine kI ?_
      refine zPs (pc1 := 13) (l1 := [(0, .ref 292), (1, .int (i32 h1))]) (st1 := []) 1 rfl rfl rfl ?_
      refine zRv rfl rfl ?_
      simpa [sMenu, thr, h2, hNh1, hclh1, if_pos h5] using k
    · refine kI ?_
      refine zPs (pc1 := 13) (l1 := [(0, .ref 292), (1, .int (i32 h1))]) (st1 := []) 1 rfl rfl rfl ?_
      refine zRv rfl rfl ?_
      simpa [sMenu, thr, h2, hNh1, hclh1, if_neg h6] using k
  · refine kI ?_
    refine zPs (pc1 := 9) (l1 := [(0, .ref 292), (1, .int a)]) (st1 := [.int (1 : Int32), .int (0 : Int32), .int (6 : Int32), .int a, .ref 292]) 1 rfl rfl rfl ?_
    refine zCv (mj := 111) (k := 292) (n := 4) rfl rfl rfl rfl (by decide) rfl rfl rfl rfl rfl rfl ?_
    refine c_111n6 ?_
    refine kI ?_
    refine zPs (pc1 := 13) (l1 := [(0, .ref 292), (1, .int a)]) (st1 := []) 1 rfl rfl rfl ?_
    refine zRv rfl rfl ?_
    simpa [sMenu, thr, h4] using k
theorem c_123 {z : Sg} {P : MO → Sg → Prop} {n : Nat} (hl : n ≤ 60) (hn : z 292 19 = i32 n) {a : Int32} (k : P (.inl none) (sMenu z n 8 a)) : Es true 123 [.ref 292, .int a] z P := by
  refine Es.of ?_
  refine zPs (pc1 := 5) (l1 := [(0, .ref 292), (1, .int a)]) (st1 := [.int a, .int (8 : Int32), .int a, .ref 292]) 4 rfl rfl rfl ?_
  refine zCs (mj := 108) rfl rfl rfl rfl rfl rfl rfl rfl ?_
  refine c_108 (fun h1 h2 h3 => ?_) (fun h4 => ?_)
  · obtain rfl := h3
    have hNh1 := isN_of h2
    have hclh1 := i32_cl (n := h1) (by omega)
    refine kI ?_
    refine zPs (pc1 := 9) (l1 := [(0, .ref 292), (1, .int (i32 h1))]) (st1 := [.int (1 : Int32), .int (1 : Int32), .int (8 : Int32), .int (i32 h1), .ref 292]) 1 rfl rfl rfl ?_
    refine zCv (mj := 111) (k := 292) (n := 4) rfl rfl rfl rfl (by decide) rfl rfl rfl rfl rfl rfl ?_
    refine c_111o8 hl hn (by omega) (fun h5 => ?_) (fun h6 => ?_)
    · refine kI ?_
      refine zPs (pc1 := 13) (l1 := [(0, .ref 292), (1, .int (i32 h1))]) (st1 := []) 1 rfl rfl rfl ?_
      refine zRv rfl rfl ?_
      simpa [sMenu, thr, h2, hNh1, hclh1, if_pos h5] using k
    · refine kI ?_
      refine zPs (pc1 := 13) (l1 := [(0, .ref 292), (1, .int (i32 h1))]) (st1 := []) 1 rfl rfl rfl ?_
      refine zRv rfl rfl ?_
      simpa [sMenu, thr, h2, hNh1, hclh1, if_neg h6] using k
  · refine kI ?_
    refine zPs (pc1 := 9) (l1 := [(0, .ref 292), (1, .int a)]) (st1 := [.int (1 : Int32), .int (0 : Int32), .int (8 : Int32), .int a, .ref 292]) 1 rfl rfl rfl ?_
    refine zCv (mj := 111) (k := 292) (n := 4) rfl rfl rfl rfl (by decide) rfl rfl rfl rfl rfl rfl ?_
    refine c_111n8 ?_
    refine kI ?_
    refine zPs (pc1 := 13) (l1 := [(0, .ref 292), (1, .int a)]) (st1 := []) 1 rfl rfl rfl ?_
    refine zRv rfl rfl ?_
    simpa [sMenu, thr, h4] using k
theorem c_116 {z : Sg} {P : MO → Sg → Prop} {n : Nat} (hl : n ≤ 60) (hn : z 292 19 = i32 n) {a b c e : Int32} (k : P (.inl none) (sInput z n a b c e)) : Es true 116 [.ref 292, .int a, .int b, .int c, .int e] z P := by
  refine Es.of ?_
  refine zPs (pc1 := 4) (l1 := [(0, .ref 292), (1, .int a), (2, .int b), (3, .int c), (4, .int e)]) (st1 := [.int a, .int (3 : Int32), .int a, .ref 292]) 4 rfl rfl rfl ?_
  refine zCs (mj := 108) rfl rfl rfl rfl rfl rfl rfl rfl ?_
  refine c_108 (fun h1 h2 h3 => ?_) (fun h4 => ?_)
  · obtain rfl := h3
    have hNh1 := isN_of h2
    have hclh1 := i32_cl (n := h1) (by omega)
    refine kI ?_
    refine zPs (pc1 := 12) (l1 := [(0, .ref 292), (1, .int (i32 h1)), (2, .int b), (3, .int c), (4, .int e)]) (st1 := [.int e, .int (3 : Int32), .int (i32 h1), .ref 292]) 2 rfl rfl rfl ?_
    refine zCs (mj := 109) rfl rfl rfl rfl rfl rfl rfl rfl ?_
    refine c_109 (fun h5 => ?_) (fun h6 => ?_)
    · refine kI ?_
      refine zPs (pc1 := 27) (l1 := [(0, .ref 292), (1, .int (i32 h1)), (2, .int b), (3, .int c), (4, .int e)]) (st1 := [.int (6 : Int32), .int (1 : Int32), .int b, .int (1 : Int32), .int (3 : Int32), .int (i32 h1), .ref 292]) 6 rfl rfl rfl ?_
      refine zCs (mj := 107) rfl rfl rfl rfl rfl rfl rfl rfl ?_
      refine c_107 (fun h7 h8 => ?_) (fun h9 => ?_)
      · refine kI ?_
        refine zPs (pc1 := 37) (l1 := [(0, .ref 292), (1, .int (i32 h1)), (2, .int b), (3, .int c), (4, .int e)]) (st1 := [.int (6 : Int32), .int b, .int c, .int (1 : Int32), .int (3 : Int32), .int (i32 h1), .ref 292]) 4 rfl rfl rfl ?_
        refine zCs (mj := 107) rfl rfl rfl rfl rfl rfl rfl rfl ?_
        refine c_107 (fun h10 h11 => ?_) (fun h12 => ?_)
        · refine kI ?_
          refine zPs (pc1 := 48) (l1 := [(0, .ref 292), (1, .int (i32 h1)), (2, .int b), (3, .int c), (4, .int e)]) (st1 := [.int (1 : Int32), .int (1 : Int32), .int (3 : Int32), .int (i32 h1), .ref 292]) 3 rfl rfl rfl ?_
          refine zCv (mj := 111) (k := 292) (n := 4) rfl rfl rfl rfl (by decide) rfl rfl rfl rfl rfl rfl ?_
          refine c_111o3 hl hn (by omega) (fun h13 => ?_) (fun h14 => ?_)
          · refine kI ?_
            refine zPs (pc1 := 55) (l1 := [(0, .ref 292), (1, .int (i32 h1)), (2, .int b), (3, .int c), (4, .int e)]) (st1 := [.ref 292]) 2 rfl rfl rfl ?_
            refine zGetR (r := 297) rfl rfl ⟨by decide, rfl, by decide, rfl⟩ ?_
            refine zPs (pc1 := 60) (l1 := [(0, .ref 292), (1, .int (i32 h1)), (2, .int b), (3, .int c), (4, .int e)]) (st1 := [.int b, .int (i32 h1), .ref 297]) 2 rfl rfl rfl ?_
            refine zIas (n := h1) rfl (icM (k := 297) (L := 30) rfl (by omega)) ?_
            refine zPs (pc1 := 62) (l1 := [(0, .ref 292), (1, .int (i32 h1)), (2, .int b), (3, .int c), (4, .int e)]) (st1 := [.ref 292]) 1 rfl rfl rfl ?_
            refine zGetR (r := 298) rfl rfl ⟨by decide, rfl, by decide, rfl⟩ ?_
            refine zPs (pc1 := 67) (l1 := [(0, .ref 292), (1, .int (i32 h1)), (2, .int b), (3, .int c), (4, .int e)]) (st1 := [.int c, .int (i32 h1), .ref 298]) 2 rfl rfl rfl ?_
            refine zIas (n := h1) rfl (icM (k := 298) (L := 30) rfl (by omega)) ?_
            refine zPs (pc1 := 69) (l1 := [(0, .ref 292), (1, .int (i32 h1)), (2, .int b), (3, .int c), (4, .int e)]) (st1 := [.ref 292]) 1 rfl rfl rfl ?_
            refine zGetR (r := 301) rfl rfl ⟨by decide, rfl, by decide, rfl⟩ ?_
            refine zPs (pc1 := 75) (l1 := [(0, .ref 292), (1, .int (i32 h1)), (2, .int b), (3, .int c), (4, .int e)]) (st1 := [.int e, .int (i32 h1), .ref 301]) 2 rfl rfl rfl ?_
            refine zIas (n := h1) rfl (icM (k := 301) (L := 30) rfl (by omega)) ?_
            refine zRv rfl rfl ?_
            simpa [sInput, thr, h2, hNh1, hclh1, h5, h7, h8, h10, h11, if_pos h13] using k
          · refine kI ?_
            refine zPs (pc1 := 76) (l1 := [(0, .ref 292), (1, .int (i32 h1)), (2, .int b), (3, .int c), (4, .int e)]) (st1 := []) 1 rfl rfl rfl ?_
            refine zRv rfl rfl ?_
            simpa [sInput, thr, h2, hNh1, hclh1, h5, h7, h8, h10, h11, if_neg h14] using k
        · refine kI ?_
          refine zPs (pc1 := 48) (l1 := [(0, .ref 292), (1, .int (i32 h1)), (2, .int b), (3, .int c), (4, .int e)]) (st1 := [.int (0 : Int32), .int (1 : Int32), .int (3 : Int32), .int (i32 h1), .ref 292]) 2 rfl rfl rfl ?_
          refine zCv (mj := 111) (k := 292) (n := 4) rfl rfl rfl rfl (by decide) rfl rfl rfl rfl rfl rfl ?_
          refine c_111b3 ?_
          refine kI ?_
          refine zPs (pc1 := 76) (l1 := [(0, .ref 292), (1, .int (i32 h1)), (2, .int b), (3, .int c), (4, .int e)]) (st1 := []) 1 rfl rfl rfl ?_
          refine zRv rfl rfl ?_
          simpa [sInput, thr, h2, hNh1, hclh1, h5, h7, h8, h12] using k
      · refine kI ?_
        refine zPs (pc1 := 48) (l1 := [(0, .ref 292), (1, .int (i32 h1)), (2, .int b), (3, .int c), (4, .int e)]) (st1 := [.int (0 : Int32), .int (1 : Int32), .int (3 : Int32), .int (i32 h1), .ref 292]) 2 rfl rfl rfl ?_
        refine zCv (mj := 111) (k := 292) (n := 4) rfl rfl rfl rfl (by decide) rfl rfl rfl rfl rfl rfl ?_
        refine c_111b3 ?_
        refine kI ?_
        refine zPs (pc1 := 76) (l1 := [(0, .ref 292), (1, .int (i32 h1)), (2, .int b), (3, .int c), (4, .int e)]) (st1 := []) 1 rfl rfl rfl ?_
        refine zRv rfl rfl ?_
        simpa [sInput, thr, h2, hNh1, hclh1, h5, h9] using k
    · refine kI ?_
      refine zPs (pc1 := 27) (l1 := [(0, .ref 292), (1, .int (i32 h1)), (2, .int b), (3, .int c), (4, .int e)]) (st1 := [.int (6 : Int32), .int (1 : Int32), .int b, .int (0 : Int32), .int (3 : Int32), .int (i32 h1), .ref 292]) 5 rfl rfl rfl ?_
      refine zCs (mj := 107) rfl rfl rfl rfl rfl rfl rfl rfl ?_
      refine c_107 (fun h15 h16 => ?_) (fun h17 => ?_)
      · refine kI ?_
        refine zPs (pc1 := 37) (l1 := [(0, .ref 292), (1, .int (i32 h1)), (2, .int b), (3, .int c), (4, .int e)]) (st1 := [.int (6 : Int32), .int b, .int c, .int (0 : Int32), .int (3 : Int32), .int (i32 h1), .ref 292]) 4 rfl rfl rfl ?_
        refine zCs (mj := 107) rfl rfl rfl rfl rfl rfl rfl rfl ?_
        refine c_107 (fun h18 h19 => ?_) (fun h20 => ?_)
        · refine kI ?_
          refine zPs (pc1 := 48) (l1 := [(0, .ref 292), (1, .int (i32 h1)), (2, .int b), (3, .int c), (4, .int e)]) (st1 := [.int (1 : Int32), .int (0 : Int32), .int (3 : Int32), .int (i32 h1), .ref 292]) 3 rfl rfl rfl ?_
          refine zCv (mj := 111) (k := 292) (n := 4) rfl rfl rfl rfl (by decide) rfl rfl rfl rfl rfl rfl ?_
          refine c_111n3 ?_
          refine kI ?_
          refine zPs (pc1 := 76) (l1 := [(0, .ref 292), (1, .int (i32 h1)), (2, .int b), (3, .int c), (4, .int e)]) (st1 := []) 1 rfl rfl rfl ?_
          refine zRv rfl rfl ?_
          simpa [sInput, thr, h2, hNh1, hclh1, h6, h15, h16, h18, h19] using k
        · refine kI ?_
          refine zPs (pc1 := 48) (l1 := [(0, .ref 292), (1, .int (i32 h1)), (2, .int b), (3, .int c), (4, .int e)]) (st1 := [.int (0 : Int32), .int (0 : Int32), .int (3 : Int32), .int (i32 h1), .ref 292]) 2 rfl rfl rfl ?_
          refine zCv (mj := 111) (k := 292) (n := 4) rfl rfl rfl rfl (by decide) rfl rfl rfl rfl rfl rfl ?_
          refine c_111n3 ?_
          refine kI ?_
          refine zPs (pc1 := 76) (l1 := [(0, .ref 292), (1, .int (i32 h1)), (2, .int b), (3, .int c), (4, .int e)]) (st1 := []) 1 rfl rfl rfl ?_
          refine zRv rfl rfl ?_
          simpa [sInput, thr, h2, hNh1, hclh1, h6, h15, h16, h20] using k
      · refine kI ?_
        refine zPs (pc1 := 48) (l1 := [(0, .ref 292), (1, .int (i32 h1)), (2, .int b), (3, .int c), (4, .int e)]) (st1 := [.int (0 : Int32), .int (0 : Int32), .int (3 : Int32), .int (i32 h1), .ref 292]) 2 rfl rfl rfl ?_
        refine zCv (mj := 111) (k := 292) (n := 4) rfl rfl rfl rfl (by decide) rfl rfl rfl rfl rfl rfl ?_
        refine c_111n3 ?_
        refine kI ?_
        refine zPs (pc1 := 76) (l1 := [(0, .ref 292), (1, .int (i32 h1)), (2, .int b), (3, .int c), (4, .int e)]) (st1 := []) 1 rfl rfl rfl ?_
        refine zRv rfl rfl ?_
        simpa [sInput, thr, h2, hNh1, hclh1, h6, h17] using k
  · refine kI ?_
    refine zPs (pc1 := 27) (l1 := [(0, .ref 292), (1, .int a), (2, .int b), (3, .int c), (4, .int e)]) (st1 := [.int (6 : Int32), .int (1 : Int32), .int b, .int (0 : Int32), .int (3 : Int32), .int a, .ref 292]) 5 rfl rfl rfl ?_
    refine zCs (mj := 107) rfl rfl rfl rfl rfl rfl rfl rfl ?_
    refine c_107 (fun h21 h22 => ?_) (fun h23 => ?_)
    · refine kI ?_
      refine zPs (pc1 := 37) (l1 := [(0, .ref 292), (1, .int a), (2, .int b), (3, .int c), (4, .int e)]) (st1 := [.int (6 : Int32), .int b, .int c, .int (0 : Int32), .int (3 : Int32), .int a, .ref 292]) 4 rfl rfl rfl ?_
      refine zCs (mj := 107) rfl rfl rfl rfl rfl rfl rfl rfl ?_
      refine c_107 (fun h24 h25 => ?_) (fun h26 => ?_)
      · refine kI ?_
        refine zPs (pc1 := 48) (l1 := [(0, .ref 292), (1, .int a), (2, .int b), (3, .int c), (4, .int e)]) (st1 := [.int (1 : Int32), .int (0 : Int32), .int (3 : Int32), .int a, .ref 292]) 3 rfl rfl rfl ?_
        refine zCv (mj := 111) (k := 292) (n := 4) rfl rfl rfl rfl (by decide) rfl rfl rfl rfl rfl rfl ?_
        refine c_111n3 ?_
        refine kI ?_
        refine zPs (pc1 := 76) (l1 := [(0, .ref 292), (1, .int a), (2, .int b), (3, .int c), (4, .int e)]) (st1 := []) 1 rfl rfl rfl ?_
        refine zRv rfl rfl ?_
        simpa [sInput, thr, h4, h21, h22, h24, h25] using k
      · refine kI ?_
        refine zPs (pc1 := 48) (l1 := [(0, .ref 292), (1, .int a), (2, .int b), (3, .int c), (4, .int e)]) (st1 := [.int (0 : Int32), .int (0 : Int32), .int (3 : Int32), .int a, .ref 292]) 2 rfl rfl rfl ?_
        refine zCv (mj := 111) (k := 292) (n := 4) rfl rfl rfl rfl (by decide) rfl rfl rfl rfl rfl rfl ?_
        refine c_111n3 ?_
        refine kI ?_
        refine zPs (pc1 := 76) (l1 := [(0, .ref 292), (1, .int a), (2, .int b), (3, .int c), (4, .int e)]) (st1 := []) 1 rfl rfl rfl ?_
        refine zRv rfl rfl ?_
        simpa [sInput, thr, h4, h21, h22, h26] using k
    · refine kI ?_
      refine zPs (pc1 := 48) (l1 := [(0, .ref 292), (1, .int a), (2, .int b), (3, .int c), (4, .int e)]) (st1 := [.int (0 : Int32), .int (0 : Int32), .int (3 : Int32), .int a, .ref 292]) 2 rfl rfl rfl ?_
      refine zCv (mj := 111) (k := 292) (n := 4) rfl rfl rfl rfl (by decide) rfl rfl rfl rfl rfl rfl ?_
      refine c_111n3 ?_
      refine kI ?_
      refine zPs (pc1 := 76) (l1 := [(0, .ref 292), (1, .int a), (2, .int b), (3, .int c), (4, .int e)]) (st1 := []) 1 rfl rfl rfl ?_
      refine zRv rfl rfl ?_
      simpa [sInput, thr, h4, h23] using k
theorem c_119 {z : Sg} {P : MO → Sg → Prop} {n : Nat} (hl : n ≤ 60) (hn : z 292 19 = i32 n) {a b c : Int32} (k : P (.inl none) (sSub z n a b c)) : Es true 119 [.ref 292, .int a, .int b, .int c] z P := by
  refine Es.of ?_
  refine zPs (pc1 := 4) (l1 := [(0, .ref 292), (1, .int a), (2, .int b), (3, .int c)]) (st1 := [.int a, .int (5 : Int32), .int a, .ref 292]) 4 rfl rfl rfl ?_
  refine zCs (mj := 108) rfl rfl rfl rfl rfl rfl rfl rfl ?_
  refine c_108 (fun h1 h2 h3 => ?_) (fun h4 => ?_)
  · obtain rfl := h3
    have hNh1 := isN_of h2
    have hclh1 := i32_cl (n := h1) (by omega)
    refine kI ?_
    refine zPs (pc1 := 11) (l1 := [(0, .ref 292), (1, .int (i32 h1)), (2, .int b), (3, .int c)]) (st1 := [.int b, .int (5 : Int32), .int (i32 h1), .ref 292]) 2 rfl rfl rfl ?_
    refine zCs (mj := 109) rfl rfl rfl rfl rfl rfl rfl rfl ?_
    refine c_109 (fun h5 => ?_) (fun h6 => ?_)
    · refine kI ?_
      refine zPs (pc1 := 18) (l1 := [(0, .ref 292), (1, .int (i32 h1)), (2, .int b), (3, .int c)]) (st1 := [.int c, .int (5 : Int32), .int (i32 h1), .ref 292]) 2 rfl rfl rfl ?_
      refine zCs (mj := 109) rfl rfl rfl rfl rfl rfl rfl rfl ?_
      refine c_109 (fun h7 => ?_) (fun h8 => ?_)
      · refine kI ?_
        refine zPs (pc1 := 30) (l1 := [(0, .ref 292), (1, .int (i32 h1)), (2, .int b), (3, .int c)]) (st1 := [.int (1 : Int32), .int (1 : Int32), .int (5 : Int32), .int (i32 h1), .ref 292]) 4 rfl rfl rfl ?_
        refine zCv (mj := 111) (k := 292) (n := 4) rfl rfl rfl rfl (by decide) rfl rfl rfl rfl rfl rfl ?_
        refine c_111o5 hl hn (by omega) (fun h9 => ?_) (fun h10 => ?_)
        · refine kI ?_
          refine zPs (pc1 := 37) (l1 := [(0, .ref 292), (1, .int (i32 h1)), (2, .int b), (3, .int c)]) (st1 := [.ref 292]) 2 rfl rfl rfl ?_
          refine zGetR (r := 301) rfl rfl ⟨by decide, rfl, by decide, rfl⟩ ?_
          refine zPs (pc1 := 42) (l1 := [(0, .ref 292), (1, .int (i32 h1)), (2, .int b), (3, .int c)]) (st1 := [.int b, .int (i32 h1), .ref 301]) 2 rfl rfl rfl ?_
          refine zIas (n := h1) rfl (icM (k := 301) (L := 30) rfl (by omega)) ?_
          refine zPs (pc1 := 44) (l1 := [(0, .ref 292), (1, .int (i32 h1)), (2, .int b), (3, .int c)]) (st1 := [.ref 292]) 1 rfl rfl rfl ?_
          refine zGetR (r := 302) rfl rfl ⟨by decide, rfl, by decide, rfl⟩ ?_
          refine zPs (pc1 := 49) (l1 := [(0, .ref 292), (1, .int (i32 h1)), (2, .int b), (3, .int c)]) (st1 := [.int c, .int (i32 h1), .ref 302]) 2 rfl rfl rfl ?_
          refine zIas (n := h1) rfl (icM (k := 302) (L := 30) rfl (by omega)) ?_
          refine zRv rfl rfl ?_
          simpa [sSub, thr, h2, hNh1, hclh1, h5, h7, if_pos h9] using k
        · refine kI ?_
          refine zPs (pc1 := 50) (l1 := [(0, .ref 292), (1, .int (i32 h1)), (2, .int b), (3, .int c)]) (st1 := []) 1 rfl rfl rfl ?_
          refine zRv rfl rfl ?_
          simpa [sSub, thr, h2, hNh1, hclh1, h5, h7, if_neg h10] using k
      · refine kI ?_
        refine zPs (pc1 := 30) (l1 := [(0, .ref 292), (1, .int (i32 h1)), (2, .int b), (3, .int c)]) (st1 := [.int (1 : Int32), .int (0 : Int32), .int (5 : Int32), .int (i32 h1), .ref 292]) 3 rfl rfl rfl ?_
        refine zCv (mj := 111) (k := 292) (n := 4) rfl rfl rfl rfl (by decide) rfl rfl rfl rfl rfl rfl ?_
        refine c_111n5 ?_
        refine kI ?_
        refine zPs (pc1 := 50) (l1 := [(0, .ref 292), (1, .int (i32 h1)), (2, .int b), (3, .int c)]) (st1 := []) 1 rfl rfl rfl ?_
        refine zRv rfl rfl ?_
        simpa [sSub, thr, h2, hNh1, hclh1, h5, h8] using k
    · refine kI ?_
      refine zPs (pc1 := 30) (l1 := [(0, .ref 292), (1, .int (i32 h1)), (2, .int b), (3, .int c)]) (st1 := [.int (1 : Int32), .int (0 : Int32), .int (5 : Int32), .int (i32 h1), .ref 292]) 3 rfl rfl rfl ?_
      refine zCv (mj := 111) (k := 292) (n := 4) rfl rfl rfl rfl (by decide) rfl rfl rfl rfl rfl rfl ?_
      refine c_111n5 ?_
      refine kI ?_
      refine zPs (pc1 := 50) (l1 := [(0, .ref 292), (1, .int (i32 h1)), (2, .int b), (3, .int c)]) (st1 := []) 1 rfl rfl rfl ?_
      refine zRv rfl rfl ?_
      simpa [sSub, thr, h2, hNh1, hclh1, h6] using k
  · refine kI ?_
    refine zPs (pc1 := 30) (l1 := [(0, .ref 292), (1, .int a), (2, .int b), (3, .int c)]) (st1 := [.int (1 : Int32), .int (0 : Int32), .int (5 : Int32), .int a, .ref 292]) 3 rfl rfl rfl ?_
    refine zCv (mj := 111) (k := 292) (n := 4) rfl rfl rfl rfl (by decide) rfl rfl rfl rfl rfl rfl ?_
    refine c_111n5 ?_
    refine kI ?_
    refine zPs (pc1 := 50) (l1 := [(0, .ref 292), (1, .int a), (2, .int b), (3, .int c)]) (st1 := []) 1 rfl rfl rfl ?_
    refine zRv rfl rfl ?_
    simpa [sSub, thr, h4] using k
theorem c_121 {z : Sg} {P : MO → Sg → Prop} {n : Nat} (hl : n ≤ 60) (hn : z 292 19 = i32 n) {a b c e f g : Int32} (k : P (.inl none) (sQueue z n a b c e f g)) : Es true 121 [.ref 292, .int a, .int b, .int c, .int e, .int f, .int g] z P := by
  refine Es.of ?_
  refine zPs (pc1 := 3) (l1 := [(0, .ref 292), (1, .int a), (2, .int b), (3, .int c), (4, .int e), (5, .int f), (6, .int g)]) (st1 := [.int (5 : Int32), .int (0 : Int32), .int b]) 3 rfl rfl rfl ?_
  refine zCs (mj := 107) rfl rfl rfl rfl rfl rfl rfl rfl ?_
  refine c_107 (fun h1 h2 => ?_) (fun h3 => ?_)
  · refine kI ?_
    refine zPs (pc1 := 13) (l1 := [(0, .ref 292), (1, .int a), (2, .int b), (3, .int c), (4, .int e), (5, .int f), (6, .int g)]) (st1 := [.int (9 : Int32), .int (0 : Int32), .int c]) 4 rfl rfl rfl ?_
    refine zCs (mj := 107) rfl rfl rfl rfl rfl rfl rfl rfl ?_
    refine c_107 (fun h4 h5 => ?_) (fun h6 => ?_)
    · refine kI ?_
      refine zPs (pc1 := 25) (l1 := [(0, .ref 292), (1, .int a), (2, .int b), (3, .int c), (4, .int e), (5, .int f), (6, .int g)]) (st1 := [.int (500 : Int32), .int (1 : Int32), .int e]) 4 rfl rfl rfl ?_
      refine zCs (mj := 107) rfl rfl rfl rfl rfl rfl rfl rfl ?_
      refine c_107 (fun h7 h8 => ?_) (fun h9 => ?_)
      · refine kI ?_
        refine zPs (pc1 := 36) (l1 := [(0, .ref 292), (1, .int a), (2, .int b), (3, .int c), (4, .int e), (5, .int f), (6, .int g)]) (st1 := [.int (30 : Int32), .int (1 : Int32), .int f]) 4 rfl rfl rfl ?_
        refine zCs (mj := 107) rfl rfl rfl rfl rfl rfl rfl rfl ?_
        refine c_107 (fun h10 h11 => ?_) (fun h12 => ?_)
        · refine kI ?_
          refine zPs (pc1 := 54) (l1 := [(7, .int (1 : Int32)), (0, .ref 292), (1, .int a), (2, .int b), (3, .int c), (4, .int e), (5, .int f), (6, .int g)]) (st1 := [.int a, .int (7 : Int32), .int a, .ref 292]) 8 rfl rfl rfl ?_
          refine zCs (mj := 108) rfl rfl rfl rfl rfl rfl rfl rfl ?_
          refine c_108 (fun h13 h14 h15 => ?_) (fun h16 => ?_)
          · obtain rfl := h15
            have hNh13 := isN_of h14
            have hclh13 := i32_cl (n := h13) (by omega)
            refine kI ?_
            refine zPs (pc1 := 62) (l1 := [(7, .int (1 : Int32)), (0, .ref 292), (1, .int (i32 h13)), (2, .int b), (3, .int c), (4, .int e), (5, .int f), (6, .int g)]) (st1 := [.int g, .int (7 : Int32), .int (i32 h13), .ref 292]) 2 rfl rfl rfl ?_
            refine zCs (mj := 109) rfl rfl rfl rfl rfl rfl rfl rfl ?_
            refine c_109 (fun h17 => ?_) (fun h18 => ?_)
            · refine kI ?_
              refine zPs (pc1 := 75) (l1 := [(7, .int (1 : Int32)), (0, .ref 292), (1, .int (i32 h13)), (2, .int b), (3, .int c), (4, .int e), (5, .int f), (6, .int g)]) (st1 := [.int (1 : Int32), .int (1 : Int32), .int (7 : Int32), .int (i32 h13), .ref 292]) 4 rfl rfl rfl ?_
              refine zCv (mj := 111) (k := 292) (n := 4) rfl rfl rfl rfl (by decide) rfl rfl rfl rfl rfl rfl ?_
              refine c_111o7 hl hn (by omega) (fun h19 => ?_) (fun h20 => ?_)
              · refine kI ?_
                refine zPs (pc1 := 82) (l1 := [(7, .int (1 : Int32)), (0, .ref 292), (1, .int (i32 h13)), (2, .int b), (3, .int c), (4, .int e), (5, .int f), (6, .int g)]) (st1 := [.ref 292]) 2 rfl rfl rfl ?_
                refine zGetR (r := 297) rfl rfl ⟨by decide, rfl, by decide, rfl⟩ ?_
                refine zPs (pc1 := 87) (l1 := [(7, .int (1 : Int32)), (0, .ref 292), (1, .int (i32 h13)), (2, .int b), (3, .int c), (4, .int e), (5, .int f), (6, .int g)]) (st1 := [.int b, .int (i32 h13), .ref 297]) 2 rfl rfl rfl ?_
                refine zIas (n := h13) rfl (icM (k := 297) (L := 30) rfl (by omega)) ?_
                refine zPs (pc1 := 89) (l1 := [(7, .int (1 : Int32)), (0, .ref 292), (1, .int (i32 h13)), (2, .int b), (3, .int c), (4, .int e), (5, .int f), (6, .int g)]) (st1 := [.ref 292]) 1 rfl rfl rfl ?_
                refine zGetR (r := 298) rfl rfl ⟨by decide, rfl, by decide, rfl⟩ ?_
                refine zPs (pc1 := 94) (l1 := [(7, .int (1 : Int32)), (0, .ref 292), (1, .int (i32 h13)), (2, .int b), (3, .int c), (4, .int e), (5, .int f), (6, .int g)]) (st1 := [.int c, .int (i32 h13), .ref 298]) 2 rfl rfl rfl ?_
                refine zIas (n := h13) rfl (icM (k := 298) (L := 30) rfl (by omega)) ?_
                refine zPs (pc1 := 96) (l1 := [(7, .int (1 : Int32)), (0, .ref 292), (1, .int (i32 h13)), (2, .int b), (3, .int c), (4, .int e), (5, .int f), (6, .int g)]) (st1 := [.ref 292]) 1 rfl rfl rfl ?_
                refine zGetR (r := 299) rfl rfl ⟨by decide, rfl, by decide, rfl⟩ ?_
                refine zPs (pc1 := 102) (l1 := [(7, .int (1 : Int32)), (0, .ref 292), (1, .int (i32 h13)), (2, .int b), (3, .int c), (4, .int e), (5, .int f), (6, .int g)]) (st1 := [.int e, .int (i32 h13), .ref 299]) 2 rfl rfl rfl ?_
                refine zIas (n := h13) rfl (icM (k := 299) (L := 30) rfl (by omega)) ?_
                refine zPs (pc1 := 104) (l1 := [(7, .int (1 : Int32)), (0, .ref 292), (1, .int (i32 h13)), (2, .int b), (3, .int c), (4, .int e), (5, .int f), (6, .int g)]) (st1 := [.ref 292]) 1 rfl rfl rfl ?_
                refine zGetR (r := 300) rfl rfl ⟨by decide, rfl, by decide, rfl⟩ ?_
                refine zPs (pc1 := 110) (l1 := [(7, .int (1 : Int32)), (0, .ref 292), (1, .int (i32 h13)), (2, .int b), (3, .int c), (4, .int e), (5, .int f), (6, .int g)]) (st1 := [.int f, .int (i32 h13), .ref 300]) 2 rfl rfl rfl ?_
                refine zIas (n := h13) rfl (icM (k := 300) (L := 30) rfl (by omega)) ?_
                refine zPs (pc1 := 112) (l1 := [(7, .int (1 : Int32)), (0, .ref 292), (1, .int (i32 h13)), (2, .int b), (3, .int c), (4, .int e), (5, .int f), (6, .int g)]) (st1 := [.ref 292]) 1 rfl rfl rfl ?_
                refine zGetR (r := 301) rfl rfl ⟨by decide, rfl, by decide, rfl⟩ ?_
                refine zPs (pc1 := 118) (l1 := [(7, .int (1 : Int32)), (0, .ref 292), (1, .int (i32 h13)), (2, .int b), (3, .int c), (4, .int e), (5, .int f), (6, .int g)]) (st1 := [.int g, .int (i32 h13), .ref 301]) 2 rfl rfl rfl ?_
                refine zIas (n := h13) rfl (icM (k := 301) (L := 30) rfl (by omega)) ?_
                refine zPs (pc1 := 120) (l1 := [(7, .int (1 : Int32)), (0, .ref 292), (1, .int (i32 h13)), (2, .int b), (3, .int c), (4, .int e), (5, .int f), (6, .int g)]) (st1 := [.ref 292]) 1 rfl rfl rfl ?_
                refine zGetR (r := 302) rfl rfl ⟨by decide, rfl, by decide, rfl⟩ ?_
                refine zPs (pc1 := 126) (l1 := [(7, .int (1 : Int32)), (0, .ref 292), (1, .int (i32 h13)), (2, .int b), (3, .int c), (4, .int e), (5, .int f), (6, .int g)]) (st1 := [.int (-2 : Int32), .int (i32 h13), .ref 302]) 2 rfl rfl rfl ?_
                refine zIas (n := h13) rfl (icM (k := 302) (L := 30) rfl (by omega)) ?_
                refine zRv rfl rfl ?_
                simpa [sQueue, thr, h1, h2, h4, h5, h7, h8, h10, h11, h14, hNh13, hclh13, h17, if_pos h19] using k
              · refine kI ?_
                refine zPs (pc1 := 127) (l1 := [(7, .int (1 : Int32)), (0, .ref 292), (1, .int (i32 h13)), (2, .int b), (3, .int c), (4, .int e), (5, .int f), (6, .int g)]) (st1 := []) 1 rfl rfl rfl ?_
                refine zRv rfl rfl ?_
                simpa [sQueue, thr, h1, h2, h4, h5, h7, h8, h10, h11, h14, hNh13, hclh13, h17, if_neg h20] using k
            · refine kI ?_
              refine zPs (pc1 := 75) (l1 := [(7, .int (1 : Int32)), (0, .ref 292), (1, .int (i32 h13)), (2, .int b), (3, .int c), (4, .int e), (5, .int f), (6, .int g)]) (st1 := [.int (1 : Int32), .int (0 : Int32), .int (7 : Int32), .int (i32 h13), .ref 292]) 3 rfl rfl rfl ?_
              refine zCv (mj := 111) (k := 292) (n := 4) rfl rfl rfl rfl (by decide) rfl rfl rfl rfl rfl rfl ?_
              refine c_111n7 ?_
              refine kI ?_
              refine zPs (pc1 := 127) (l1 := [(7, .int (1 : Int32)), (0, .ref 292), (1, .int (i32 h13)), (2, .int b), (3, .int c), (4, .int e), (5, .int f), (6, .int g)]) (st1 := []) 1 rfl rfl rfl ?_
              refine zRv rfl rfl ?_
              simpa [sQueue, thr, h1, h2, h4, h5, h7, h8, h10, h11, h14, hNh13, hclh13, h18] using k
          · refine kI ?_
            refine zPs (pc1 := 75) (l1 := [(7, .int (1 : Int32)), (0, .ref 292), (1, .int a), (2, .int b), (3, .int c), (4, .int e), (5, .int f), (6, .int g)]) (st1 := [.int (1 : Int32), .int (0 : Int32), .int (7 : Int32), .int a, .ref 292]) 3 rfl rfl rfl ?_
            refine zCv (mj := 111) (k := 292) (n := 4) rfl rfl rfl rfl (by decide) rfl rfl rfl rfl rfl rfl ?_
            refine c_111n7 ?_
            refine kI ?_
            refine zPs (pc1 := 127) (l1 := [(7, .int (1 : Int32)), (0, .ref 292), (1, .int a), (2, .int b), (3, .int c), (4, .int e), (5, .int f), (6, .int g)]) (st1 := []) 1 rfl rfl rfl ?_
            refine zRv rfl rfl ?_
            simpa [sQueue, thr, h1, h2, h4, h5, h7, h8, h10, h11, h16] using k
        · refine kI ?_
          refine zPs (pc1 := 54) (l1 := [(7, .int (0 : Int32)), (0, .ref 292), (1, .int a), (2, .int b), (3, .int c), (4, .int e), (5, .int f), (6, .int g)]) (st1 := [.int a, .int (7 : Int32), .int a, .ref 292]) 7 rfl rfl rfl ?_
          refine zCs (mj := 108) rfl rfl rfl rfl rfl rfl rfl rfl ?_
          refine c_108 (fun h21 h22 h23 => ?_) (fun h24 => ?_)
          · obtain rfl := h23
            have hNh21 := isN_of h22
            have hclh21 := i32_cl (n := h21) (by omega)
            refine kI ?_
            refine zPs (pc1 := 62) (l1 := [(7, .int (0 : Int32)), (0, .ref 292), (1, .int (i32 h21)), (2, .int b), (3, .int c), (4, .int e), (5, .int f), (6, .int g)]) (st1 := [.int g, .int (7 : Int32), .int (i32 h21), .ref 292]) 2 rfl rfl rfl ?_
            refine zCs (mj := 109) rfl rfl rfl rfl rfl rfl rfl rfl ?_
            refine c_109 (fun h25 => ?_) (fun h26 => ?_)
            · refine kI ?_
              refine zPs (pc1 := 75) (l1 := [(7, .int (0 : Int32)), (0, .ref 292), (1, .int (i32 h21)), (2, .int b), (3, .int c), (4, .int e), (5, .int f), (6, .int g)]) (st1 := [.int (0 : Int32), .int (1 : Int32), .int (7 : Int32), .int (i32 h21), .ref 292]) 4 rfl rfl rfl ?_
              refine zCv (mj := 111) (k := 292) (n := 4) rfl rfl rfl rfl (by decide) rfl rfl rfl rfl rfl rfl ?_
              refine c_111b7 ?_
              refine kI ?_
              refine zPs (pc1 := 127) (l1 := [(7, .int (0 : Int32)), (0, .ref 292), (1, .int (i32 h21)), (2, .int b), (3, .int c), (4, .int e), (5, .int f), (6, .int g)]) (st1 := []) 1 rfl rfl rfl ?_
              refine zRv rfl rfl ?_
              simpa [sQueue, thr, h1, h2, h4, h5, h7, h8, h12, h22, hNh21, hclh21, h25] using k
            · refine kI ?_
              refine zPs (pc1 := 75) (l1 := [(7, .int (0 : Int32)), (0, .ref 292), (1, .int (i32 h21)), (2, .int b), (3, .int c), (4, .int e), (5, .int f), (6, .int g)]) (st1 := [.int (0 : Int32), .int (0 : Int32), .int (7 : Int32), .int (i32 h21), .ref 292]) 3 rfl rfl rfl ?_
              refine zCv (mj := 111) (k := 292) (n := 4) rfl rfl rfl rfl (by decide) rfl rfl rfl rfl rfl rfl ?_
              refine c_111n7 ?_
              refine kI ?_
              refine zPs (pc1 := 127) (l1 := [(7, .int (0 : Int32)), (0, .ref 292), (1, .int (i32 h21)), (2, .int b), (3, .int c), (4, .int e), (5, .int f), (6, .int g)]) (st1 := []) 1 rfl rfl rfl ?_
              refine zRv rfl rfl ?_
              simpa [sQueue, thr, h1, h2, h4, h5, h7, h8, h12, h22, hNh21, hclh21, h26] using k
          · refine kI ?_
            refine zPs (pc1 := 75) (l1 := [(7, .int (0 : Int32)), (0, .ref 292), (1, .int a), (2, .int b), (3, .int c), (4, .int e), (5, .int f), (6, .int g)]) (st1 := [.int (0 : Int32), .int (0 : Int32), .int (7 : Int32), .int a, .ref 292]) 3 rfl rfl rfl ?_
            refine zCv (mj := 111) (k := 292) (n := 4) rfl rfl rfl rfl (by decide) rfl rfl rfl rfl rfl rfl ?_
            refine c_111n7 ?_
            refine kI ?_
            refine zPs (pc1 := 127) (l1 := [(7, .int (0 : Int32)), (0, .ref 292), (1, .int a), (2, .int b), (3, .int c), (4, .int e), (5, .int f), (6, .int g)]) (st1 := []) 1 rfl rfl rfl ?_
            refine zRv rfl rfl ?_
            simpa [sQueue, thr, h1, h2, h4, h5, h7, h8, h12, h24] using k
      · refine kI ?_
        refine zPs (pc1 := 54) (l1 := [(7, .int (0 : Int32)), (0, .ref 292), (1, .int a), (2, .int b), (3, .int c), (4, .int e), (5, .int f), (6, .int g)]) (st1 := [.int a, .int (7 : Int32), .int a, .ref 292]) 7 rfl rfl rfl ?_
        refine zCs (mj := 108) rfl rfl rfl rfl rfl rfl rfl rfl ?_
        refine c_108 (fun h27 h28 h29 => ?_) (fun h30 => ?_)
        · obtain rfl := h29
          have hNh27 := isN_of h28
          have hclh27 := i32_cl (n := h27) (by omega)
          refine kI ?_
          refine zPs (pc1 := 62) (l1 := [(7, .int (0 : Int32)), (0, .ref 292), (1, .int (i32 h27)), (2, .int b), (3, .int c), (4, .int e), (5, .int f), (6, .int g)]) (st1 := [.int g, .int (7 : Int32), .int (i32 h27), .ref 292]) 2 rfl rfl rfl ?_
          refine zCs (mj := 109) rfl rfl rfl rfl rfl rfl rfl rfl ?_
          refine c_109 (fun h31 => ?_) (fun h32 => ?_)
          · refine kI ?_
            refine zPs (pc1 := 75) (l1 := [(7, .int (0 : Int32)), (0, .ref 292), (1, .int (i32 h27)), (2, .int b), (3, .int c), (4, .int e), (5, .int f), (6, .int g)]) (st1 := [.int (0 : Int32), .int (1 : Int32), .int (7 : Int32), .int (i32 h27), .ref 292]) 4 rfl rfl rfl ?_
            refine zCv (mj := 111) (k := 292) (n := 4) rfl rfl rfl rfl (by decide) rfl rfl rfl rfl rfl rfl ?_
            refine c_111b7 ?_
            refine kI ?_
            refine zPs (pc1 := 127) (l1 := [(7, .int (0 : Int32)), (0, .ref 292), (1, .int (i32 h27)), (2, .int b), (3, .int c), (4, .int e), (5, .int f), (6, .int g)]) (st1 := []) 1 rfl rfl rfl ?_
            refine zRv rfl rfl ?_
            simpa [sQueue, thr, h1, h2, h4, h5, h9, h28, hNh27, hclh27, h31] using k
          · refine kI ?_
            refine zPs (pc1 := 75) (l1 := [(7, .int (0 : Int32)), (0, .ref 292), (1, .int (i32 h27)), (2, .int b), (3, .int c), (4, .int e), (5, .int f), (6, .int g)]) (st1 := [.int (0 : Int32), .int (0 : Int32), .int (7 : Int32), .int (i32 h27), .ref 292]) 3 rfl rfl rfl ?_
            refine zCv (mj := 111) (k := 292) (n := 4) rfl rfl rfl rfl (by decide) rfl rfl rfl rfl rfl rfl ?_
            refine c_111n7 ?_
            refine kI ?_
            refine zPs (pc1 := 127) (l1 := [(7, .int (0 : Int32)), (0, .ref 292), (1, .int (i32 h27)), (2, .int b), (3, .int c), (4, .int e), (5, .int f), (6, .int g)]) (st1 := []) 1 rfl rfl rfl ?_
            refine zRv rfl rfl ?_
            simpa [sQueue, thr, h1, h2, h4, h5, h9, h28, hNh27, hclh27, h32] using k
        · refine kI ?_
          refine zPs (pc1 := 75) (l1 := [(7, .int (0 : Int32)), (0, .ref 292), (1, .int a), (2, .int b), (3, .int c), (4, .int e), (5, .int f), (6, .int g)]) (st1 := [.int (0 : Int32), .int (0 : Int32), .int (7 : Int32), .int a, .ref 292]) 3 rfl rfl rfl ?_
          refine zCv (mj := 111) (k := 292) (n := 4) rfl rfl rfl rfl (by decide) rfl rfl rfl rfl rfl rfl ?_
          refine c_111n7 ?_
          refine kI ?_
          refine zPs (pc1 := 127) (l1 := [(7, .int (0 : Int32)), (0, .ref 292), (1, .int a), (2, .int b), (3, .int c), (4, .int e), (5, .int f), (6, .int g)]) (st1 := []) 1 rfl rfl rfl ?_
          refine zRv rfl rfl ?_
          simpa [sQueue, thr, h1, h2, h4, h5, h9, h30] using k
    · refine kI ?_
      refine zPs (pc1 := 54) (l1 := [(7, .int (0 : Int32)), (0, .ref 292), (1, .int a), (2, .int b), (3, .int c), (4, .int e), (5, .int f), (6, .int g)]) (st1 := [.int a, .int (7 : Int32), .int a, .ref 292]) 7 rfl rfl rfl ?_
      refine zCs (mj := 108) rfl rfl rfl rfl rfl rfl rfl rfl ?_
      refine c_108 (fun h33 h34 h35 => ?_) (fun h36 => ?_)
      · obtain rfl := h35
        have hNh33 := isN_of h34
        have hclh33 := i32_cl (n := h33) (by omega)
        refine kI ?_
        refine zPs (pc1 := 62) (l1 := [(7, .int (0 : Int32)), (0, .ref 292), (1, .int (i32 h33)), (2, .int b), (3, .int c), (4, .int e), (5, .int f), (6, .int g)]) (st1 := [.int g, .int (7 : Int32), .int (i32 h33), .ref 292]) 2 rfl rfl rfl ?_
        refine zCs (mj := 109) rfl rfl rfl rfl rfl rfl rfl rfl ?_
        refine c_109 (fun h37 => ?_) (fun h38 => ?_)
        · refine kI ?_
          refine zPs (pc1 := 75) (l1 := [(7, .int (0 : Int32)), (0, .ref 292), (1, .int (i32 h33)), (2, .int b), (3, .int c), (4, .int e), (5, .int f), (6, .int g)]) (st1 := [.int (0 : Int32), .int (1 : Int32), .int (7 : Int32), .int (i32 h33), .ref 292]) 4 rfl rfl rfl ?_
          refine zCv (mj := 111) (k := 292) (n := 4) rfl rfl rfl rfl (by decide) rfl rfl rfl rfl rfl rfl ?_
          refine c_111b7 ?_
          refine kI ?_
          refine zPs (pc1 := 127) (l1 := [(7, .int (0 : Int32)), (0, .ref 292), (1, .int (i32 h33)), (2, .int b), (3, .int c), (4, .int e), (5, .int f), (6, .int g)]) (st1 := []) 1 rfl rfl rfl ?_
          refine zRv rfl rfl ?_
          simpa [sQueue, thr, h1, h2, h6, h34, hNh33, hclh33, h37] using k
        · refine kI ?_
          refine zPs (pc1 := 75) (l1 := [(7, .int (0 : Int32)), (0, .ref 292), (1, .int (i32 h33)), (2, .int b), (3, .int c), (4, .int e), (5, .int f), (6, .int g)]) (st1 := [.int (0 : Int32), .int (0 : Int32), .int (7 : Int32), .int (i32 h33), .ref 292]) 3 rfl rfl rfl ?_
          refine zCv (mj := 111) (k := 292) (n := 4) rfl rfl rfl rfl (by decide) rfl rfl rfl rfl rfl rfl ?_
          refine c_111n7 ?_
          refine kI ?_
          refine zPs (pc1 := 127) (l1 := [(7, .int (0 : Int32)), (0, .ref 292), (1, .int (i32 h33)), (2, .int b), (3, .int c), (4, .int e), (5, .int f), (6, .int g)]) (st1 := []) 1 rfl rfl rfl ?_
          refine zRv rfl rfl ?_
          simpa [sQueue, thr, h1, h2, h6, h34, hNh33, hclh33, h38] using k
      · refine kI ?_
        refine zPs (pc1 := 75) (l1 := [(7, .int (0 : Int32)), (0, .ref 292), (1, .int a), (2, .int b), (3, .int c), (4, .int e), (5, .int f), (6, .int g)]) (st1 := [.int (0 : Int32), .int (0 : Int32), .int (7 : Int32), .int a, .ref 292]) 3 rfl rfl rfl ?_
        refine zCv (mj := 111) (k := 292) (n := 4) rfl rfl rfl rfl (by decide) rfl rfl rfl rfl rfl rfl ?_
        refine c_111n7 ?_
        refine kI ?_
        refine zPs (pc1 := 127) (l1 := [(7, .int (0 : Int32)), (0, .ref 292), (1, .int a), (2, .int b), (3, .int c), (4, .int e), (5, .int f), (6, .int g)]) (st1 := []) 1 rfl rfl rfl ?_
        refine zRv rfl rfl ?_
        simpa [sQueue, thr, h1, h2, h6, h36] using k
  · refine kI ?_
    refine zPs (pc1 := 54) (l1 := [(7, .int (0 : Int32)), (0, .ref 292), (1, .int a), (2, .int b), (3, .int c), (4, .int e), (5, .int f), (6, .int g)]) (st1 := [.int a, .int (7 : Int32), .int a, .ref 292]) 7 rfl rfl rfl ?_
    refine zCs (mj := 108) rfl rfl rfl rfl rfl rfl rfl rfl ?_
    refine c_108 (fun h39 h40 h41 => ?_) (fun h42 => ?_)
    · obtain rfl := h41
      have hNh39 := isN_of h40
      have hclh39 := i32_cl (n := h39) (by omega)
      refine kI ?_
      refine zPs (pc1 := 62) (l1 := [(7, .int (0 : Int32)), (0, .ref 292), (1, .int (i32 h39)), (2, .int b), (3, .int c), (4, .int e), (5, .int f), (6, .int g)]) (st1 := [.int g, .int (7 : Int32), .int (i32 h39), .ref 292]) 2 rfl rfl rfl ?_
      refine zCs (mj := 109) rfl rfl rfl rfl rfl rfl rfl rfl ?_
      refine c_109 (fun h43 => ?_) (fun h44 => ?_)
      · refine kI ?_
        refine zPs (pc1 := 75) (l1 := [(7, .int (0 : Int32)), (0, .ref 292), (1, .int (i32 h39)), (2, .int b), (3, .int c), (4, .int e), (5, .int f), (6, .int g)]) (st1 := [.int (0 : Int32), .int (1 : Int32), .int (7 : Int32), .int (i32 h39), .ref 292]) 4 rfl rfl rfl ?_
        refine zCv (mj := 111) (k := 292) (n := 4) rfl rfl rfl rfl (by decide) rfl rfl rfl rfl rfl rfl ?_
        refine c_111b7 ?_
        refine kI ?_
        refine zPs (pc1 := 127) (l1 := [(7, .int (0 : Int32)), (0, .ref 292), (1, .int (i32 h39)), (2, .int b), (3, .int c), (4, .int e), (5, .int f), (6, .int g)]) (st1 := []) 1 rfl rfl rfl ?_
        refine zRv rfl rfl ?_
        simpa [sQueue, thr, h3, h40, hNh39, hclh39, h43] using k
      · refine kI ?_
        refine zPs (pc1 := 75) (l1 := [(7, .int (0 : Int32)), (0, .ref 292), (1, .int (i32 h39)), (2, .int b), (3, .int c), (4, .int e), (5, .int f), (6, .int g)]) (st1 := [.int (0 : Int32), .int (0 : Int32), .int (7 : Int32), .int (i32 h39), .ref 292]) 3 rfl rfl rfl ?_
        refine zCv (mj := 111) (k := 292) (n := 4) rfl rfl rfl rfl (by decide) rfl rfl rfl rfl rfl rfl ?_
        refine c_111n7 ?_
        refine kI ?_
        refine zPs (pc1 := 127) (l1 := [(7, .int (0 : Int32)), (0, .ref 292), (1, .int (i32 h39)), (2, .int b), (3, .int c), (4, .int e), (5, .int f), (6, .int g)]) (st1 := []) 1 rfl rfl rfl ?_
        refine zRv rfl rfl ?_
        simpa [sQueue, thr, h3, h40, hNh39, hclh39, h44] using k
    · refine kI ?_
      refine zPs (pc1 := 75) (l1 := [(7, .int (0 : Int32)), (0, .ref 292), (1, .int a), (2, .int b), (3, .int c), (4, .int e), (5, .int f), (6, .int g)]) (st1 := [.int (0 : Int32), .int (0 : Int32), .int (7 : Int32), .int a, .ref 292]) 3 rfl rfl rfl ?_
      refine zCv (mj := 111) (k := 292) (n := 4) rfl rfl rfl rfl (by decide) rfl rfl rfl rfl rfl rfl ?_
      refine c_111n7 ?_
      refine kI ?_
      refine zPs (pc1 := 127) (l1 := [(7, .int (0 : Int32)), (0, .ref 292), (1, .int a), (2, .int b), (3, .int c), (4, .int e), (5, .int f), (6, .int g)]) (st1 := []) 1 rfl rfl rfl ?_
      refine zRv rfl rfl ?_
      simpa [sQueue, thr, h3, h42] using k
