/-! ===== the model: branch, times, leaving ===== -/
theorem c_118 {z : Sg} {P : MO → Sg → Prop} {n : Nat} (hl : n ≤ 60) (hn : z 292 19 = i32 n) {a b c e f g : Int32} (k : P (.inl none) (sBranch z n a b c e f g)) : Es true 118 [.ref 292, .int a, .int b, .int c, .int e, .int f, .int g] z P := by
  refine Es.of ?_
  refine zPs (pc1 := 2) (l1 := [(0, .ref 292), (1, .int a), (2, .int b), (3, .int c), (4, .int e), (5, .int f), (6, .int g)]) (st1 := [.int (2 : Int32), .int b]) 2 rfl rfl rfl ?_
  refine zCe rfl (fun h1 => ?_) (fun h1 => ?_)
  · refine zPs (pc1 := 31) (l1 := [(7, .int (5 : Int32)), (0, .ref 292), (1, .int a), (2, .int b), (3, .int c), (4, .int e), (5, .int f), (6, .int g)]) (st1 := [.int (4 : Int32), .int (0 : Int32), .int b]) 6 rfl rfl rfl ?_
    refine zCs (mj := 107) rfl rfl rfl rfl rfl rfl rfl rfl ?_
    refine c_107 (fun h2 h3 => ?_) (fun h4 => ?_)
    · refine kI ?_
      refine zPs (pc1 := 41) (l1 := [(7, .int (5 : Int32)), (0, .ref 292), (1, .int a), (2, .int b), (3, .int c), (4, .int e), (5, .int f), (6, .int g)]) (st1 := [.int (5 : Int32), .int (0 : Int32), .int c]) 4 rfl rfl rfl ?_
      refine zCs (mj := 107) rfl rfl rfl rfl rfl rfl rfl rfl ?_
      refine c_107 (fun h5 h6 => ?_) (fun h7 => ?_)
      · refine kI ?_
        refine zPs (pc1 := 52) (l1 := [(7, .int (5 : Int32)), (0, .ref 292), (1, .int a), (2, .int b), (3, .int c), (4, .int e), (5, .int f), (6, .int g)]) (st1 := [.int (60 : Int32), .int (0 : Int32), .int e]) 4 rfl rfl rfl ?_
        refine zCs (mj := 107) rfl rfl rfl rfl rfl rfl rfl rfl ?_
        refine c_107 (fun h8 h9 => ?_) (fun h10 => ?_)
        · refine kI ?_
          refine zPs (pc1 := 69) (l1 := [(8, .int (1 : Int32)), (7, .int (5 : Int32)), (0, .ref 292), (1, .int a), (2, .int b), (3, .int c), (4, .int e), (5, .int f), (6, .int g)]) (st1 := [.int a, .int (4 : Int32), .int a, .ref 292]) 8 rfl rfl rfl ?_
          refine zCs (mj := 108) rfl rfl rfl rfl rfl rfl rfl rfl ?_
          refine c_108 (fun h11 h12 h13 => ?_) (fun h14 => ?_)
          · obtain rfl := h13
            have hNh11 := isN_of h12
            have hclh11 := i32_cl (n := h11) (by omega)
            refine kI ?_
            refine zPs (pc1 := 77) (l1 := [(8, .int (1 : Int32)), (7, .int (5 : Int32)), (0, .ref 292), (1, .int (i32 h11)), (2, .int b), (3, .int c), (4, .int e), (5, .int f), (6, .int g)]) (st1 := [.int f, .int (4 : Int32), .int (i32 h11), .ref 292]) 2 rfl rfl rfl ?_
            refine zCs (mj := 109) rfl rfl rfl rfl rfl rfl rfl rfl ?_
            refine c_109 (fun h15 => ?_) (fun h16 => ?_)
            · refine kI ?_
              refine zPs (pc1 := 85) (l1 := [(8, .int (1 : Int32)), (7, .int (5 : Int32)), (0, .ref 292), (1, .int (i32 h11)), (2, .int b), (3, .int c), (4, .int e), (5, .int f), (6, .int g)]) (st1 := [.int g, .int (4 : Int32), .int (i32 h11), .ref 292]) 2 rfl rfl rfl ?_
              refine zCs (mj := 109) rfl rfl rfl rfl rfl rfl rfl rfl ?_
              refine c_109 (fun h17 => ?_) (fun h18 => ?_)
              · refine kI ?_
                refine zPs (pc1 := 98) (l1 := [(8, .int (1 : Int32)), (7, .int (5 : Int32)), (0, .ref 292), (1, .int (i32 h11)), (2, .int b), (3, .int c), (4, .int e), (5, .int f), (6, .int g)]) (st1 := [.int (1 : Int32), .int (1 : Int32), .int (4 : Int32), .int (i32 h11), .ref 292]) 4 rfl rfl rfl ?_
                refine zCv (mj := 111) (k := 292) (n := 4) rfl rfl rfl rfl (by decide) rfl rfl rfl rfl rfl rfl ?_
                refine c_111o4 hl hn (by omega) (fun h19 => ?_) (fun h20 => ?_)
                · refine kI ?_
                  refine zPs (pc1 := 105) (l1 := [(8, .int (1 : Int32)), (7, .int (5 : Int32)), (0, .ref 292), (1, .int (i32 h11)), (2, .int b), (3, .int c), (4, .int e), (5, .int f), (6, .int g)]) (st1 := [.ref 292]) 2 rfl rfl rfl ?_
                  refine zGetR (r := 297) rfl rfl ⟨by decide, rfl, by decide, rfl⟩ ?_
                  refine zPs (pc1 := 110) (l1 := [(8, .int (1 : Int32)), (7, .int (5 : Int32)), (0, .ref 292), (1, .int (i32 h11)), (2, .int b), (3, .int c), (4, .int e), (5, .int f), (6, .int g)]) (st1 := [.int c, .int (i32 h11), .ref 297]) 2 rfl rfl rfl ?_
                  refine zIas (n := h11) rfl (icM (k := 297) (L := 30) rfl (by omega)) ?_
                  refine zPs (pc1 := 112) (l1 := [(8, .int (1 : Int32)), (7, .int (5 : Int32)), (0, .ref 292), (1, .int (i32 h11)), (2, .int b), (3, .int c), (4, .int e), (5, .int f), (6, .int g)]) (st1 := [.ref 292]) 1 rfl rfl rfl ?_
                  refine zGetR (r := 298) rfl rfl ⟨by decide, rfl, by decide, rfl⟩ ?_
                  refine zPs (pc1 := 118) (l1 := [(8, .int (1 : Int32)), (7, .int (5 : Int32)), (0, .ref 292), (1, .int (i32 h11)), (2, .int b), (3, .int c), (4, .int e), (5, .int f), (6, .int g)]) (st1 := [.int e, .int (i32 h11), .ref 298]) 2 rfl rfl rfl ?_
                  refine zIas (n := h11) rfl (icM (k := 298) (L := 30) rfl (by omega)) ?_
                  refine zPs (pc1 := 120) (l1 := [(8, .int (1 : Int32)), (7, .int (5 : Int32)), (0, .ref 292), (1, .int (i32 h11)), (2, .int b), (3, .int c), (4, .int e), (5, .int f), (6, .int g)]) (st1 := [.ref 292]) 1 rfl rfl rfl ?_
                  refine zGetR (r := 299) rfl rfl ⟨by decide, rfl, by decide, rfl⟩ ?_
                  refine zPs (pc1 := 125) (l1 := [(8, .int (1 : Int32)), (7, .int (5 : Int32)), (0, .ref 292), (1, .int (i32 h11)), (2, .int b), (3, .int c), (4, .int e), (5, .int f), (6, .int g)]) (st1 := [.int b, .int (i32 h11), .ref 299]) 2 rfl rfl rfl ?_
                  refine zIas (n := h11) rfl (icM (k := 299) (L := 30) rfl (by omega)) ?_
                  refine zPs (pc1 := 127) (l1 := [(8, .int (1 : Int32)), (7, .int (5 : Int32)), (0, .ref 292), (1, .int (i32 h11)), (2, .int b), (3, .int c), (4, .int e), (5, .int f), (6, .int g)]) (st1 := [.ref 292]) 1 rfl rfl rfl ?_
                  refine zGetR (r := 301) rfl rfl ⟨by decide, rfl, by decide, rfl⟩ ?_
                  refine zPs (pc1 := 133) (l1 := [(8, .int (1 : Int32)), (7, .int (5 : Int32)), (0, .ref 292), (1, .int (i32 h11)), (2, .int b), (3, .int c), (4, .int e), (5, .int f), (6, .int g)]) (st1 := [.int f, .int (i32 h11), .ref 301]) 2 rfl rfl rfl ?_
                  refine zIas (n := h11) rfl (icM (k := 301) (L := 30) rfl (by omega)) ?_
                  refine zPs (pc1 := 135) (l1 := [(8, .int (1 : Int32)), (7, .int (5 : Int32)), (0, .ref 292), (1, .int (i32 h11)), (2, .int b), (3, .int c), (4, .int e), (5, .int f), (6, .int g)]) (st1 := [.ref 292]) 1 rfl rfl rfl ?_
                  refine zGetR (r := 302) rfl rfl ⟨by decide, rfl, by decide, rfl⟩ ?_
                  refine zPs (pc1 := 141) (l1 := [(8, .int (1 : Int32)), (7, .int (5 : Int32)), (0, .ref 292), (1, .int (i32 h11)), (2, .int b), (3, .int c), (4, .int e), (5, .int f), (6, .int g)]) (st1 := [.int g, .int (i32 h11), .ref 302]) 2 rfl rfl rfl ?_
                  refine zIas (n := h11) rfl (icM (k := 302) (L := 30) rfl (by omega)) ?_
                  refine zRv rfl rfl ?_
                  unfold sBranch thr at k
                  try simp only [hclh11] at k
                  try simp only [up2_up2]
                  (repeat' split at k) <;> first | exact k | (exfalso; grind [mostA])
                · refine kI ?_
                  refine zPs (pc1 := 142) (l1 := [(8, .int (1 : Int32)), (7, .int (5 : Int32)), (0, .ref 292), (1, .int (i32 h11)), (2, .int b), (3, .int c), (4, .int e), (5, .int f), (6, .int g)]) (st1 := []) 1 rfl rfl rfl ?_
                  refine zRv rfl rfl ?_
                  unfold sBranch thr at k
                  try simp only [hclh11] at k
                  try simp only [up2_up2]
                  (repeat' split at k) <;> first | exact k | (exfalso; grind [mostA])
              · refine kI ?_
                refine zPs (pc1 := 98) (l1 := [(8, .int (1 : Int32)), (7, .int (5 : Int32)), (0, .ref 292), (1, .int (i32 h11)), (2, .int b), (3, .int c), (4, .int e), (5, .int f), (6, .int g)]) (st1 := [.int (1 : Int32), .int (0 : Int32), .int (4 : Int32), .int (i32 h11), .ref 292]) 3 rfl rfl rfl ?_
                refine zCv (mj := 111) (k := 292) (n := 4) rfl rfl rfl rfl (by decide) rfl rfl rfl rfl rfl rfl ?_
                refine c_111n4 ?_
                refine kI ?_
                refine zPs (pc1 := 142) (l1 := [(8, .int (1 : Int32)), (7, .int (5 : Int32)), (0, .ref 292), (1, .int (i32 h11)), (2, .int b), (3, .int c), (4, .int e), (5, .int f), (6, .int g)]) (st1 := []) 1 rfl rfl rfl ?_
                refine zRv rfl rfl ?_
                unfold sBranch thr at k
                try simp only [hclh11] at k
                try simp only [up2_up2]
                (repeat' split at k) <;> first | exact k | (exfalso; grind [mostA])
            · refine kI ?_
              refine zPs (pc1 := 98) (l1 := [(8, .int (1 : Int32)), (7, .int (5 : Int32)), (0, .ref 292), (1, .int (i32 h11)), (2, .int b), (3, .int c), (4, .int e), (5, .int f), (6, .int g)]) (st1 := [.int (1 : Int32), .int (0 : Int32), .int (4 : Int32), .int (i32 h11), .ref 292]) 3 rfl rfl rfl ?_
              refine zCv (mj := 111) (k := 292) (n := 4) rfl rfl rfl rfl (by decide) rfl rfl rfl rfl rfl rfl ?_
              refine c_111n4 ?_
              refine kI ?_
              refine zPs (pc1 := 142) (l1 := [(8, .int (1 : Int32)), (7, .int (5 : Int32)), (0, .ref 292), (1, .int (i32 h11)), (2, .int b), (3, .int c), (4, .int e), (5, .int f), (6, .int g)]) (st1 := []) 1 rfl rfl rfl ?_
              refine zRv rfl rfl ?_
              unfold sBranch thr at k
              try simp only [hclh11] at k
              try simp only [up2_up2]
              (repeat' split at k) <;> first | exact k | (exfalso; grind [mostA])
          · refine kI ?_
            refine zPs (pc1 := 98) (l1 := [(8, .int (1 : Int32)), (7, .int (5 : Int32)), (0, .ref 292), (1, .int a), (2, .int b), (3, .int c), (4, .int e), (5, .int f), (6, .int g)]) (st1 := [.int (1 : Int32), .int (0 : Int32), .int (4 : Int32), .int a, .ref 292]) 3 rfl rfl rfl ?_
            refine zCv (mj := 111) (k := 292) (n := 4) rfl rfl rfl rfl (by decide) rfl rfl rfl rfl rfl rfl ?_
            refine c_111n4 ?_
            refine kI ?_
            refine zPs (pc1 := 142) (l1 := [(8, .int (1 : Int32)), (7, .int (5 : Int32)), (0, .ref 292), (1, .int a), (2, .int b), (3, .int c), (4, .int e), (5, .int f), (6, .int g)]) (st1 := []) 1 rfl rfl rfl ?_
            refine zRv rfl rfl ?_
            unfold sBranch thr at k
            try simp only [up2_up2]
            (repeat' split at k) <;> first | exact k | (exfalso; grind [mostA])
        · refine kI ?_
          refine zPs (pc1 := 69) (l1 := [(8, .int (0 : Int32)), (7, .int (5 : Int32)), (0, .ref 292), (1, .int a), (2, .int b), (3, .int c), (4, .int e), (5, .int f), (6, .int g)]) (st1 := [.int a, .int (4 : Int32), .int a, .ref 292]) 7 rfl rfl rfl ?_
          refine zCs (mj := 108) rfl rfl rfl rfl rfl rfl rfl rfl ?_
          refine c_108 (fun h21 h22 h23 => ?_) (fun h24 => ?_)
          · obtain rfl := h23
            have hNh21 := isN_of h22
            have hclh21 := i32_cl (n := h21) (by omega)
            refine kI ?_
            refine zPs (pc1 := 77) (l1 := [(8, .int (0 : Int32)), (7, .int (5 : Int32)), (0, .ref 292), (1, .int (i32 h21)), (2, .int b), (3, .int c), (4, .int e), (5, .int f), (6, .int g)]) (st1 := [.int f, .int (4 : Int32), .int (i32 h21), .ref 292]) 2 rfl rfl rfl ?_
            refine zCs (mj := 109) rfl rfl rfl rfl rfl rfl rfl rfl ?_
            refine c_109 (fun h25 => ?_) (fun h26 => ?_)
            · refine kI ?_
              refine zPs (pc1 := 85) (l1 := [(8, .int (0 : Int32)), (7, .int (5 : Int32)), (0, .ref 292), (1, .int (i32 h21)), (2, .int b), (3, .int c), (4, .int e), (5, .int f), (6, .int g)]) (st1 := [.int g, .int (4 : Int32), .int (i32 h21), .ref 292]) 2 rfl rfl rfl ?_
              refine zCs (mj := 109) rfl rfl rfl rfl rfl rfl rfl rfl ?_
              refine c_109 (fun h27 => ?_) (fun h28 => ?_)
              · refine kI ?_
                refine zPs (pc1 := 98) (l1 := [(8, .int (0 : Int32)), (7, .int (5 : Int32)), (0, .ref 292), (1, .int (i32 h21)), (2, .int b), (3, .int c), (4, .int e), (5, .int f), (6, .int g)]) (st1 := [.int (0 : Int32), .int (1 : Int32), .int (4 : Int32), .int (i32 h21), .ref 292]) 4 rfl rfl rfl ?_
                refine zCv (mj := 111) (k := 292) (n := 4) rfl rfl rfl rfl (by decide) rfl rfl rfl rfl rfl rfl ?_
                refine c_111b4 ?_
                refine kI ?_
                refine zPs (pc1 := 142) (l1 := [(8, .int (0 : Int32)), (7, .int (5 : Int32)), (0, .ref 292), (1, .int (i32 h21)), (2, .int b), (3, .int c), (4, .int e), (5, .int f), (6, .int g)]) (st1 := []) 1 rfl rfl rfl ?_
                refine zRv rfl rfl ?_
                unfold sBranch thr at k
                try simp only [hclh21] at k
                try simp only [up2_up2]
                (repeat' split at k) <;> first | exact k | (exfalso; grind [mostA])
              · refine kI ?_
                refine zPs (pc1 := 98) (l1 := [(8, .int (0 : Int32)), (7, .int (5 : Int32)), (0, .ref 292), (1, .int (i32 h21)), (2, .int b), (3, .int c), (4, .int e), (5, .int f), (6, .int g)]) (st1 := [.int (0 : Int32), .int (0 : Int32), .int (4 : Int32), .int (i32 h21), .ref 292]) 3 rfl rfl rfl ?_
                refine zCv (mj := 111) (k := 292) (n := 4) rfl rfl rfl rfl (by decide) rfl rfl rfl rfl rfl rfl ?_
                refine c_111n4 ?_
                refine kI ?_
                refine zPs (pc1 := 142) (l1 := [(8, .int (0 : Int32)), (7, .int (5 : Int32)), (0, .ref 292), (1, .int (i32 h21)), (2, .int b), (3, .int c), (4, .int e), (5, .int f), (6, .int g)]) (st1 := []) 1 rfl rfl rfl ?_
                refine zRv rfl rfl ?_
                unfold sBranch thr at k
                try simp only [hclh21] at k
                try simp only [up2_up2]
                (repeat' split at k) <;> first | exact k | (exfalso; grind [mostA])
            · refine kI ?_
              refine zPs (pc1 := 98) (l1 := [(8, .int (0 : Int32)), (7, .int (5 : Int32)), (0, .ref 292), (1, .int (i32 h21)), (2, .int b), (3, .int c), (4, .int e), (5, .int f), (6, .int g)]) (st1 := [.int (0 : Int32), .int (0 : Int32), .int (4 : Int32), .int (i32 h21), .ref 292]) 3 rfl rfl rfl ?_
              refine zCv (mj := 111) (k := 292) (n := 4) rfl rfl rfl rfl (by decide) rfl rfl rfl rfl rfl rfl ?_
              refine c_111n4 ?_
              refine kI ?_
              refine zPs (pc1 := 142) (l1 := [(8, .int (0 : Int32)), (7, .int (5 : Int32)), (0, .ref 292), (1, .int (i32 h21)), (2, .int b), (3, .int c), (4, .int e), (5, .int f), (6, .int g)]) (st1 := []) 1 rfl rfl rfl ?_
              refine zRv rfl rfl ?_
              unfold sBranch thr at k
              try simp only [hclh21] at k
              try simp only [up2_up2]
              (repeat' split at k) <;> first | exact k | (exfalso; grind [mostA])
          · refine kI ?_
            refine zPs (pc1 := 98) (l1 := [(8, .int (0 : Int32)), (7, .int (5 : Int32)), (0, .ref 292), (1, .int a), (2, .int b), (3, .int c), (4, .int e), (5, .int f), (6, .int g)]) (st1 := [.int (0 : Int32), .int (0 : Int32), .int (4 : Int32), .int a, .ref 292]) 3 rfl rfl rfl ?_
            refine zCv (mj := 111) (k := 292) (n := 4) rfl rfl rfl rfl (by decide) rfl rfl rfl rfl rfl rfl ?_
            refine c_111n4 ?_
            refine kI ?_
            refine zPs (pc1 := 142) (l1 := [(8, .int (0 : Int32)), (7, .int (5 : Int32)), (0, .ref 292), (1, .int a), (2, .int b), (3, .int c), (4, .int e), (5, .int f), (6, .int g)]) (st1 := []) 1 rfl rfl rfl ?_
            refine zRv rfl rfl ?_
            unfold sBranch thr at k
            try simp only [up2_up2]
            (repeat' split at k) <;> first | exact k | (exfalso; grind [mostA])
      · refine kI ?_
        refine zPs (pc1 := 69) (l1 := [(8, .int (0 : Int32)), (7, .int (5 : Int32)), (0, .ref 292), (1, .int a), (2, .int b), (3, .int c), (4, .int e), (5, .int f), (6, .int g)]) (st1 := [.int a, .int (4 : Int32), .int a, .ref 292]) 7 rfl rfl rfl ?_
        refine zCs (mj := 108) rfl rfl rfl rfl rfl rfl rfl rfl ?_
        refine c_108 (fun h29 h30 h31 => ?_) (fun h32 => ?_)
        · obtain rfl := h31
          have hNh29 := isN_of h30
          have hclh29 := i32_cl (n := h29) (by omega)
          refine kI ?_
          refine zPs (pc1 := 77) (l1 := [(8, .int (0 : Int32)), (7, .int (5 : Int32)), (0, .ref 292), (1, .int (i32 h29)), (2, .int b), (3, .int c), (4, .int e), (5, .int f), (6, .int g)]) (st1 := [.int f, .int (4 : Int32), .int (i32 h29), .ref 292]) 2 rfl rfl rfl ?_
          refine zCs (mj := 109) rfl rfl rfl rfl rfl rfl rfl rfl ?_
          refine c_109 (fun h33 => ?_) (fun h34 => ?_)
          · refine kI ?_
            refine zPs (pc1 := 85) (l1 := [(8, .int (0 : Int32)), (7, .int (5 : Int32)), (0, .ref 292), (1, .int (i32 h29)), (2, .int b), (3, .int c), (4, .int e), (5, .int f), (6, .int g)]) (st1 := [.int g, .int (4 : Int32), .int (i32 h29), .ref 292]) 2 rfl rfl rfl ?_
            refine zCs (mj := 109) rfl rfl rfl rfl rfl rfl rfl rfl ?_
            refine c_109 (fun h35 => ?_) (fun h36 => ?_)
            · refine kI ?_
              refine zPs (pc1 := 98) (l1 := [(8, .int (0 : Int32)), (7, .int (5 : Int32)), (0, .ref 292), (1, .int (i32 h29)), (2, .int b), (3, .int c), (4, .int e), (5, .int f), (6, .int g)]) (st1 := [.int (0 : Int32), .int (1 : Int32), .int (4 : Int32), .int (i32 h29), .ref 292]) 4 rfl rfl rfl ?_
              refine zCv (mj := 111) (k := 292) (n := 4) rfl rfl rfl rfl (by decide) rfl rfl rfl rfl rfl rfl ?_
              refine c_111b4 ?_
              refine kI ?_
              refine zPs (pc1 := 142) (l1 := [(8, .int (0 : Int32)), (7, .int (5 : Int32)), (0, .ref 292), (1, .int (i32 h29)), (2, .int b), (3, .int c), (4, .int e), (5, .int f), (6, .int g)]) (st1 := []) 1 rfl rfl rfl ?_
              refine zRv rfl rfl ?_
              unfold sBranch thr at k
              try simp only [hclh29] at k
              try simp only [up2_up2]
              (repeat' split at k) <;> first | exact k | (exfalso; grind [mostA])
            · refine kI ?_
              refine zPs (pc1 := 98) (l1 := [(8, .int (0 : Int32)), (7, .int (5 : Int32)), (0, .ref 292), (1, .int (i32 h29)), (2, .int b), (3, .int c), (4, .int e), (5, .int f), (6, .int g)]) (st1 := [.int (0 : Int32), .int (0 : Int32), .int (4 : Int32), .int (i32 h29), .ref 292]) 3 rfl rfl rfl ?_
              refine zCv (mj := 111) (k := 292) (n := 4) rfl rfl rfl rfl (by decide) rfl rfl rfl rfl rfl rfl ?_
              refine c_111n4 ?_
              refine kI ?_
              refine zPs (pc1 := 142) (l1 := [(8, .int (0 : Int32)), (7, .int (5 : Int32)), (0, .ref 292), (1, .int (i32 h29)), (2, .int b), (3, .int c), (4, .int e), (5, .int f), (6, .int g)]) (st1 := []) 1 rfl rfl rfl ?_
              refine zRv rfl rfl ?_
              unfold sBranch thr at k
              try simp only [hclh29] at k
              try simp only [up2_up2]
              (repeat' split at k) <;> first | exact k | (exfalso; grind [mostA])
          · refine kI ?_
            refine zPs (pc1 := 98) (l1 := [(8, .int (0 : Int32)), (7, .int (5 : Int32)), (0, .ref 292), (1, .int (i32 h29)), (2, .int b), (3, .int c), (4, .int e), (5, .int f), (6, .int g)]) (st1 := [.int (0 : Int32), .int (0 : Int32), .int (4 : Int32), .int (i32 h29), .ref 292]) 3 rfl rfl rfl ?_
            refine zCv (mj := 111) (k := 292) (n := 4) rfl rfl rfl rfl (by decide) rfl rfl rfl rfl rfl rfl ?_
            refine c_111n4 ?_
            refine kI ?_
            refine zPs (pc1 := 142) (l1 := [(8, .int (0 : Int32)), (7, .int (5 : Int32)), (0, .ref 292), (1, .int (i32 h29)), (2, .int b), (3, .int c), (4, .int e), (5, .int f), (6, .int g)]) (st1 := []) 1 rfl rfl rfl ?_
            refine zRv rfl rfl ?_
            unfold sBranch thr at k
            try simp only [hclh29] at k
            try simp only [up2_up2]
            (repeat' split at k) <;> first | exact k | (exfalso; grind [mostA])
        · refine kI ?_
          refine zPs (pc1 := 98) (l1 := [(8, .int (0 : Int32)), (7, .int (5 : Int32)), (0, .ref 292), (1, .int a), (2, .int b), (3, .int c), (4, .int e), (5, .int f), (6, .int g)]) (st1 := [.int (0 : Int32), .int (0 : Int32), .int (4 : Int32), .int a, .ref 292]) 3 rfl rfl rfl ?_
          refine zCv (mj := 111) (k := 292) (n := 4) rfl rfl rfl rfl (by decide) rfl rfl rfl rfl rfl rfl ?_
          refine c_111n4 ?_
          refine kI ?_
          refine zPs (pc1 := 142) (l1 := [(8, .int (0 : Int32)), (7, .int (5 : Int32)), (0, .ref 292), (1, .int a), (2, .int b), (3, .int c), (4, .int e), (5, .int f), (6, .int g)]) (st1 := []) 1 rfl rfl rfl ?_
          refine zRv rfl rfl ?_
          unfold sBranch thr at k
          try simp only [up2_up2]
          (repeat' split at k) <;> first | exact k | (exfalso; grind [mostA])
    · refine kI ?_
      refine zPs (pc1 := 69) (l1 := [(8, .int (0 : Int32)), (7, .int (5 : Int32)), (0, .ref 292), (1, .int a), (2, .int b), (3, .int c), (4, .int e), (5, .int f), (6, .int g)]) (st1 := [.int a, .int (4 : Int32), .int a, .ref 292]) 7 rfl rfl rfl ?_
      refine zCs (mj := 108) rfl rfl rfl rfl rfl rfl rfl rfl ?_
      refine c_108 (fun h37 h38 h39 => ?_) (fun h40 => ?_)
      · obtain rfl := h39
        have hNh37 := isN_of h38
        have hclh37 := i32_cl (n := h37) (by omega)
        refine kI ?_
        refine zPs (pc1 := 77) (l1 := [(8, .int (0 : Int32)), (7, .int (5 : Int32)), (0, .ref 292), (1, .int (i32 h37)), (2, .int b), (3, .int c), (4, .int e), (5, .int f), (6, .int g)]) (st1 := [.int f, .int (4 : Int32), .int (i32 h37), .ref 292]) 2 rfl rfl rfl ?_
        refine zCs (mj := 109) rfl rfl rfl rfl rfl rfl rfl rfl ?_
        refine c_109 (fun h41 => ?_) (fun h42 => ?_)
        · refine kI ?_
          refine zPs (pc1 := 85) (l1 := [(8, .int (0 : Int32)), (7, .int (5 : Int32)), (0, .ref 292), (1, .int (i32 h37)), (2, .int b), (3, .int c), (4, .int e), (5, .int f), (6, .int g)]) (st1 := [.int g, .int (4 : Int32), .int (i32 h37), .ref 292]) 2 rfl rfl rfl ?_
          refine zCs (mj := 109) rfl rfl rfl rfl rfl rfl rfl rfl ?_
          refine c_109 (fun h43 => ?_) (fun h44 => ?_)
          · refine kI ?_
            refine zPs (pc1 := 98) (l1 := [(8, .int (0 : Int32)), (7, .int (5 : Int32)), (0, .ref 292), (1, .int (i32 h37)), (2, .int b), (3, .int c), (4, .int e), (5, .int f), (6, .int g)]) (st1 := [.int (0 : Int32), .int (1 : Int32), .int (4 : Int32), .int (i32 h37), .ref 292]) 4 rfl rfl rfl ?_
            refine zCv (mj := 111) (k := 292) (n := 4) rfl rfl rfl rfl (by decide) rfl rfl rfl rfl rfl rfl ?_
            refine c_111b4 ?_
            refine kI ?_
            refine zPs (pc1 := 142) (l1 := [(8, .int (0 : Int32)), (7, .int (5 : Int32)), (0, .ref 292), (1, .int (i32 h37)), (2, .int b), (3, .int c), (4, .int e), (5, .int f), (6, .int g)]) (st1 := []) 1 rfl rfl rfl ?_
            refine zRv rfl rfl ?_
            unfold sBranch thr at k
            try simp only [hclh37] at k
            try simp only [up2_up2]
            (repeat' split at k) <;> first | exact k | (exfalso; grind [mostA])
          · refine kI ?_
            refine zPs (pc1 := 98) (l1 := [(8, .int (0 : Int32)), (7, .int (5 : Int32)), (0, .ref 292), (1, .int (i32 h37)), (2, .int b), (3, .int c), (4, .int e), (5, .int f), (6, .int g)]) (st1 := [.int (0 : Int32), .int (0 : Int32), .int (4 : Int32), .int (i32 h37), .ref 292]) 3 rfl rfl rfl ?_
            refine zCv (mj := 111) (k := 292) (n := 4) rfl rfl rfl rfl (by decide) rfl rfl rfl rfl rfl rfl ?_
            refine c_111n4 ?_
            refine kI ?_
            refine zPs (pc1 := 142) (l1 := [(8, .int (0 : Int32)), (7, .int (5 : Int32)), (0, .ref 292), (1, .int (i32 h37)), (2, .int b), (3, .int c), (4, .int e), (5, .int f), (6, .int g)]) (st1 := []) 1 rfl rfl rfl ?_
            refine zRv rfl rfl ?_
            unfold sBranch thr at k
            try simp only [hclh37] at k
            try simp only [up2_up2]
            (repeat' split at k) <;> first | exact k | (exfalso; grind [mostA])
        · refine kI ?_
          refine zPs (pc1 := 98) (l1 := [(8, .int (0 : Int32)), (7, .int (5 : Int32)), (0, .ref 292), (1, .int (i32 h37)), (2, .int b), (3, .int c), (4, .int e), (5, .int f), (6, .int g)]) (st1 := [.int (0 : Int32), .int (0 : Int32), .int (4 : Int32), .int (i32 h37), .ref 292]) 3 rfl rfl rfl ?_
          refine zCv (mj := 111) (k := 292) (n := 4) rfl rfl rfl rfl (by decide) rfl rfl rfl rfl rfl rfl ?_
          refine c_111n4 ?_
          refine kI ?_
          refine zPs (pc1 := 142) (l1 := [(8, .int (0 : Int32)), (7, .int (5 : Int32)), (0, .ref 292), (1, .int (i32 h37)), (2, .int b), (3, .int c), (4, .int e), (5, .int f), (6, .int g)]) (st1 := []) 1 rfl rfl rfl ?_
          refine zRv rfl rfl ?_
          unfold sBranch thr at k
          try simp only [hclh37] at k
          try simp only [up2_up2]
          (repeat' split at k) <;> first | exact k | (exfalso; grind [mostA])
      · refine kI ?_
        refine zPs (pc1 := 98) (l1 := [(8, .int (0 : Int32)), (7, .int (5 : Int32)), (0, .ref 292), (1, .int a), (2, .int b), (3, .int c), (4, .int e), (5, .int f), (6, .int g)]) (st1 := [.int (0 : Int32), .int (0 : Int32), .int (4 : Int32), .int a, .ref 292]) 3 rfl rfl rfl ?_
        refine zCv (mj := 111) (k := 292) (n := 4) rfl rfl rfl rfl (by decide) rfl rfl rfl rfl rfl rfl ?_
        refine c_111n4 ?_
        refine kI ?_
        refine zPs (pc1 := 142) (l1 := [(8, .int (0 : Int32)), (7, .int (5 : Int32)), (0, .ref 292), (1, .int a), (2, .int b), (3, .int c), (4, .int e), (5, .int f), (6, .int g)]) (st1 := []) 1 rfl rfl rfl ?_
        refine zRv rfl rfl ?_
        unfold sBranch thr at k
        try simp only [up2_up2]
        (repeat' split at k) <;> first | exact k | (exfalso; grind [mostA])
  · refine zPs (pc1 := 7) (l1 := [(0, .ref 292), (1, .int a), (2, .int b), (3, .int c), (4, .int e), (5, .int f), (6, .int g)]) (st1 := [.int (4 : Int32), .int b]) 2 rfl rfl rfl ?_
    refine zCn rfl (fun h45 => ?_) (fun h45 => ?_)
    · refine zPs (pc1 := 16) (l1 := [(0, .ref 292), (1, .int a), (2, .int b), (3, .int c), (4, .int e), (5, .int f), (6, .int g)]) (st1 := [.int (3 : Int32), .int b]) 2 rfl rfl rfl ?_
      refine zCn rfl (fun h46 => ?_) (fun h46 => ?_)
      · refine zLdc (v := (999999 : Int32)) rfl rfl ?_
        refine zPs (pc1 := 31) (l1 := [(7, .int (999999 : Int32)), (0, .ref 292), (1, .int a), (2, .int b), (3, .int c), (4, .int e), (5, .int f), (6, .int g)]) (st1 := [.int (4 : Int32), .int (0 : Int32), .int b]) 4 rfl rfl rfl ?_
        refine zCs (mj := 107) rfl rfl rfl rfl rfl rfl rfl rfl ?_
        refine c_107 (fun h47 h48 => ?_) (fun h49 => ?_)
        · refine kI ?_
          refine zPs (pc1 := 41) (l1 := [(7, .int (999999 : Int32)), (0, .ref 292), (1, .int a), (2, .int b), (3, .int c), (4, .int e), (5, .int f), (6, .int g)]) (st1 := [.int (999999 : Int32), .int (0 : Int32), .int c]) 4 rfl rfl rfl ?_
          refine zCs (mj := 107) rfl rfl rfl rfl rfl rfl rfl rfl ?_
          refine c_107 (fun h50 h51 => ?_) (fun h52 => ?_)
          · refine kI ?_
            refine zPs (pc1 := 52) (l1 := [(7, .int (999999 : Int32)), (0, .ref 292), (1, .int a), (2, .int b), (3, .int c), (4, .int e), (5, .int f), (6, .int g)]) (st1 := [.int (60 : Int32), .int (0 : Int32), .int e]) 4 rfl rfl rfl ?_
            refine zCs (mj := 107) rfl rfl rfl rfl rfl rfl rfl rfl ?_
            refine c_107 (fun h53 h54 => ?_) (fun h55 => ?_)
            · refine kI ?_
              refine zPs (pc1 := 69) (l1 := [(8, .int (1 : Int32)), (7, .int (999999 : Int32)), (0, .ref 292), (1, .int a), (2, .int b), (3, .int c), (4, .int e), (5, .int f), (6, .int g)]) (st1 := [.int a, .int (4 : Int32), .int a, .ref 292]) 8 rfl rfl rfl ?_
              refine zCs (mj := 108) rfl rfl rfl rfl rfl rfl rfl rfl ?_
              refine c_108 (fun h56 h57 h58 => ?_) (fun h59 => ?_)
              · obtain rfl := h58
                have hNh56 := isN_of h57
                have hclh56 := i32_cl (n := h56) (by omega)
                refine kI ?_
                refine zPs (pc1 := 77) (l1 := [(8, .int (1 : Int32)), (7, .int (999999 : Int32)), (0, .ref 292), (1, .int (i32 h56)), (2, .int b), (3, .int c), (4, .int e), (5, .int f), (6, .int g)]) (st1 := [.int f, .int (4 : Int32), .int (i32 h56), .ref 292]) 2 rfl rfl rfl ?_
                refine zCs (mj := 109) rfl rfl rfl rfl rfl rfl rfl rfl ?_
                refine c_109 (fun h60 => ?_) (fun h61 => ?_)
                · refine kI ?_
                  refine zPs (pc1 := 85) (l1 := [(8, .int (1 : Int32)), (7, .int (999999 : Int32)), (0, .ref 292), (1, .int (i32 h56)), (2, .int b), (3, .int c), (4, .int e), (5, .int f), (6, .int g)]) (st1 := [.int g, .int (4 : Int32), .int (i32 h56), .ref 292]) 2 rfl rfl rfl ?_
                  refine zCs (mj := 109) rfl rfl rfl rfl rfl rfl rfl rfl ?_
                  refine c_109 (fun h62 => ?_) (fun h63 => ?_)
                  · refine kI ?_
                    refine zPs (pc1 := 98) (l1 := [(8, .int (1 : Int32)), (7, .int (999999 : Int32)), (0, .ref 292), (1, .int (i32 h56)), (2, .int b), (3, .int c), (4, .int e), (5, .int f), (6, .int g)]) (st1 := [.int (1 : Int32), .int (1 : Int32), .int (4 : Int32), .int (i32 h56), .ref 292]) 4 rfl rfl rfl ?_
                    refine zCv (mj := 111) (k := 292) (n := 4) rfl rfl rfl rfl (by decide) rfl rfl rfl rfl rfl rfl ?_
                    refine c_111o4 hl hn (by omega) (fun h64 => ?_) (fun h65 => ?_)
                    · refine kI ?_
                      refine zPs (pc1 := 105) (l1 := [(8, .int (1 : Int32)), (7, .int (999999 : Int32)), (0, .ref 292), (1, .int (i32 h56)), (2, .int b), (3, .int c), (4, .int e), (5, .int f), (6, .int g)]) (st1 := [.ref 292]) 2 rfl rfl rfl ?_
                      refine zGetR (r := 297) rfl rfl ⟨by decide, rfl, by decide, rfl⟩ ?_
                      refine zPs (pc1 := 110) (l1 := [(8, .int (1 : Int32)), (7, .int (999999 : Int32)), (0, .ref 292), (1, .int (i32 h56)), (2, .int b), (3, .int c), (4, .int e), (5, .int f), (6, .int g)]) (st1 := [.int c, .int (i32 h56), .ref 297]) 2 rfl rfl rfl ?_
                      refine zIas (n := h56) rfl (icM (k := 297) (L := 30) rfl (by omega)) ?_
                      refine zPs (pc1 := 112) (l1 := [(8, .int (1 : Int32)), (7, .int (999999 : Int32)), (0, .ref 292), (1, .int (i32 h56)), (2, .int b), (3, .int c), (4, .int e), (5, .int f), (6, .int g)]) (st1 := [.ref 292]) 1 rfl rfl rfl ?_
                      refine zGetR (r := 298) rfl rfl ⟨by decide, rfl, by decide, rfl⟩ ?_
                      refine zPs (pc1 := 118) (l1 := [(8, .int (1 : Int32)), (7, .int (999999 : Int32)), (0, .ref 292), (1, .int (i32 h56)), (2, .int b), (3, .int c), (4, .int e), (5, .int f), (6, .int g)]) (st1 := [.int e, .int (i32 h56), .ref 298]) 2 rfl rfl rfl ?_
                      refine zIas (n := h56) rfl (icM (k := 298) (L := 30) rfl (by omega)) ?_
                      refine zPs (pc1 := 120) (l1 := [(8, .int (1 : Int32)), (7, .int (999999 : Int32)), (0, .ref 292), (1, .int (i32 h56)), (2, .int b), (3, .int c), (4, .int e), (5, .int f), (6, .int g)]) (st1 := [.ref 292]) 1 rfl rfl rfl ?_
                      refine zGetR (r := 299) rfl rfl ⟨by decide, rfl, by decide, rfl⟩ ?_
                      refine zPs (pc1 := 125) (l1 := [(8, .int (1 : Int32)), (7, .int (999999 : Int32)), (0, .ref 292), (1, .int (i32 h56)), (2, .int b), (3, .int c), (4, .int e), (5, .int f), (6, .int g)]) (st1 := [.int b, .int (i32 h56), .ref 299]) 2 rfl rfl rfl ?_
                      refine zIas (n := h56) rfl (icM (k := 299) (L := 30) rfl (by omega)) ?_
                      refine zPs (pc1 := 127) (l1 := [(8, .int (1 : Int32)), (7, .int (999999 : Int32)), (0, .ref 292), (1, .int (i32 h56)), (2, .int b), (3, .int c), (4, .int e), (5, .int f), (6, .int g)]) (st1 := [.ref 292]) 1 rfl rfl rfl ?_
                      refine zGetR (r := 301) rfl rfl ⟨by decide, rfl, by decide, rfl⟩ ?_
                      refine zPs (pc1 := 133) (l1 := [(8, .int (1 : Int32)), (7, .int (999999 : Int32)), (0, .ref 292), (1, .int (i32 h56)), (2, .int b), (3, .int c), (4, .int e), (5, .int f), (6, .int g)]) (st1 := [.int f, .int (i32 h56), .ref 301]) 2 rfl rfl rfl ?_
                      refine zIas (n := h56) rfl (icM (k := 301) (L := 30) rfl (by omega)) ?_
                      refine zPs (pc1 := 135) (l1 := [(8, .int (1 : Int32)), (7, .int (999999 : Int32)), (0, .ref 292), (1, .int (i32 h56)), (2, .int b), (3, .int c), (4, .int e), (5, .int f), (6, .int g)]) (st1 := [.ref 292]) 1 rfl rfl rfl ?_
                      refine zGetR (r := 302) rfl rfl ⟨by decide, rfl, by decide, rfl⟩ ?_
                      refine zPs (pc1 := 141) (l1 := [(8, .int (1 : Int32)), (7, .int (999999 : Int32)), (0, .ref 292), (1, .int (i32 h56)), (2, .int b), (3, .int c), (4, .int e), (5, .int f), (6, .int g)]) (st1 := [.int g, .int (i32 h56), .ref 302]) 2 rfl rfl rfl ?_
                      refine zIas (n := h56) rfl (icM (k := 302) (L := 30) rfl (by omega)) ?_
                      refine zRv rfl rfl ?_
                      unfold sBranch thr at k
                      try simp only [hclh56] at k
                      try simp only [up2_up2]
                      (repeat' split at k) <;> first | exact k | (exfalso; grind [mostA])
                    · refine kI ?_
                      refine zPs (pc1 := 142) (l1 := [(8, .int (1 : Int32)), (7, .int (999999 : Int32)), (0, .ref 292), (1, .int (i32 h56)), (2, .int b), (3, .int c), (4, .int e), (5, .int f), (6, .int g)]) (st1 := []) 1 rfl rfl rfl ?_
                      refine zRv rfl rfl ?_
                      unfold sBranch thr at k
                      try simp only [hclh56] at k
                      try simp only [up2_up2]
                      (repeat' split at k) <;> first | exact k | (exfalso; grind [mostA])
                  · refine kI ?_
                    refine zPs (pc1 := 98) (l1 := [(8, .int (1 : Int32)), (7, .int (999999 : Int32)), (0, .ref 292), (1, .int (i32 h56)), (2, .int b), (3, .int c), (4, .int e), (5, .int f), (6, .int g)]) (st1 := [.int (1 : Int32), .int (0 : Int32), .int (4 : Int32), .int (i32 h56), .ref 292]) 3 rfl rfl rfl ?_
                    refine zCv (mj := 111) (k := 292) (n := 4) rfl rfl rfl rfl (by decide) rfl rfl rfl rfl rfl rfl ?_
                    refine c_111n4 ?_
                    refine kI ?_
                    refine zPs (pc1 := 142) (l1 := [(8, .int (1 : Int32)), (7, .int (999999 : Int32)), (0, .ref 292), (1, .int (i32 h56)), (2, .int b), (3, .int c), (4, .int e), (5, .int f), (6, .int g)]) (st1 := []) 1 rfl rfl rfl ?_
                    refine zRv rfl rfl ?_
                    unfold sBranch thr at k
                    try simp only [hclh56] at k
                    try simp only [up2_up2]
                    (repeat' split at k) <;> first | exact k | (exfalso; grind [mostA])
                · refine kI ?_
                  refine zPs (pc1 := 98) (l1 := [(8, .int (1 : Int32)), (7, .int (999999 : Int32)), (0, .ref 292), (1, .int (i32 h56)), (2, .int b), (3, .int c), (4, .int e), (5, .int f), (6, .int g)]) (st1 := [.int (1 : Int32), .int (0 : Int32), .int (4 : Int32), .int (i32 h56), .ref 292]) 3 rfl rfl rfl ?_
                  refine zCv (mj := 111) (k := 292) (n := 4) rfl rfl rfl rfl (by decide) rfl rfl rfl rfl rfl rfl ?_
                  refine c_111n4 ?_
                  refine kI ?_
                  refine zPs (pc1 := 142) (l1 := [(8, .int (1 : Int32)), (7, .int (999999 : Int32)), (0, .ref 292), (1, .int (i32 h56)), (2, .int b), (3, .int c), (4, .int e), (5, .int f), (6, .int g)]) (st1 := []) 1 rfl rfl rfl ?_
                  refine zRv rfl rfl ?_
                  unfold sBranch thr at k
                  try simp only [hclh56] at k
                  try simp only [up2_up2]
                  (repeat' split at k) <;> first | exact k | (exfalso; grind [mostA])
              · refine kI ?_
                refine zPs (pc1 := 98) (l1 := [(8, .int (1 : Int32)), (7, .int (999999 : Int32)), (0, .ref 292), (1, .int a), (2, .int b), (3, .int c), (4, .int e), (5, .int f), (6, .int g)]) (st1 := [.int (1 : Int32), .int (0 : Int32), .int (4 : Int32), .int a, .ref 292]) 3 rfl rfl rfl ?_
                refine zCv (mj := 111) (k := 292) (n := 4) rfl rfl rfl rfl (by decide) rfl rfl rfl rfl rfl rfl ?_
                refine c_111n4 ?_
                refine kI ?_
                refine zPs (pc1 := 142) (l1 := [(8, .int (1 : Int32)), (7, .int (999999 : Int32)), (0, .ref 292), (1, .int a), (2, .int b), (3, .int c), (4, .int e), (5, .int f), (6, .int g)]) (st1 := []) 1 rfl rfl rfl ?_
                refine zRv rfl rfl ?_
                unfold sBranch thr at k
                try simp only [up2_up2]
                (repeat' split at k) <;> first | exact k | (exfalso; grind [mostA])
            · refine kI ?_
              refine zPs (pc1 := 69) (l1 := [(8, .int (0 : Int32)), (7, .int (999999 : Int32)), (0, .ref 292), (1, .int a), (2, .int b), (3, .int c), (4, .int e), (5, .int f), (6, .int g)]) (st1 := [.int a, .int (4 : Int32), .int a, .ref 292]) 7 rfl rfl rfl ?_
              refine zCs (mj := 108) rfl rfl rfl rfl rfl rfl rfl rfl ?_
              refine c_108 (fun h66 h67 h68 => ?_) (fun h69 => ?_)
              · obtain rfl := h68
                have hNh66 := isN_of h67
                have hclh66 := i32_cl (n := h66) (by omega)
                refine kI ?_
                refine zPs (pc1 := 77) (l1 := [(8, .int (0 : Int32)), (7, .int (999999 : Int32)), (0, .ref 292), (1, .int (i32 h66)), (2, .int b), (3, .int c), (4, .int e), (5, .int f), (6, .int g)]) (st1 := [.int f, .int (4 : Int32), .int (i32 h66), .ref 292]) 2 rfl rfl rfl ?_
                refine zCs (mj := 109) rfl rfl rfl rfl rfl rfl rfl rfl ?_
                refine c_109 (fun h70 => ?_) (fun h71 => ?_)
                · refine kI ?_
                  refine zPs (pc1 := 85) (l1 := [(8, .int (0 : Int32)), (7, .int (999999 : Int32)), (0, .ref 292), (1, .int (i32 h66)), (2, .int b), (3, .int c), (4, .int e), (5, .int f), (6, .int g)]) (st1 := [.int g, .int (4 : Int32), .int (i32 h66), .ref 292]) 2 rfl rfl rfl ?_
                  refine zCs (mj := 109) rfl rfl rfl rfl rfl rfl rfl rfl ?_
                  refine c_109 (fun h72 => ?_) (fun h73 => ?_)
                  · refine kI ?_
                    refine zPs (pc1 := 98) (l1 := [(8, .int (0 : Int32)), (7, .int (999999 : Int32)), (0, .ref 292), (1, .int (i32 h66)), (2, .int b), (3, .int c), (4, .int e), (5, .int f), (6, .int g)]) (st1 := [.int (0 : Int32), .int (1 : Int32), .int (4 : Int32), .int (i32 h66), .ref 292]) 4 rfl rfl rfl ?_
                    refine zCv (mj := 111) (k := 292) (n := 4) rfl rfl rfl rfl (by decide) rfl rfl rfl rfl rfl rfl ?_
                    refine c_111b4 ?_
                    refine kI ?_
                    refine zPs (pc1 := 142) (l1 := [(8, .int (0 : Int32)), (7, .int (999999 : Int32)), (0, .ref 292), (1, .int (i32 h66)), (2, .int b), (3, .int c), (4, .int e), (5, .int f), (6, .int g)]) (st1 := []) 1 rfl rfl rfl ?_
                    refine zRv rfl rfl ?_
                    unfold sBranch thr at k
                    try simp only [hclh66] at k
                    try simp only [up2_up2]
                    (repeat' split at k) <;> first | exact k | (exfalso; grind [mostA])
                  · refine kI ?_
                    refine zPs (pc1 := 98) (l1 := [(8, .int (0 : Int32)), (7, .int (999999 : Int32)), (0, .ref 292), (1, .int (i32 h66)), (2, .int b), (3, .int c), (4, .int e), (5, .int f), (6, .int g)]) (st1 := [.int (0 : Int32), .int (0 : Int32), .int (4 : Int32), .int (i32 h66), .ref 292]) 3 rfl rfl rfl ?_
                    refine zCv (mj := 111) (k := 292) (n := 4) rfl rfl rfl rfl (by decide) rfl rfl rfl rfl rfl rfl ?_
                    refine c_111n4 ?_
                    refine kI ?_
                    refine zPs (pc1 := 142) (l1 := [(8, .int (0 : Int32)), (7, .int (999999 : Int32)), (0, .ref 292), (1, .int (i32 h66)), (2, .int b), (3, .int c), (4, .int e), (5, .int f), (6, .int g)]) (st1 := []) 1 rfl rfl rfl ?_
                    refine zRv rfl rfl ?_
                    unfold sBranch thr at k
                    try simp only [hclh66] at k
                    try simp only [up2_up2]
                    (repeat' split at k) <;> first | exact k | (exfalso; grind [mostA])
                · refine kI ?_
                  refine zPs (pc1 := 98) (l1 := [(8, .int (0 : Int32)), (7, .int (999999 : Int32)), (0, .ref 292), (1, .int (i32 h66)), (2, .int b), (3, .int c), (4, .int e), (5, .int f), (6, .int g)]) (st1 := [.int (0 : Int32), .int (0 : Int32), .int (4 : Int32), .int (i32 h66), .ref 292]) 3 rfl rfl rfl ?_
                  refine zCv (mj := 111) (k := 292) (n := 4) rfl rfl rfl rfl (by decide) rfl rfl rfl rfl rfl rfl ?_
                  refine c_111n4 ?_
                  refine kI ?_
                  refine zPs (pc1 := 142) (l1 := [(8, .int (0 : Int32)), (7, .int (999999 : Int32)), (0, .ref 292), (1, .int (i32 h66)), (2, .int b), (3, .int c), (4, .int e), (5, .int f), (6, .int g)]) (st1 := []) 1 rfl rfl rfl ?_
                  refine zRv rfl rfl ?_
                  unfold sBranch thr at k
                  try simp only [hclh66] at k
                  try simp only [up2_up2]
                  (repeat' split at k) <;> first | exact k | (exfalso; grind [mostA])
              · refine kI ?_
                refine zPs (pc1 := 98) (l1 := [(8, .int (0 : Int32)), (7, .int (999999 : Int32)), (0, .ref 292), (1, .int a), (2, .int b), (3, .int c), (4, .int e), (5, .int f), (6, .int g)]) (st1 := [.int (0 : Int32), .int (0 : Int32), .int (4 : Int32), .int a, .ref 292]) 3 rfl rfl rfl ?_
                refine zCv (mj := 111) (k := 292) (n := 4) rfl rfl rfl rfl (by decide) rfl rfl rfl rfl rfl rfl ?_
                refine c_111n4 ?_
                refine kI ?_
                refine zPs (pc1 := 142) (l1 := [(8, .int (0 : Int32)), (7, .int (999999 : Int32)), (0, .ref 292), (1, .int a), (2, .int b), (3, .int c), (4, .int e), (5, .int f), (6, .int g)]) (st1 := []) 1 rfl rfl rfl ?_
                refine zRv rfl rfl ?_
                unfold sBranch thr at k
                try simp only [up2_up2]
                (repeat' split at k) <;> first | exact k | (exfalso; grind [mostA])
          · refine kI ?_
            refine zPs (pc1 := 69) (l1 := [(8, .int (0 : Int32)), (7, .int (999999 : Int32)), (0, .ref 292), (1, .int a), (2, .int b), (3, .int c), (4, .int e), (5, .int f), (6, .int g)]) (st1 := [.int a, .int (4 : Int32), .int a, .ref 292]) 7 rfl rfl rfl ?_
            refine zCs (mj := 108) rfl rfl rfl rfl rfl rfl rfl rfl ?_
            refine c_108 (fun h74 h75 h76 => ?_) (fun h77 => ?_)
            · obtain rfl := h76
              have hNh74 := isN_of h75
              have hclh74 := i32_cl (n := h74) (by omega)
              refine kI ?_
              refine zPs (pc1 := 77) (l1 := [(8, .int (0 : Int32)), (7, .int (999999 : Int32)), (0, .ref 292), (1, .int (i32 h74)), (2, .int b), (3, .int c), (4, .int e), (5, .int f), (6, .int g)]) (st1 := [.int f, .int (4 : Int32), .int (i32 h74), .ref 292]) 2 rfl rfl rfl ?_
              refine zCs (mj := 109) rfl rfl rfl rfl rfl rfl rfl rfl ?_
              refine c_109 (fun h78 => ?_) (fun h79 => ?_)
              · refine kI ?_
                refine zPs (pc1 := 85) (l1 := [(8, .int (0 : Int32)), (7, .int (999999 : Int32)), (0, .ref 292), (1, .int (i32 h74)), (2, .int b), (3, .int c), (4, .int e), (5, .int f), (6, .int g)]) (st1 := [.int g, .int (4 : Int32), .int (i32 h74), .ref 292]) 2 rfl rfl rfl ?_
                refine zCs (mj := 109) rfl rfl rfl rfl rfl rfl rfl rfl ?_
                refine c_109 (fun h80 => ?_) (fun h81 => ?_)
                · refine kI ?_
                  refine zPs (pc1 := 98) (l1 := [(8, .int (0 : Int32)), (7, .int (999999 : Int32)), (0, .ref 292), (1, .int (i32 h74)), (2, .int b), (3, .int c), (4, .int e), (5, .int f), (6, .int g)]) (st1 := [.int (0 : Int32), .int (1 : Int32), .int (4 : Int32), .int (i32 h74), .ref 292]) 4 rfl rfl rfl ?_
                  refine zCv (mj := 111) (k := 292) (n := 4) rfl rfl rfl rfl (by decide) rfl rfl rfl rfl rfl rfl ?_
                  refine c_111b4 ?_
                  refine kI ?_
                  refine zPs (pc1 := 142) (l1 := [(8, .int (0 : Int32)), (7, .int (999999 : Int32)), (0, .ref 292), (1, .int (i32 h74)), (2, .int b), (3, .int c), (4, .int e), (5, .int f), (6, .int g)]) (st1 := []) 1 rfl rfl rfl ?_
                  refine zRv rfl rfl ?_
                  unfold sBranch thr at k
                  try simp only [hclh74] at k
                  try simp only [up2_up2]
                  (repeat' split at k) <;> first | exact k | (exfalso; grind [mostA])
                · refine kI ?_
                  refine zPs (pc1 := 98) (l1 := [(8, .int (0 : Int32)), (7, .int (999999 : Int32)), (0, .ref 292), (1, .int (i32 h74)), (2, .int b), (3, .int c), (4, .int e), (5, .int f), (6, .int g)]) (st1 := [.int (0 : Int32), .int (0 : Int32), .int (4 : Int32), .int (i32 h74), .ref 292]) 3 rfl rfl rfl ?_
                  refine zCv (mj := 111) (k := 292) (n := 4) rfl rfl rfl rfl (by decide) rfl rfl rfl rfl rfl rfl ?_
                  refine c_111n4 ?_
                  refine kI ?_
                  refine zPs (pc1 := 142) (l1 := [(8, .int (0 : Int32)), (7, .int (999999 : Int32)), (0, .ref 292), (1, .int (i32 h74)), (2, .int b), (3, .int c), (4, .int e), (5, .int f), (6, .int g)]) (st1 := []) 1 rfl rfl rfl ?_
                  refine zRv rfl rfl ?_
                  unfold sBranch thr at k
                  try simp only [hclh74] at k
                  try simp only [up2_up2]
                  (repeat' split at k) <;> first | exact k | (exfalso; grind [mostA])
              · refine kI ?_
                refine zPs (pc1 := 98) (l1 := [(8, .int (0 : Int32)), (7, .int (999999 : Int32)), (0, .ref 292), (1, .int (i32 h74)), (2, .int b), (3, .int c), (4, .int e), (5, .int f), (6, .int g)]) (st1 := [.int (0 : Int32), .int (0 : Int32), .int (4 : Int32), .int (i32 h74), .ref 292]) 3 rfl rfl rfl ?_
                refine zCv (mj := 111) (k := 292) (n := 4) rfl rfl rfl rfl (by decide) rfl rfl rfl rfl rfl rfl ?_
                refine c_111n4 ?_
                refine kI ?_
                refine zPs (pc1 := 142) (l1 := [(8, .int (0 : Int32)), (7, .int (999999 : Int32)), (0, .ref 292), (1, .int (i32 h74)), (2, .int b), (3, .int c), (4, .int e), (5, .int f), (6, .int g)]) (st1 := []) 1 rfl rfl rfl ?_
                refine zRv rfl rfl ?_
                unfold sBranch thr at k
                try simp only [hclh74] at k
                try simp only [up2_up2]
                (repeat' split at k) <;> first | exact k | (exfalso; grind [mostA])
            · refine kI ?_
              refine zPs (pc1 := 98) (l1 := [(8, .int (0 : Int32)), (7, .int (999999 : Int32)), (0, .ref 292), (1, .int a), (2, .int b), (3, .int c), (4, .int e), (5, .int f), (6, .int g)]) (st1 := [.int (0 : Int32), .int (0 : Int32), .int (4 : Int32), .int a, .ref 292]) 3 rfl rfl rfl ?_
              refine zCv (mj := 111) (k := 292) (n := 4) rfl rfl rfl rfl (by decide) rfl rfl rfl rfl rfl rfl ?_
              refine c_111n4 ?_
              refine kI ?_
              refine zPs (pc1 := 142) (l1 := [(8, .int (0 : Int32)), (7, .int (999999 : Int32)), (0, .ref 292), (1, .int a), (2, .int b), (3, .int c), (4, .int e), (5, .int f), (6, .int g)]) (st1 := []) 1 rfl rfl rfl ?_
              refine zRv rfl rfl ?_
              unfold sBranch thr at k
              try simp only [up2_up2]
              (repeat' split at k) <;> first | exact k | (exfalso; grind [mostA])
        · refine kI ?_
          refine zPs (pc1 := 69) (l1 := [(8, .int (0 : Int32)), (7, .int (999999 : Int32)), (0, .ref 292), (1, .int a), (2, .int b), (3, .int c), (4, .int e), (5, .int f), (6, .int g)]) (st1 := [.int a, .int (4 : Int32), .int a, .ref 292]) 7 rfl rfl rfl ?_
          refine zCs (mj := 108) rfl rfl rfl rfl rfl rfl rfl rfl ?_
          refine c_108 (fun h82 h83 h84 => ?_) (fun h85 => ?_)
          · obtain rfl := h84
            have hNh82 := isN_of h83
            have hclh82 := i32_cl (n := h82) (by omega)
            refine kI ?_
            refine zPs (pc1 := 77) (l1 := [(8, .int (0 : Int32)), (7, .int (999999 : Int32)), (0, .ref 292), (1, .int (i32 h82)), (2, .int b), (3, .int c), (4, .int e), (5, .int f), (6, .int g)]) (st1 := [.int f, .int (4 : Int32), .int (i32 h82), .ref 292]) 2 rfl rfl rfl ?_
            refine zCs (mj := 109) rfl rfl rfl rfl rfl rfl rfl rfl ?_
            refine c_109 (fun h86 => ?_) (fun h87 => ?_)
            · refine kI ?_
              refine zPs (pc1 := 85) (l1 := [(8, .int (0 : Int32)), (7, .int (999999 : Int32)), (0, .ref 292), (1, .int (i32 h82)), (2, .int b), (3, .int c), (4, .int e), (5, .int f), (6, .int g)]) (st1 := [.int g, .int (4 : Int32), .int (i32 h82), .ref 292]) 2 rfl rfl rfl ?_
              refine zCs (mj := 109) rfl rfl rfl rfl rfl rfl rfl rfl ?_
              refine c_109 (fun h88 => ?_) (fun h89 => ?_)
              · refine kI ?_
                refine zPs (pc1 := 98) (l1 := [(8, .int (0 : Int32)), (7, .int (999999 : Int32)), (0, .ref 292), (1, .int (i32 h82)), (2, .int b), (3, .int c), (4, .int e), (5, .int f), (6, .int g)]) (st1 := [.int (0 : Int32), .int (1 : Int32), .int (4 : Int32), .int (i32 h82), .ref 292]) 4 rfl rfl rfl ?_
                refine zCv (mj := 111) (k := 292) (n := 4) rfl rfl rfl rfl (by decide) rfl rfl rfl rfl rfl rfl ?_
                refine c_111b4 ?_
                refine kI ?_
                refine zPs (pc1 := 142) (l1 := [(8, .int (0 : Int32)), (7, .int (999999 : Int32)), (0, .ref 292), (1, .int (i32 h82)), (2, .int b), (3, .int c), (4, .int e), (5, .int f), (6, .int g)]) (st1 := []) 1 rfl rfl rfl ?_
                refine zRv rfl rfl ?_
                unfold sBranch thr at k
                try simp only [hclh82] at k
                try simp only [up2_up2]
                (repeat' split at k) <;> first | exact k | (exfalso; grind [mostA])
              · refine kI ?_
                refine zPs (pc1 := 98) (l1 := [(8, .int (0 : Int32)), (7, .int (999999 : Int32)), (0, .ref 292), (1, .int (i32 h82)), (2, .int b), (3, .int c), (4, .int e), (5, .int f), (6, .int g)]) (st1 := [.int (0 : Int32), .int (0 : Int32), .int (4 : Int32), .int (i32 h82), .ref 292]) 3 rfl rfl rfl ?_
                refine zCv (mj := 111) (k := 292) (n := 4) rfl rfl rfl rfl (by decide) rfl rfl rfl rfl rfl rfl ?_
                refine c_111n4 ?_
                refine kI ?_
                refine zPs (pc1 := 142) (l1 := [(8, .int (0 : Int32)), (7, .int (999999 : Int32)), (0, .ref 292), (1, .int (i32 h82)), (2, .int b), (3, .int c), (4, .int e), (5, .int f), (6, .int g)]) (st1 := []) 1 rfl rfl rfl ?_
                refine zRv rfl rfl ?_
                unfold sBranch thr at k
                try simp only [hclh82] at k
                try simp only [up2_up2]
                (repeat' split at k) <;> first | exact k | (exfalso; grind [mostA])
            · refine kI ?_
              refine zPs (pc1 := 98) (l1 := [(8, .int (0 : Int32)), (7, .int (999999 : Int32)), (0, .ref 292), (1, .int (i32 h82)), (2, .int b), (3, .int c), (4, .int e), (5, .int f), (6, .int g)]) (st1 := [.int (0 : Int32), .int (0 : Int32), .int (4 : Int32), .int (i32 h82), .ref 292]) 3 rfl rfl rfl ?_
              refine zCv (mj := 111) (k := 292) (n := 4) rfl rfl rfl rfl (by decide) rfl rfl rfl rfl rfl rfl ?_
              refine c_111n4 ?_
              refine kI ?_
              refine zPs (pc1 := 142) (l1 := [(8, .int (0 : Int32)), (7, .int (999999 : Int32)), (0, .ref 292), (1, .int (i32 h82)), (2, .int b), (3, .int c), (4, .int e), (5, .int f), (6, .int g)]) (st1 := []) 1 rfl rfl rfl ?_
              refine zRv rfl rfl ?_
              unfold sBranch thr at k
              try simp only [hclh82] at k
              try simp only [up2_up2]
              (repeat' split at k) <;> first | exact k | (exfalso; grind [mostA])
          · refine kI ?_
            refine zPs (pc1 := 98) (l1 := [(8, .int (0 : Int32)), (7, .int (999999 : Int32)), (0, .ref 292), (1, .int a), (2, .int b), (3, .int c), (4, .int e), (5, .int f), (6, .int g)]) (st1 := [.int (0 : Int32), .int (0 : Int32), .int (4 : Int32), .int a, .ref 292]) 3 rfl rfl rfl ?_
            refine zCv (mj := 111) (k := 292) (n := 4) rfl rfl rfl rfl (by decide) rfl rfl rfl rfl rfl rfl ?_
            refine c_111n4 ?_
            refine kI ?_
            refine zPs (pc1 := 142) (l1 := [(8, .int (0 : Int32)), (7, .int (999999 : Int32)), (0, .ref 292), (1, .int a), (2, .int b), (3, .int c), (4, .int e), (5, .int f), (6, .int g)]) (st1 := []) 1 rfl rfl rfl ?_
            refine zRv rfl rfl ?_
            unfold sBranch thr at k
            try simp only [up2_up2]
            (repeat' split at k) <;> first | exact k | (exfalso; grind [mostA])
      · refine zPs (pc1 := 31) (l1 := [(7, .int (6 : Int32)), (0, .ref 292), (1, .int a), (2, .int b), (3, .int c), (4, .int e), (5, .int f), (6, .int g)]) (st1 := [.int (4 : Int32), .int (0 : Int32), .int b]) 6 rfl rfl rfl ?_
        refine zCs (mj := 107) rfl rfl rfl rfl rfl rfl rfl rfl ?_
        refine c_107 (fun h90 h91 => ?_) (fun h92 => ?_)
        · refine kI ?_
          refine zPs (pc1 := 41) (l1 := [(7, .int (6 : Int32)), (0, .ref 292), (1, .int a), (2, .int b), (3, .int c), (4, .int e), (5, .int f), (6, .int g)]) (st1 := [.int (6 : Int32), .int (0 : Int32), .int c]) 4 rfl rfl rfl ?_
          refine zCs (mj := 107) rfl rfl rfl rfl rfl rfl rfl rfl ?_
          refine c_107 (fun h93 h94 => ?_) (fun h95 => ?_)
          · refine kI ?_
            refine zPs (pc1 := 52) (l1 := [(7, .int (6 : Int32)), (0, .ref 292), (1, .int a), (2, .int b), (3, .int c), (4, .int e), (5, .int f), (6, .int g)]) (st1 := [.int (60 : Int32), .int (0 : Int32), .int e]) 4 rfl rfl rfl ?_
            refine zCs (mj := 107) rfl rfl rfl rfl rfl rfl rfl rfl ?_
            refine c_107 (fun h96 h97 => ?_) (fun h98 => ?_)
            · refine kI ?_
              refine zPs (pc1 := 69) (l1 := [(8, .int (1 : Int32)), (7, .int (6 : Int32)), (0, .ref 292), (1, .int a), (2, .int b), (3, .int c), (4, .int e), (5, .int f), (6, .int g)]) (st1 := [.int a, .int (4 : Int32), .int a, .ref 292]) 8 rfl rfl rfl ?_
              refine zCs (mj := 108) rfl rfl rfl rfl rfl rfl rfl rfl ?_
              refine c_108 (fun h99 h100 h101 => ?_) (fun h102 => ?_)
              · obtain rfl := h101
                have hNh99 := isN_of h100
                have hclh99 := i32_cl (n := h99) (by omega)
                refine kI ?_
                refine zPs (pc1 := 77) (l1 := [(8, .int (1 : Int32)), (7, .int (6 : Int32)), (0, .ref 292), (1, .int (i32 h99)), (2, .int b), (3, .int c), (4, .int e), (5, .int f), (6, .int g)]) (st1 := [.int f, .int (4 : Int32), .int (i32 h99), .ref 292]) 2 rfl rfl rfl ?_
                refine zCs (mj := 109) rfl rfl rfl rfl rfl rfl rfl rfl ?_
                refine c_109 (fun h103 => ?_) (fun h104 => ?_)
                · refine kI ?_
                  refine zPs (pc1 := 85) (l1 := [(8, .int (1 : Int32)), (7, .int (6 : Int32)), (0, .ref 292), (1, .int (i32 h99)), (2, .int b), (3, .int c), (4, .int e), (5, .int f), (6, .int g)]) (st1 := [.int g, .int (4 : Int32), .int (i32 h99), .ref 292]) 2 rfl rfl rfl ?_
                  refine zCs (mj := 109) rfl rfl rfl rfl rfl rfl rfl rfl ?_
                  refine c_109 (fun h105 => ?_) (fun h106 => ?_)
                  · refine kI ?_
                    refine zPs (pc1 := 98) (l1 := [(8, .int (1 : Int32)), (7, .int (6 : Int32)), (0, .ref 292), (1, .int (i32 h99)), (2, .int b), (3, .int c), (4, .int e), (5, .int f), (6, .int g)]) (st1 := [.int (1 : Int32), .int (1 : Int32), .int (4 : Int32), .int (i32 h99), .ref 292]) 4 rfl rfl rfl ?_
                    refine zCv (mj := 111) (k := 292) (n := 4) rfl rfl rfl rfl (by decide) rfl rfl rfl rfl rfl rfl ?_
                    refine c_111o4 hl hn (by omega) (fun h107 => ?_) (fun h108 => ?_)
                    · refine kI ?_
                      refine zPs (pc1 := 105) (l1 := [(8, .int (1 : Int32)), (7, .int (6 : Int32)), (0, .ref 292), (1, .int (i32 h99)), (2, .int b), (3, .int c), (4, .int e), (5, .int f), (6, .int g)]) (st1 := [.ref 292]) 2 rfl rfl rfl ?_
                      refine zGetR (r := 297) rfl rfl ⟨by decide, rfl, by decide, rfl⟩ ?_
                      refine zPs (pc1 := 110) (l1 := [(8, .int (1 : Int32)), (7, .int (6 : Int32)), (0, .ref 292), (1, .int (i32 h99)), (2, .int b), (3, .int c), (4, .int e), (5, .int f), (6, .int g)]) (st1 := [.int c, .int (i32 h99), .ref 297]) 2 rfl rfl rfl ?_
                      refine zIas (n := h99) rfl (icM (k := 297) (L := 30) rfl (by omega)) ?_
                      refine zPs (pc1 := 112) (l1 := [(8, .int (1 : Int32)), (7, .int (6 : Int32)), (0, .ref 292), (1, .int (i32 h99)), (2, .int b), (3, .int c), (4, .int e), (5, .int f), (6, .int g)]) (st1 := [.ref 292]) 1 rfl rfl rfl ?_
                      refine zGetR (r := 298) rfl rfl ⟨by decide, rfl, by decide, rfl⟩ ?_
                      refine zPs (pc1 := 118) (l1 := [(8, .int (1 : Int32)), (7, .int (6 : Int32)), (0, .ref 292), (1, .int (i32 h99)), (2, .int b), (3, .int c), (4, .int e), (5, .int f), (6, .int g)]) (st1 := [.int e, .int (i32 h99), .ref 298]) 2 rfl rfl rfl ?_
                      refine zIas (n := h99) rfl (icM (k := 298) (L := 30) rfl (by omega)) ?_
                      refine zPs (pc1 := 120) (l1 := [(8, .int (1 : Int32)), (7, .int (6 : Int32)), (0, .ref 292), (1, .int (i32 h99)), (2, .int b), (3, .int c), (4, .int e), (5, .int f), (6, .int g)]) (st1 := [.ref 292]) 1 rfl rfl rfl ?_
                      refine zGetR (r := 299) rfl rfl ⟨by decide, rfl, by decide, rfl⟩ ?_
                      refine zPs (pc1 := 125) (l1 := [(8, .int (1 : Int32)), (7, .int (6 : Int32)), (0, .ref 292), (1, .int (i32 h99)), (2, .int b), (3, .int c), (4, .int e), (5, .int f), (6, .int g)]) (st1 := [.int b, .int (i32 h99), .ref 299]) 2 rfl rfl rfl ?_
                      refine zIas (n := h99) rfl (icM (k := 299) (L := 30) rfl (by omega)) ?_
                      refine zPs (pc1 := 127) (l1 := [(8, .int (1 : Int32)), (7, .int (6 : Int32)), (0, .ref 292), (1, .int (i32 h99)), (2, .int b), (3, .int c), (4, .int e), (5, .int f), (6, .int g)]) (st1 := [.ref 292]) 1 rfl rfl rfl ?_
                      refine zGetR (r := 301) rfl rfl ⟨by decide, rfl, by decide, rfl⟩ ?_
                      refine zPs (pc1 := 133) (l1 := [(8, .int (1 : Int32)), (7, .int (6 : Int32)), (0, .ref 292), (1, .int (i32 h99)), (2, .int b), (3, .int c), (4, .int e), (5, .int f), (6, .int g)]) (st1 := [.int f, .int (i32 h99), .ref 301]) 2 rfl rfl rfl ?_
                      refine zIas (n := h99) rfl (icM (k := 301) (L := 30) rfl (by omega)) ?_
                      refine zPs (pc1 := 135) (l1 := [(8, .int (1 : Int32)), (7, .int (6 : Int32)), (0, .ref 292), (1, .int (i32 h99)), (2, .int b), (3, .int c), (4, .int e), (5, .int f), (6, .int g)]) (st1 := [.ref 292]) 1 rfl rfl rfl ?_
                      refine zGetR (r := 302) rfl rfl ⟨by decide, rfl, by decide, rfl⟩ ?_
                      refine zPs (pc1 := 141) (l1 := [(8, .int (1 : Int32)), (7, .int (6 : Int32)), (0, .ref 292), (1, .int (i32 h99)), (2, .int b), (3, .int c), (4, .int e), (5, .int f), (6, .int g)]) (st1 := [.int g, .int (i32 h99), .ref 302]) 2 rfl rfl rfl ?_
                      refine zIas (n := h99) rfl (icM (k := 302) (L := 30) rfl (by omega)) ?_
                      refine zRv rfl rfl ?_
                      unfold sBranch thr at k
                      try simp only [hclh99] at k
                      try simp only [up2_up2]
                      (repeat' split at k) <;> first | exact k | (exfalso; grind [mostA])
                    · refine kI ?_
                      refine zPs (pc1 := 142) (l1 := [(8, .int (1 : Int32)), (7, .int (6 : Int32)), (0, .ref 292), (1, .int (i32 h99)), (2, .int b), (3, .int c), (4, .int e), (5, .int f), (6, .int g)]) (st1 := []) 1 rfl rfl rfl ?_
                      refine zRv rfl rfl ?_
                      unfold sBranch thr at k
                      try simp only [hclh99] at k
                      try simp only [up2_up2]
                      (repeat' split at k) <;> first | exact k | (exfalso; grind [mostA])
                  · refine kI ?_
                    refine zPs (pc1 := 98) (l1 := [(8, .int (1 : Int32)), (7, .int (6 : Int32)), (0, .ref 292), (1, .int (i32 h99)), (2, .int b), (3, .int c), (4, .int e), (5, .int f), (6, .int g)]) (st1 := [.int (1 : Int32), .int (0 : Int32), .int (4 : Int32), .int (i32 h99), .ref 292]) 3 rfl rfl rfl ?_
                    refine zCv (mj := 111) (k := 292) (n := 4) rfl rfl rfl rfl (by decide) rfl rfl rfl rfl rfl rfl ?_
                    refine c_111n4 ?_
                    refine kI ?_
                    refine zPs (pc1 := 142) (l1 := [(8, .int (1 : Int32)), (7, .int (6 : Int32)), (0, .ref 292), (1, .int (i32 h99)), (2, .int b), (3, .int c), (4, .int e), (5, .int f), (6, .int g)]) (st1 := []) 1 rfl rfl rfl ?_
                    refine zRv rfl rfl ?_
                    unfold sBranch thr at k
                    try simp only [hclh99] at k
                    try simp only [up2_up2]
                    (repeat' split at k) <;> first | exact k | (exfalso; grind [mostA])
                · refine kI ?_
                  refine zPs (pc1 := 98) (l1 := [(8, .int (1 : Int32)), (7, .int (6 : Int32)), (0, .ref 292), (1, .int (i32 h99)), (2, .int b), (3, .int c), (4, .int e), (5, .int f), (6, .int g)]) (st1 := [.int (1 : Int32), .int (0 : Int32), .int (4 : Int32), .int (i32 h99), .ref 292]) 3 rfl rfl rfl ?_
                  refine zCv (mj := 111) (k := 292) (n := 4) rfl rfl rfl rfl (by decide) rfl rfl rfl rfl rfl rfl ?_
                  refine c_111n4 ?_
                  refine kI ?_
                  refine zPs (pc1 := 142) (l1 := [(8, .int (1 : Int32)), (7, .int (6 : Int32)), (0, .ref 292), (1, .int (i32 h99)), (2, .int b), (3, .int c), (4, .int e), (5, .int f), (6, .int g)]) (st1 := []) 1 rfl rfl rfl ?_
                  refine zRv rfl rfl ?_
                  unfold sBranch thr at k
                  try simp only [hclh99] at k
                  try simp only [up2_up2]
                  (repeat' split at k) <;> first | exact k | (exfalso; grind [mostA])
              · refine kI ?_
                refine zPs (pc1 := 98) (l1 := [(8, .int (1 : Int32)), (7, .int (6 : Int32)), (0, .ref 292), (1, .int a), (2, .int b), (3, .int c), (4, .int e), (5, .int f), (6, .int g)]) (st1 := [.int (1 : Int32), .int (0 : Int32), .int (4 : Int32), .int a, .ref 292]) 3 rfl rfl rfl ?_
                refine zCv (mj := 111) (k := 292) (n := 4) rfl rfl rfl rfl (by decide) rfl rfl rfl rfl rfl rfl ?_
                refine c_111n4 ?_
                refine kI ?_
                refine zPs (pc1 := 142) (l1 := [(8, .int (1 : Int32)), (7, .int (6 : Int32)), (0, .ref 292), (1, .int a), (2, .int b), (3, .int c), (4, .int e), (5, .int f), (6, .int g)]) (st1 := []) 1 rfl rfl rfl ?_
                refine zRv rfl rfl ?_
                unfold sBranch thr at k
                try simp only [up2_up2]
                (repeat' split at k) <;> first | exact k | (exfalso; grind [mostA])
            · refine kI ?_
              refine zPs (pc1 := 69) (l1 := [(8, .int (0 : Int32)), (7, .int (6 : Int32)), (0, .ref 292), (1, .int a), (2, .int b), (3, .int c), (4, .int e), (5, .int f), (6, .int g)]) (st1 := [.int a, .int (4 : Int32), .int a, .ref 292]) 7 rfl rfl rfl ?_
              refine zCs (mj := 108) rfl rfl rfl rfl rfl rfl rfl rfl ?_
              refine c_108 (fun h109 h110 h111 => ?_) (fun h112 => ?_)
              · obtain rfl := h111
                have hNh109 := isN_of h110
                have hclh109 := i32_cl (n := h109) (by omega)
                refine kI ?_
                refine zPs (pc1 := 77) (l1 := [(8, .int (0 : Int32)), (7, .int (6 : Int32)), (0, .ref 292), (1, .int (i32 h109)), (2, .int b), (3, .int c), (4, .int e), (5, .int f), (6, .int g)]) (st1 := [.int f, .int (4 : Int32), .int (i32 h109), .ref 292]) 2 rfl rfl rfl ?_
                refine zCs (mj := 109) rfl rfl rfl rfl rfl rfl rfl rfl ?_
                refine c_109 (fun h113 => ?_) (fun h114 => ?_)
                · refine kI ?_
                  refine zPs (pc1 := 85) (l1 := [(8, .int (0 : Int32)), (7, .int (6 : Int32)), (0, .ref 292), (1, .int (i32 h109)), (2, .int b), (3, .int c), (4, .int e), (5, .int f), (6, .int g)]) (st1 := [.int g, .int (4 : Int32), .int (i32 h109), .ref 292]) 2 rfl rfl rfl ?_
                  refine zCs (mj := 109) rfl rfl rfl rfl rfl rfl rfl rfl ?_
                  refine c_109 (fun h115 => ?_) (fun h116 => ?_)
                  · refine kI ?_
                    refine zPs (pc1 := 98) (l1 := [(8, .int (0 : Int32)), (7, .int (6 : Int32)), (0, .ref 292), (1, .int (i32 h109)), (2, .int b), (3, .int c), (4, .int e), (5, .int f), (6, .int g)]) (st1 := [.int (0 : Int32), .int (1 : Int32), .int (4 : Int32), .int (i32 h109), .ref 292]) 4 rfl rfl rfl ?_
                    refine zCv (mj := 111) (k := 292) (n := 4) rfl rfl rfl rfl (by decide) rfl rfl rfl rfl rfl rfl ?_
                    refine c_111b4 ?_
                    refine kI ?_
                    refine zPs (pc1 := 142) (l1 := [(8, .int (0 : Int32)), (7, .int (6 : Int32)), (0, .ref 292), (1, .int (i32 h109)), (2, .int b), (3, .int c), (4, .int e), (5, .int f), (6, .int g)]) (st1 := []) 1 rfl rfl rfl ?_
                    refine zRv rfl rfl ?_
                    unfold sBranch thr at k
                    try simp only [hclh109] at k
                    try simp only [up2_up2]
                    (repeat' split at k) <;> first | exact k | (exfalso; grind [mostA])
                  · refine kI ?_
                    refine zPs (pc1 := 98) (l1 := [(8, .int (0 : Int32)), (7, .int (6 : Int32)), (0, .ref 292), (1, .int (i32 h109)), (2, .int b), (3, .int c), (4, .int e), (5, .int f), (6, .int g)]) (st1 := [.int (0 : Int32), .int (0 : Int32), .int (4 : Int32), .int (i32 h109), .ref 292]) 3 rfl rfl rfl ?_
                    refine zCv (mj := 111) (k := 292) (n := 4) rfl rfl rfl rfl (by decide) rfl rfl rfl rfl rfl rfl ?_
                    refine c_111n4 ?_
                    refine kI ?_
                    refine zPs (pc1 := 142) (l1 := [(8, .int (0 : Int32)), (7, .int (6 : Int32)), (0, .ref 292), (1, .int (i32 h109)), (2, .int b), (3, .int c), (4, .int e), (5, .int f), (6, .int g)]) (st1 := []) 1 rfl rfl rfl ?_
                    refine zRv rfl rfl ?_
                    unfold sBranch thr at k
                    try simp only [hclh109] at k
                    try simp only [up2_up2]
                    (repeat' split at k) <;> first | exact k | (exfalso; grind [mostA])
                · refine kI ?_
                  refine zPs (pc1 := 98) (l1 := [(8, .int (0 : Int32)), (7, .int (6 : Int32)), (0, .ref 292), (1, .int (i32 h109)), (2, .int b), (3, .int c), (4, .int e), (5, .int f), (6, .int g)]) (st1 := [.int (0 : Int32), .int (0 : Int32), .int (4 : Int32), .int (i32 h109), .ref 292]) 3 rfl rfl rfl ?_
                  refine zCv (mj := 111) (k := 292) (n := 4) rfl rfl rfl rfl (by decide) rfl rfl rfl rfl rfl rfl ?_
                  refine c_111n4 ?_
                  refine kI ?_
                  refine zPs (pc1 := 142) (l1 := [(8, .int (0 : Int32)), (7, .int (6 : Int32)), (0, .ref 292), (1, .int (i32 h109)), (2, .int b), (3, .int c), (4, .int e), (5, .int f), (6, .int g)]) (st1 := []) 1 rfl rfl rfl ?_
                  refine zRv rfl rfl ?_
                  unfold sBranch thr at k
                  try simp only [hclh109] at k
                  try simp only [up2_up2]
                  (repeat' split at k) <;> first | exact k | (exfalso; grind [mostA])
              · refine kI ?_
                refine zPs (pc1 := 98) (l1 := [(8, .int (0 : Int32)), (7, .int (6 : Int32)), (0, .ref 292), (1, .int a), (2, .int b), (3, .int c), (4, .int e), (5, .int f), (6, .int g)]) (st1 := [.int (0 : Int32), .int (0 : Int32), .int (4 : Int32), .int a, .ref 292]) 3 rfl rfl rfl ?_
                refine zCv (mj := 111) (k := 292) (n := 4) rfl rfl rfl rfl (by decide) rfl rfl rfl rfl rfl rfl ?_
                refine c_111n4 ?_
                refine kI ?_
                refine zPs (pc1 := 142) (l1 := [(8, .int (0 : Int32)), (7, .int (6 : Int32)), (0, .ref 292), (1, .int a), (2, .int b), (3, .int c), (4, .int e), (5, .int f), (6, .int g)]) (st1 := []) 1 rfl rfl rfl ?_
                refine zRv rfl rfl ?_
                unfold sBranch thr at k
                try simp only [up2_up2]
                (repeat' split at k) <;> first | exact k | (exfalso; grind [mostA])
          · refine kI ?_
            refine zPs (pc1 := 69) (l1 := [(8, .int (0 : Int32)), (7, .int (6 : Int32)), (0, .ref 292), (1, .int a), (2, .int b), (3, .int c), (4, .int e), (5, .int f), (6, .int g)]) (st1 := [.int a, .int (4 : Int32), .int a, .ref 292]) 7 rfl rfl rfl ?_
            refine zCs (mj := 108) rfl rfl rfl rfl rfl rfl rfl rfl ?_
            refine c_108 (fun h117 h118 h119 => ?_) (fun h120 => ?_)
            · obtain rfl := h119
              have hNh117 := isN_of h118
              have hclh117 := i32_cl (n := h117) (by omega)
              refine kI ?_
              refine zPs (pc1 := 77) (l1 := [(8, .int (0 : Int32)), (7, .int (6 : Int32)), (0, .ref 292), (1, .int (i32 h117)), (2, .int b), (3, .int c), (4, .int e), (5, .int f), (6, .int g)]) (st1 := [.int f, .int (4 : Int32), .int (i32 h117), .ref 292]) 2 rfl rfl rfl ?_
              refine zCs (mj := 109) rfl rfl rfl rfl rfl rfl rfl rfl ?_
              refine c_109 (fun h121 => ?_) (fun h122 => ?_)
              · refine kI ?_
                refine zPs (pc1 := 85) (l1 := [(8, .int (0 : Int32)), (7, .int (6 : Int32)), (0, .ref 292), (1, .int (i32 h117)), (2, .int b), (3, .int c), (4, .int e), (5, .int f), (6, .int g)]) (st1 := [.int g, .int (4 : Int32), .int (i32 h117), .ref 292]) 2 rfl rfl rfl ?_
                refine zCs (mj := 109) rfl rfl rfl rfl rfl rfl rfl rfl ?_
                refine c_109 (fun h123 => ?_) (fun h124 => ?_)
                · refine kI ?_
                  refine zPs (pc1 := 98) (l1 := [(8, .int (0 : Int32)), (7, .int (6 : Int32)), (0, .ref 292), (1, .int (i32 h117)), (2, .int b), (3, .int c), (4, .int e), (5, .int f), (6, .int g)]) (st1 := [.int (0 : Int32), .int (1 : Int32), .int (4 : Int32), .int (i32 h117), .ref 292]) 4 rfl rfl rfl ?_
                  refine zCv (mj := 111) (k := 292) (n := 4) rfl rfl rfl rfl (by decide) rfl rfl rfl rfl rfl rfl ?_
                  refine c_111b4 ?_
                  refine kI ?_
                  refine zPs (pc1 := 142) (l1 := [(8, .int (0 : Int32)), (7, .int (6 : Int32)), (0, .ref 292), (1, .int (i32 h117)), (2, .int b), (3, .int c), (4, .int e), (5, .int f), (6, .int g)]) (st1 := []) 1 rfl rfl rfl ?_
                  refine zRv rfl rfl ?_
                  unfold sBranch thr at k
                  try simp only [hclh117] at k
                  try simp only [up2_up2]
                  (repeat' split at k) <;> first | exact k | (exfalso; grind [mostA])
                · refine kI ?_
                  refine zPs (pc1 := 98) (l1 := [(8, .int (0 : Int32)), (7, .int (6 : Int32)), (0, .ref 292), (1, .int (i32 h117)), (2, .int b), (3, .int c), (4, .int e), (5, .int f), (6, .int g)]) (st1 := [.int (0 : Int32), .int (0 : Int32), .int (4 : Int32), .int (i32 h117), .ref 292]) 3 rfl rfl rfl ?_
                  refine zCv (mj := 111) (k := 292) (n := 4) rfl rfl rfl rfl (by decide) rfl rfl rfl rfl rfl rfl ?_
                  refine c_111n4 ?_
                  refine kI ?_
                  refine zPs (pc1 := 142) (l1 := [(8, .int (0 : Int32)), (7, .int (6 : Int32)), (0, .ref 292), (1, .int (i32 h117)), (2, .int b), (3, .int c), (4, .int e), (5, .int f), (6, .int g)]) (st1 := []) 1 rfl rfl rfl ?_
                  refine zRv rfl rfl ?_
                  unfold sBranch thr at k
                  try simp only [hclh117] at k
                  try simp only [up2_up2]
                  (repeat' split at k) <;> first | exact k | (exfalso; grind [mostA])
              · refine kI ?_
                refine zPs (pc1 := 98) (l1 := [(8, .int (0 : Int32)), (7, .int (6 : Int32)), (0, .ref 292), (1, .int (i32 h117)), (2, .int b), (3, .int c), (4, .int e), (5, .int f), (6, .int g)]) (st1 := [.int (0 : Int32), .int (0 : Int32), .int (4 : Int32), .int (i32 h117), .ref 292]) 3 rfl rfl rfl ?_
                refine zCv (mj := 111) (k := 292) (n := 4) rfl rfl rfl rfl (by decide) rfl rfl rfl rfl rfl rfl ?_
                refine c_111n4 ?_
                refine kI ?_
                refine zPs (pc1 := 142) (l1 := [(8, .int (0 : Int32)), (7, .int (6 : Int32)), (0, .ref 292), (1, .int (i32 h117)), (2, .int b), (3, .int c), (4, .int e), (5, .int f), (6, .int g)]) (st1 := []) 1 rfl rfl rfl ?_
                refine zRv rfl rfl ?_
                unfold sBranch thr at k
                try simp only [hclh117] at k
                try simp only [up2_up2]
                (repeat' split at k) <;> first | exact k | (exfalso; grind [mostA])
            · refine kI ?_
              refine zPs (pc1 := 98) (l1 := [(8, .int (0 : Int32)), (7, .int (6 : Int32)), (0, .ref 292), (1, .int a), (2, .int b), (3, .int c), (4, .int e), (5, .int f), (6, .int g)]) (st1 := [.int (0 : Int32), .int (0 : Int32), .int (4 : Int32), .int a, .ref 292]) 3 rfl rfl rfl ?_
              refine zCv (mj := 111) (k := 292) (n := 4) rfl rfl rfl rfl (by decide) rfl rfl rfl rfl rfl rfl ?_
              refine c_111n4 ?_
              refine kI ?_
              refine zPs (pc1 := 142) (l1 := [(8, .int (0 : Int32)), (7, .int (6 : Int32)), (0, .ref 292), (1, .int a), (2, .int b), (3, .int c), (4, .int e), (5, .int f), (6, .int g)]) (st1 := []) 1 rfl rfl rfl ?_
              refine zRv rfl rfl ?_
              unfold sBranch thr at k
              try simp only [up2_up2]
              (repeat' split at k) <;> first | exact k | (exfalso; grind [mostA])
        · refine kI ?_
          refine zPs (pc1 := 69) (l1 := [(8, .int (0 : Int32)), (7, .int (6 : Int32)), (0, .ref 292), (1, .int a), (2, .int b), (3, .int c), (4, .int e), (5, .int f), (6, .int g)]) (st1 := [.int a, .int (4 : Int32), .int a, .ref 292]) 7 rfl rfl rfl ?_
          refine zCs (mj := 108) rfl rfl rfl rfl rfl rfl rfl rfl ?_
          refine c_108 (fun h125 h126 h127 => ?_) (fun h128 => ?_)
          · obtain rfl := h127
            have hNh125 := isN_of h126
            have hclh125 := i32_cl (n := h125) (by omega)
            refine kI ?_
            refine zPs (pc1 := 77) (l1 := [(8, .int (0 : Int32)), (7, .int (6 : Int32)), (0, .ref 292), (1, .int (i32 h125)), (2, .int b), (3, .int c), (4, .int e), (5, .int f), (6, .int g)]) (st1 := [.int f, .int (4 : Int32), .int (i32 h125), .ref 292]) 2 rfl rfl rfl ?_
            refine zCs (mj := 109) rfl rfl rfl rfl rfl rfl rfl rfl ?_
            refine c_109 (fun h129 => ?_) (fun h130 => ?_)
            · refine kI ?_
              refine zPs (pc1 := 85) (l1 := [(8, .int (0 : Int32)), (7, .int (6 : Int32)), (0, .ref 292), (1, .int (i32 h125)), (2, .int b), (3, .int c), (4, .int e), (5, .int f), (6, .int g)]) (st1 := [.int g, .int (4 : Int32), .int (i32 h125), .ref 292]) 2 rfl rfl rfl ?_
              refine zCs (mj := 109) rfl rfl rfl rfl rfl rfl rfl rfl ?_
              refine c_109 (fun h131 => ?_) (fun h132 => ?_)
              · refine kI ?_
                refine zPs (pc1 := 98) (l1 := [(8, .int (0 : Int32)), (7, .int (6 : Int32)), (0, .ref 292), (1, .int (i32 h125)), (2, .int b), (3, .int c), (4, .int e), (5, .int f), (6, .int g)]) (st1 := [.int (0 : Int32), .int (1 : Int32), .int (4 : Int32), .int (i32 h125), .ref 292]) 4 rfl rfl rfl ?_
                refine zCv (mj := 111) (k := 292) (n := 4) rfl rfl rfl rfl (by decide) rfl rfl rfl rfl rfl rfl ?_
                refine c_111b4 ?_
                refine kI ?_
                refine zPs (pc1 := 142) (l1 := [(8, .int (0 : Int32)), (7, .int (6 : Int32)), (0, .ref 292), (1, .int (i32 h125)), (2, .int b), (3, .int c), (4, .int e), (5, .int f), (6, .int g)]) (st1 := []) 1 rfl rfl rfl ?_
                refine zRv rfl rfl ?_
                unfold sBranch thr at k
                try simp only [hclh125] at k
                try simp only [up2_up2]
                (repeat' split at k) <;> first | exact k | (exfalso; grind [mostA])
              · refine kI ?_
                refine zPs (pc1 := 98) (l1 := [(8, .int (0 : Int32)), (7, .int (6 : Int32)), (0, .ref 292), (1, .int (i32 h125)), (2, .int b), (3, .int c), (4, .int e), (5, .int f), (6, .int g)]) (st1 := [.int (0 : Int32), .int (0 : Int32), .int (4 : Int32), .int (i32 h125), .ref 292]) 3 rfl rfl rfl ?_
                refine zCv (mj := 111) (k := 292) (n := 4) rfl rfl rfl rfl (by decide) rfl rfl rfl rfl rfl rfl ?_
                refine c_111n4 ?_
                refine kI ?_
                refine zPs (pc1 := 142) (l1 := [(8, .int (0 : Int32)), (7, .int (6 : Int32)), (0, .ref 292), (1, .int (i32 h125)), (2, .int b), (3, .int c), (4, .int e), (5, .int f), (6, .int g)]) (st1 := []) 1 rfl rfl rfl ?_
                refine zRv rfl rfl ?_
                unfold sBranch thr at k
                try simp only [hclh125] at k
                try simp only [up2_up2]
                (repeat' split at k) <;> first | exact k | (exfalso; grind [mostA])
            · refine kI ?_
              refine zPs (pc1 := 98) (l1 := [(8, .int (0 : Int32)), (7, .int (6 : Int32)), (0, .ref 292), (1, .int (i32 h125)), (2, .int b), (3, .int c), (4, .int e), (5, .int f), (6, .int g)]) (st1 := [.int (0 : Int32), .int (0 : Int32), .int (4 : Int32), .int (i32 h125), .ref 292]) 3 rfl rfl rfl ?_
              refine zCv (mj := 111) (k := 292) (n := 4) rfl rfl rfl rfl (by decide) rfl rfl rfl rfl rfl rfl ?_
              refine c_111n4 ?_
              refine kI ?_
              refine zPs (pc1 := 142) (l1 := [(8, .int (0 : Int32)), (7, .int (6 : Int32)), (0, .ref 292), (1, .int (i32 h125)), (2, .int b), (3, .int c), (4, .int e), (5, .int f), (6, .int g)]) (st1 := []) 1 rfl rfl rfl ?_
              refine zRv rfl rfl ?_
              unfold sBranch thr at k
              try simp only [hclh125] at k
              try simp only [up2_up2]
              (repeat' split at k) <;> first | exact k | (exfalso; grind [mostA])
          · refine kI ?_
            refine zPs (pc1 := 98) (l1 := [(8, .int (0 : Int32)), (7, .int (6 : Int32)), (0, .ref 292), (1, .int a), (2, .int b), (3, .int c), (4, .int e), (5, .int f), (6, .int g)]) (st1 := [.int (0 : Int32), .int (0 : Int32), .int (4 : Int32), .int a, .ref 292]) 3 rfl rfl rfl ?_
            refine zCv (mj := 111) (k := 292) (n := 4) rfl rfl rfl rfl (by decide) rfl rfl rfl rfl rfl rfl ?_
            refine c_111n4 ?_
            refine kI ?_
            refine zPs (pc1 := 142) (l1 := [(8, .int (0 : Int32)), (7, .int (6 : Int32)), (0, .ref 292), (1, .int a), (2, .int b), (3, .int c), (4, .int e), (5, .int f), (6, .int g)]) (st1 := []) 1 rfl rfl rfl ?_
            refine zRv rfl rfl ?_
            unfold sBranch thr at k
            try simp only [up2_up2]
            (repeat' split at k) <;> first | exact k | (exfalso; grind [mostA])
    · refine zPs (pc1 := 31) (l1 := [(7, .int (5 : Int32)), (0, .ref 292), (1, .int a), (2, .int b), (3, .int c), (4, .int e), (5, .int f), (6, .int g)]) (st1 := [.int (4 : Int32), .int (0 : Int32), .int b]) 6 rfl rfl rfl ?_
      refine zCs (mj := 107) rfl rfl rfl rfl rfl rfl rfl rfl ?_
      refine c_107 (fun h133 h134 => ?_) (fun h135 => ?_)
      · refine kI ?_
        refine zPs (pc1 := 41) (l1 := [(7, .int (5 : Int32)), (0, .ref 292), (1, .int a), (2, .int b), (3, .int c), (4, .int e), (5, .int f), (6, .int g)]) (st1 := [.int (5 : Int32), .int (0 : Int32), .int c]) 4 rfl rfl rfl ?_
        refine zCs (mj := 107) rfl rfl rfl rfl rfl rfl rfl rfl ?_
        refine c_107 (fun h136 h137 => ?_) (fun h138 => ?_)
        · refine kI ?_
          refine zPs (pc1 := 52) (l1 := [(7, .int (5 : Int32)), (0, .ref 292), (1, .int a), (2, .int b), (3, .int c), (4, .int e), (5, .int f), (6, .int g)]) (st1 := [.int (60 : Int32), .int (0 : Int32), .int e]) 4 rfl rfl rfl ?_
          refine zCs (mj := 107) rfl rfl rfl rfl rfl rfl rfl rfl ?_
          refine c_107 (fun h139 h140 => ?_) (fun h141 => ?_)
          · refine kI ?_
            refine zPs (pc1 := 69) (l1 := [(8, .int (1 : Int32)), (7, .int (5 : Int32)), (0, .ref 292), (1, .int a), (2, .int b), (3, .int c), (4, .int e), (5, .int f), (6, .int g)]) (st1 := [.int a, .int (4 : Int32), .int a, .ref 292]) 8 rfl rfl rfl ?_
            refine zCs (mj := 108) rfl rfl rfl rfl rfl rfl rfl rfl ?_
            refine c_108 (fun h142 h143 h144 => ?_) (fun h145 => ?_)
            · obtain rfl := h144
              have hNh142 := isN_of h143
              have hclh142 := i32_cl (n := h142) (by omega)
              refine kI ?_
              refine zPs (pc1 := 77) (l1 := [(8, .int (1 : Int32)), (7, .int (5 : Int32)), (0, .ref 292), (1, .int (i32 h142)), (2, .int b), (3, .int c), (4, .int e), (5, .int f), (6, .int g)]) (st1 := [.int f, .int (4 : Int32), .int (i32 h142), .ref 292]) 2 rfl rfl rfl ?_
              refine zCs (mj := 109) rfl rfl rfl rfl rfl rfl rfl rfl ?_
              refine c_109 (fun h146 => ?_) (fun h147 => ?_)
              · refine kI ?_
                refine zPs (pc1 := 85) (l1 := [(8, .int (1 : Int32)), (7, .int (5 : Int32)), (0, .ref 292), (1, .int (i32 h142)), (2, .int b), (3, .int c), (4, .int e), (5, .int f), (6, .int g)]) (st1 := [.int g, .int (4 : Int32), .int (i32 h142), .ref 292]) 2 rfl rfl rfl ?_
                refine zCs (mj := 109) rfl rfl rfl rfl rfl rfl rfl rfl ?_
                refine c_109 (fun h148 => ?_) (fun h149 => ?_)
                · refine kI ?_
                  refine zPs (pc1 := 98) (l1 := [(8, .int (1 : Int32)), (7, .int (5 : Int32)), (0, .ref 292), (1, .int (i32 h142)), (2, .int b), (3, .int c), (4, .int e), (5, .int f), (6, .int g)]) (st1 := [.int (1 : Int32), .int (1 : Int32), .int (4 : Int32), .int (i32 h142), .ref 292]) 4 rfl rfl rfl ?_
                  refine zCv (mj := 111) (k := 292) (n := 4) rfl rfl rfl rfl (by decide) rfl rfl rfl rfl rfl rfl ?_
                  refine c_111o4 hl hn (by omega) (fun h150 => ?_) (fun h151 => ?_)
                  · refine kI ?_
                    refine zPs (pc1 := 105) (l1 := [(8, .int (1 : Int32)), (7, .int (5 : Int32)), (0, .ref 292), (1, .int (i32 h142)), (2, .int b), (3, .int c), (4, .int e), (5, .int f), (6, .int g)]) (st1 := [.ref 292]) 2 rfl rfl rfl ?_
                    refine zGetR (r := 297) rfl rfl ⟨by decide, rfl, by decide, rfl⟩ ?_
                    refine zPs (pc1 := 110) (l1 := [(8, .int (1 : Int32)), (7, .int (5 : Int32)), (0, .ref 292), (1, .int (i32 h142)), (2, .int b), (3, .int c), (4, .int e), (5, .int f), (6, .int g)]) (st1 := [.int c, .int (i32 h142), .ref 297]) 2 rfl rfl rfl ?_
                    refine zIas (n := h142) rfl (icM (k := 297) (L := 30) rfl (by omega)) ?_
                    refine zPs (pc1 := 112) (l1 := [(8, .int (1 : Int32)), (7, .int (5 : Int32)), (0, .ref 292), (1, .int (i32 h142)), (2, .int b), (3, .int c), (4, .int e), (5, .int f), (6, .int g)]) (st1 := [.ref 292]) 1 rfl rfl rfl ?_
                    refine zGetR (r := 298) rfl rfl ⟨by decide, rfl, by decide, rfl⟩ ?_
                    refine zPs (pc1 := 118) (l1 := [(8, .int (1 : Int32)), (7, .int (5 : Int32)), (0, .ref 292), (1, .int (i32 h142)), (2, .int b), (3, .int c), (4, .int e), (5, .int f), (6, .int g)]) (st1 := [.int e, .int (i32 h142), .ref 298]) 2 rfl rfl rfl ?_
                    refine zIas (n := h142) rfl (icM (k := 298) (L := 30) rfl (by omega)) ?_
                    refine zPs (pc1 := 120) (l1 := [(8, .int (1 : Int32)), (7, .int (5 : Int32)), (0, .ref 292), (1, .int (i32 h142)), (2, .int b), (3, .int c), (4, .int e), (5, .int f), (6, .int g)]) (st1 := [.ref 292]) 1 rfl rfl rfl ?_
                    refine zGetR (r := 299) rfl rfl ⟨by decide, rfl, by decide, rfl⟩ ?_
                    refine zPs (pc1 := 125) (l1 := [(8, .int (1 : Int32)), (7, .int (5 : Int32)), (0, .ref 292), (1, .int (i32 h142)), (2, .int b), (3, .int c), (4, .int e), (5, .int f), (6, .int g)]) (st1 := [.int b, .int (i32 h142), .ref 299]) 2 rfl rfl rfl ?_
                    refine zIas (n := h142) rfl (icM (k := 299) (L := 30) rfl (by omega)) ?_
                    refine zPs (pc1 := 127) (l1 := [(8, .int (1 : Int32)), (7, .int (5 : Int32)), (0, .ref 292), (1, .int (i32 h142)), (2, .int b), (3, .int c), (4, .int e), (5, .int f), (6, .int g)]) (st1 := [.ref 292]) 1 rfl rfl rfl ?_
                    refine zGetR (r := 301) rfl rfl ⟨by decide, rfl, by decide, rfl⟩ ?_
                    refine zPs (pc1 := 133) (l1 := [(8, .int (1 : Int32)), (7, .int (5 : Int32)), (0, .ref 292), (1, .int (i32 h142)), (2, .int b), (3, .int c), (4, .int e), (5, .int f), (6, .int g)]) (st1 := [.int f, .int (i32 h142), .ref 301]) 2 rfl rfl rfl ?_
                    refine zIas (n := h142) rfl (icM (k := 301) (L := 30) rfl (by omega)) ?_
                    refine zPs (pc1 := 135) (l1 := [(8, .int (1 : Int32)), (7, .int (5 : Int32)), (0, .ref 292), (1, .int (i32 h142)), (2, .int b), (3, .int c), (4, .int e), (5, .int f), (6, .int g)]) (st1 := [.ref 292]) 1 rfl rfl rfl ?_
                    refine zGetR (r := 302) rfl rfl ⟨by decide, rfl, by decide, rfl⟩ ?_
                    refine zPs (pc1 := 141) (l1 := [(8, .int (1 : Int32)), (7, .int (5 : Int32)), (0, .ref 292), (1, .int (i32 h142)), (2, .int b), (3, .int c), (4, .int e), (5, .int f), (6, .int g)]) (st1 := [.int g, .int (i32 h142), .ref 302]) 2 rfl rfl rfl ?_
                    refine zIas (n := h142) rfl (icM (k := 302) (L := 30) rfl (by omega)) ?_
                    refine zRv rfl rfl ?_
                    unfold sBranch thr at k
                    try simp only [hclh142] at k
                    try simp only [up2_up2]
                    (repeat' split at k) <;> first | exact k | (exfalso; grind [mostA])
                  · refine kI ?_
                    refine zPs (pc1 := 142) (l1 := [(8, .int (1 : Int32)), (7, .int (5 : Int32)), (0, .ref 292), (1, .int (i32 h142)), (2, .int b), (3, .int c), (4, .int e), (5, .int f), (6, .int g)]) (st1 := []) 1 rfl rfl rfl ?_
                    refine zRv rfl rfl ?_
                    unfold sBranch thr at k
                    try simp only [hclh142] at k
                    try simp only [up2_up2]
                    (repeat' split at k) <;> first | exact k | (exfalso; grind [mostA])
                · refine kI ?_
                  refine zPs (pc1 := 98) (l1 := [(8, .int (1 : Int32)), (7, .int (5 : Int32)), (0, .ref 292), (1, .int (i32 h142)), (2, .int b), (3, .int c), (4, .int e), (5, .int f), (6, .int g)]) (st1 := [.int (1 : Int32), .int (0 : Int32), .int (4 : Int32), .int (i32 h142), .ref 292]) 3 rfl rfl rfl ?_
                  refine zCv (mj := 111) (k := 292) (n := 4) rfl rfl rfl rfl (by decide) rfl rfl rfl rfl rfl rfl ?_
                  refine c_111n4 ?_
                  refine kI ?_
                  refine zPs (pc1 := 142) (l1 := [(8, .int (1 : Int32)), (7, .int (5 : Int32)), (0, .ref 292), (1, .int (i32 h142)), (2, .int b), (3, .int c), (4, .int e), (5, .int f), (6, .int g)]) (st1 := []) 1 rfl rfl rfl ?_
                  refine zRv rfl rfl ?_
                  unfold sBranch thr at k
                  try simp only [hclh142] at k
                  try simp only [up2_up2]
                  (repeat' split at k) <;> first | exact k | (exfalso; grind [mostA])
              · refine kI ?_
                refine zPs (pc1 := 98) (l1 := [(8, .int (1 : Int32)), (7, .int (5 : Int32)), (0, .ref 292), (1, .int (i32 h142)), (2, .int b), (3, .int c), (4, .int e), (5, .int f), (6, .int g)]) (st1 := [.int (1 : Int32), .int (0 : Int32), .int (4 : Int32), .int (i32 h142), .ref 292]) 3 rfl rfl rfl ?_
                refine zCv (mj := 111) (k := 292) (n := 4) rfl rfl rfl rfl (by decide) rfl rfl rfl rfl rfl rfl ?_
                refine c_111n4 ?_
                refine kI ?_
                refine zPs (pc1 := 142) (l1 := [(8, .int (1 : Int32)), (7, .int (5 : Int32)), (0, .ref 292), (1, .int (i32 h142)), (2, .int b), (3, .int c), (4, .int e), (5, .int f), (6, .int g)]) (st1 := []) 1 rfl rfl rfl ?_
                refine zRv rfl rfl ?_
                unfold sBranch thr at k
                try simp only [hclh142] at k
                try simp only [up2_up2]
                (repeat' split at k) <;> first | exact k | (exfalso; grind [mostA])
            · refine kI ?_
              refine zPs (pc1 := 98) (l1 := [(8, .int (1 : Int32)), (7, .int (5 : Int32)), (0, .ref 292), (1, .int a), (2, .int b), (3, .int c), (4, .int e), (5, .int f), (6, .int g)]) (st1 := [.int (1 : Int32), .int (0 : Int32), .int (4 : Int32), .int a, .ref 292]) 3 rfl rfl rfl ?_
              refine zCv (mj := 111) (k := 292) (n := 4) rfl rfl rfl rfl (by decide) rfl rfl rfl rfl rfl rfl ?_
              refine c_111n4 ?_
              refine kI ?_
              refine zPs (pc1 := 142) (l1 := [(8, .int (1 : Int32)), (7, .int (5 : Int32)), (0, .ref 292), (1, .int a), (2, .int b), (3, .int c), (4, .int e), (5, .int f), (6, .int g)]) (st1 := []) 1 rfl rfl rfl ?_
              refine zRv rfl rfl ?_
              unfold sBranch thr at k
              try simp only [up2_up2]
              (repeat' split at k) <;> first | exact k | (exfalso; grind [mostA])
          · refine kI ?_
            refine zPs (pc1 := 69) (l1 := [(8, .int (0 : Int32)), (7, .int (5 : Int32)), (0, .ref 292), (1, .int a), (2, .int b), (3, .int c), (4, .int e), (5, .int f), (6, .int g)]) (st1 := [.int a, .int (4 : Int32), .int a, .ref 292]) 7 rfl rfl rfl ?_
            refine zCs (mj := 108) rfl rfl rfl rfl rfl rfl rfl rfl ?_
            refine c_108 (fun h152 h153 h154 => ?_) (fun h155 => ?_)
            · obtain rfl := h154
              have hNh152 := isN_of h153
              have hclh152 := i32_cl (n := h152) (by omega)
              refine kI ?_
              refine zPs (pc1 := 77) (l1 := [(8, .int (0 : Int32)), (7, .int (5 : Int32)), (0, .ref 292), (1, .int (i32 h152)), (2, .int b), (3, .int c), (4, .int e), (5, .int f), (6, .int g)]) (st1 := [.int f, .int (4 : Int32), .int (i32 h152), .ref 292]) 2 rfl rfl rfl ?_
              refine zCs (mj := 109) rfl rfl rfl rfl rfl rfl rfl rfl ?_
              refine c_109 (fun h156 => ?_) (fun h157 => ?_)
              · refine kI ?_
                refine zPs (pc1 := 85) (l1 := [(8, .int (0 : Int32)), (7, .int (5 : Int32)), (0, .ref 292), (1, .int (i32 h152)), (2, .int b), (3, .int c), (4, .int e), (5, .int f), (6, .int g)]) (st1 := [.int g, .int (4 : Int32), .int (i32 h152), .ref 292]) 2 rfl rfl rfl ?_
                refine zCs (mj := 109) rfl rfl rfl rfl rfl rfl rfl rfl ?_
                refine c_109 (fun h158 => ?_) (fun h159 => ?_)
                · refine kI ?_
                  refine zPs (pc1 := 98) (l1 := [(8, .int (0 : Int32)), (7, .int (5 : Int32)), (0, .ref 292), (1, .int (i32 h152)), (2, .int b), (3, .int c), (4, .int e), (5, .int f), (6, .int g)]) (st1 := [.int (0 : Int32), .int (1 : Int32), .int (4 : Int32), .int (i32 h152), .ref 292]) 4 rfl rfl rfl ?_
                  refine zCv (mj := 111) (k := 292) (n := 4) rfl rfl rfl rfl (by decide) rfl rfl rfl rfl rfl rfl ?_
                  refine c_111b4 ?_
                  refine kI ?_
                  refine zPs (pc1 := 142) (l1 := [(8, .int (0 : Int32)), (7, .int (5 : Int32)), (0, .ref 292), (1, .int (i32 h152)), (2, .int b), (3, .int c), (4, .int e), (5, .int f), (6, .int g)]) (st1 := []) 1 rfl rfl rfl ?_
                  refine zRv rfl rfl ?_
                  unfold sBranch thr at k
                  try simp only [hclh152] at k
                  try simp only [up2_up2]
                  (repeat' split at k) <;> first | exact k | (exfalso; grind [mostA])
                · refine kI ?_
                  refine zPs (pc1 := 98) (l1 := [(8, .int (0 : Int32)), (7, .int (5 : Int32)), (0, .ref 292), (1, .int (i32 h152)), (2, .int b), (3, .int c), (4, .int e), (5, .int f), (6, .int g)]) (st1 := [.int (0 : Int32), .int (0 : Int32), .int (4 : Int32), .int (i32 h152), .ref 292]) 3 rfl rfl rfl ?_
                  refine zCv (mj := 111) (k := 292) (n := 4) rfl rfl rfl rfl (by decide) rfl rfl rfl rfl rfl rfl ?_
                  refine c_111n4 ?_
                  refine kI ?_
                  refine zPs (pc1 := 142) (l1 := [(8, .int (0 : Int32)), (7, .int (5 : Int32)), (0, .ref 292), (1, .int (i32 h152)), (2, .int b), (3, .int c), (4, .int e), (5, .int f), (6, .int g)]) (st1 := []) 1 rfl rfl rfl ?_
                  refine zRv rfl rfl ?_
                  unfold sBranch thr at k
                  try simp only [hclh152] at k
                  try simp only [up2_up2]
                  (repeat' split at k) <;> first | exact k | (exfalso; grind [mostA])
              · refine kI ?_
                refine zPs (pc1 := 98) (l1 := [(8, .int (0 : Int32)), (7, .int (5 : Int32)), (0, .ref 292), (1, .int (i32 h152)), (2, .int b), (3, .int c), (4, .int e), (5, .int f), (6, .int g)]) (st1 := [.int (0 : Int32), .int (0 : Int32), .int (4 : Int32), .int (i32 h152), .ref 292]) 3 rfl rfl rfl ?_
                refine zCv (mj := 111) (k := 292) (n := 4) rfl rfl rfl rfl (by decide) rfl rfl rfl rfl rfl rfl ?_
                refine c_111n4 ?_
                refine kI ?_
                refine zPs (pc1 := 142) (l1 := [(8, .int (0 : Int32)), (7, .int (5 : Int32)), (0, .ref 292), (1, .int (i32 h152)), (2, .int b), (3, .int c), (4, .int e), (5, .int f), (6, .int g)]) (st1 := []) 1 rfl rfl rfl ?_
                refine zRv rfl rfl ?_
                unfold sBranch thr at k
                try simp only [hclh152] at k
                try simp only [up2_up2]
                (repeat' split at k) <;> first | exact k | (exfalso; grind [mostA])
            · refine kI ?_
              refine zPs (pc1 := 98) (l1 := [(8, .int (0 : Int32)), (7, .int (5 : Int32)), (0, .ref 292), (1, .int a), (2, .int b), (3, .int c), (4, .int e), (5, .int f), (6, .int g)]) (st1 := [.int (0 : Int32), .int (0 : Int32), .int (4 : Int32), .int a, .ref 292]) 3 rfl rfl rfl ?_
              refine zCv (mj := 111) (k := 292) (n := 4) rfl rfl rfl rfl (by decide) rfl rfl rfl rfl rfl rfl ?_
              refine c_111n4 ?_
              refine kI ?_
              refine zPs (pc1 := 142) (l1 := [(8, .int (0 : Int32)), (7, .int (5 : Int32)), (0, .ref 292), (1, .int a), (2, .int b), (3, .int c), (4, .int e), (5, .int f), (6, .int g)]) (st1 := []) 1 rfl rfl rfl ?_
              refine zRv rfl rfl ?_
              unfold sBranch thr at k
              try simp only [up2_up2]
              (repeat' split at k) <;> first | exact k | (exfalso; grind [mostA])
        · refine kI ?_
          refine zPs (pc1 := 69) (l1 := [(8, .int (0 : Int32)), (7, .int (5 : Int32)), (0, .ref 292), (1, .int a), (2, .int b), (3, .int c), (4, .int e), (5, .int f), (6, .int g)]) (st1 := [.int a, .int (4 : Int32), .int a, .ref 292]) 7 rfl rfl rfl ?_
          refine zCs (mj := 108) rfl rfl rfl rfl rfl rfl rfl rfl ?_
          refine c_108 (fun h160 h161 h162 => ?_) (fun h163 => ?_)
          · obtain rfl := h162
            have hNh160 := isN_of h161
            have hclh160 := i32_cl (n := h160) (by omega)
            refine kI ?_
            refine zPs (pc1 := 77) (l1 := [(8, .int (0 : Int32)), (7, .int (5 : Int32)), (0, .ref 292), (1, .int (i32 h160)), (2, .int b), (3, .int c), (4, .int e), (5, .int f), (6, .int g)]) (st1 := [.int f, .int (4 : Int32), .int (i32 h160), .ref 292]) 2 rfl rfl rfl ?_
            refine zCs (mj := 109) rfl rfl rfl rfl rfl rfl rfl rfl ?_
            refine c_109 (fun h164 => ?_) (fun h165 => ?_)
            · refine kI ?_
              refine zPs (pc1 := 85) (l1 := [(8, .int (0 : Int32)), (7, .int (5 : Int32)), (0, .ref 292), (1, .int (i32 h160)), (2, .int b), (3, .int c), (4, .int e), (5, .int f), (6, .int g)]) (st1 := [.int g, .int (4 : Int32), .int (i32 h160), .ref 292]) 2 rfl rfl rfl ?_
              refine zCs (mj := 109) rfl rfl rfl rfl rfl rfl rfl rfl ?_
              refine c_109 (fun h166 => ?_) (fun h167 => ?_)
              · refine kI ?_
                refine zPs (pc1 := 98) (l1 := [(8, .int (0 : Int32)), (7, .int (5 : Int32)), (0, .ref 292), (1, .int (i32 h160)), (2, .int b), (3, .int c), (4, .int e), (5, .int f), (6, .int g)]) (st1 := [.int (0 : Int32), .int (1 : Int32), .int (4 : Int32), .int (i32 h160), .ref 292]) 4 rfl rfl rfl ?_
                refine zCv (mj := 111) (k := 292) (n := 4) rfl rfl rfl rfl (by decide) rfl rfl rfl rfl rfl rfl ?_
                refine c_111b4 ?_
                refine kI ?_
                refine zPs (pc1 := 142) (l1 := [(8, .int (0 : Int32)), (7, .int (5 : Int32)), (0, .ref 292), (1, .int (i32 h160)), (2, .int b), (3, .int c), (4, .int e), (5, .int f), (6, .int g)]) (st1 := []) 1 rfl rfl rfl ?_
                refine zRv rfl rfl ?_
                unfold sBranch thr at k
                try simp only [hclh160] at k
                try simp only [up2_up2]
                (repeat' split at k) <;> first | exact k | (exfalso; grind [mostA])
              · refine kI ?_
                refine zPs (pc1 := 98) (l1 := [(8, .int (0 : Int32)), (7, .int (5 : Int32)), (0, .ref 292), (1, .int (i32 h160)), (2, .int b), (3, .int c), (4, .int e), (5, .int f), (6, .int g)]) (st1 := [.int (0 : Int32), .int (0 : Int32), .int (4 : Int32), .int (i32 h160), .ref 292]) 3 rfl rfl rfl ?_
                refine zCv (mj := 111) (k := 292) (n := 4) rfl rfl rfl rfl (by decide) rfl rfl rfl rfl rfl rfl ?_
                refine c_111n4 ?_
                refine kI ?_
                refine zPs (pc1 := 142) (l1 := [(8, .int (0 : Int32)), (7, .int (5 : Int32)), (0, .ref 292), (1, .int (i32 h160)), (2, .int b), (3, .int c), (4, .int e), (5, .int f), (6, .int g)]) (st1 := []) 1 rfl rfl rfl ?_
                refine zRv rfl rfl ?_
                unfold sBranch thr at k
                try simp only [hclh160] at k
                try simp only [up2_up2]
                (repeat' split at k) <;> first | exact k | (exfalso; grind [mostA])
            · refine kI ?_
              refine zPs (pc1 := 98) (l1 := [(8, .int (0 : Int32)), (7, .int (5 : Int32)), (0, .ref 292), (1, .int (i32 h160)), (2, .int b), (3, .int c), (4, .int e), (5, .int f), (6, .int g)]) (st1 := [.int (0 : Int32), .int (0 : Int32), .int (4 : Int32), .int (i32 h160), .ref 292]) 3 rfl rfl rfl ?_
              refine zCv (mj := 111) (k := 292) (n := 4) rfl rfl rfl rfl (by decide) rfl rfl rfl rfl rfl rfl ?_
              refine c_111n4 ?_
              refine kI ?_
              refine zPs (pc1 := 142) (l1 := [(8, .int (0 : Int32)), (7, .int (5 : Int32)), (0, .ref 292), (1, .int (i32 h160)), (2, .int b), (3, .int c), (4, .int e), (5, .int f), (6, .int g)]) (st1 := []) 1 rfl rfl rfl ?_
              refine zRv rfl rfl ?_
              unfold sBranch thr at k
              try simp only [hclh160] at k
              try simp only [up2_up2]
              (repeat' split at k) <;> first | exact k | (exfalso; grind [mostA])
          · refine kI ?_
            refine zPs (pc1 := 98) (l1 := [(8, .int (0 : Int32)), (7, .int (5 : Int32)), (0, .ref 292), (1, .int a), (2, .int b), (3, .int c), (4, .int e), (5, .int f), (6, .int g)]) (st1 := [.int (0 : Int32), .int (0 : Int32), .int (4 : Int32), .int a, .ref 292]) 3 rfl rfl rfl ?_
            refine zCv (mj := 111) (k := 292) (n := 4) rfl rfl rfl rfl (by decide) rfl rfl rfl rfl rfl rfl ?_
            refine c_111n4 ?_
            refine kI ?_
            refine zPs (pc1 := 142) (l1 := [(8, .int (0 : Int32)), (7, .int (5 : Int32)), (0, .ref 292), (1, .int a), (2, .int b), (3, .int c), (4, .int e), (5, .int f), (6, .int g)]) (st1 := []) 1 rfl rfl rfl ?_
            refine zRv rfl rfl ?_
            unfold sBranch thr at k
            try simp only [up2_up2]
            (repeat' split at k) <;> first | exact k | (exfalso; grind [mostA])
      · refine kI ?_
        refine zPs (pc1 := 69) (l1 := [(8, .int (0 : Int32)), (7, .int (5 : Int32)), (0, .ref 292), (1, .int a), (2, .int b), (3, .int c), (4, .int e), (5, .int f), (6, .int g)]) (st1 := [.int a, .int (4 : Int32), .int a, .ref 292]) 7 rfl rfl rfl ?_
        refine zCs (mj := 108) rfl rfl rfl rfl rfl rfl rfl rfl ?_
        refine c_108 (fun h168 h169 h170 => ?_) (fun h171 => ?_)
        · obtain rfl := h170
          have hNh168 := isN_of h169
          have hclh168 := i32_cl (n := h168) (by omega)
          refine kI ?_
          refine zPs (pc1 := 77) (l1 := [(8, .int (0 : Int32)), (7, .int (5 : Int32)), (0, .ref 292), (1, .int (i32 h168)), (2, .int b), (3, .int c), (4, .int e), (5, .int f), (6, .int g)]) (st1 := [.int f, .int (4 : Int32), .int (i32 h168), .ref 292]) 2 rfl rfl rfl ?_
          refine zCs (mj := 109) rfl rfl rfl rfl rfl rfl rfl rfl ?_
          refine c_109 (fun h172 => ?_) (fun h173 => ?_)
          · refine kI ?_
            refine zPs (pc1 := 85) (l1 := [(8, .int (0 : Int32)), (7, .int (5 : Int32)), (0, .ref 292), (1, .int (i32 h168)), (2, .int b), (3, .int c), (4, .int e), (5, .int f), (6, .int g)]) (st1 := [.int g, .int (4 : Int32), .int (i32 h168), .ref 292]) 2 rfl rfl rfl ?_
            refine zCs (mj := 109) rfl rfl rfl rfl rfl rfl rfl rfl ?_
            refine c_109 (fun h174 => ?_) (fun h175 => ?_)
            · refine kI ?_
              refine zPs (pc1 := 98) (l1 := [(8, .int (0 : Int32)), (7, .int (5 : Int32)), (0, .ref 292), (1, .int (i32 h168)), (2, .int b), (3, .int c), (4, .int e), (5, .int f), (6, .int g)]) (st1 := [.int (0 : Int32), .int (1 : Int32), .int (4 : Int32), .int (i32 h168), .ref 292]) 4 rfl rfl rfl ?_
              refine zCv (mj := 111) (k := 292) (n := 4) rfl rfl rfl rfl (by decide) rfl rfl rfl rfl rfl rfl ?_
              refine c_111b4 ?_
              refine kI ?_
              refine zPs (pc1 := 142) (l1 := [(8, .int (0 : Int32)), (7, .int (5 : Int32)), (0, .ref 292), (1, .int (i32 h168)), (2, .int b), (3, .int c), (4, .int e), (5, .int f), (6, .int g)]) (st1 := []) 1 rfl rfl rfl ?_
              refine zRv rfl rfl ?_
              unfold sBranch thr at k
              try simp only [hclh168] at k
              try simp only [up2_up2]
              (repeat' split at k) <;> first | exact k | (exfalso; grind [mostA])
            · refine kI ?_
              refine zPs (pc1 := 98) (l1 := [(8, .int (0 : Int32)), (7, .int (5 : Int32)), (0, .ref 292), (1, .int (i32 h168)), (2, .int b), (3, .int c), (4, .int e), (5, .int f), (6, .int g)]) (st1 := [.int (0 : Int32), .int (0 : Int32), .int (4 : Int32), .int (i32 h168), .ref 292]) 3 rfl rfl rfl ?_
              refine zCv (mj := 111) (k := 292) (n := 4) rfl rfl rfl rfl (by decide) rfl rfl rfl rfl rfl rfl ?_
              refine c_111n4 ?_
              refine kI ?_
              refine zPs (pc1 := 142) (l1 := [(8, .int (0 : Int32)), (7, .int (5 : Int32)), (0, .ref 292), (1, .int (i32 h168)), (2, .int b), (3, .int c), (4, .int e), (5, .int f), (6, .int g)]) (st1 := []) 1 rfl rfl rfl ?_
              refine zRv rfl rfl ?_
              unfold sBranch thr at k
              try simp only [hclh168] at k
              try simp only [up2_up2]
              (repeat' split at k) <;> first | exact k | (exfalso; grind [mostA])
          · refine kI ?_
            refine zPs (pc1 := 98) (l1 := [(8, .int (0 : Int32)), (7, .int (5 : Int32)), (0, .ref 292), (1, .int (i32 h168)), (2, .int b), (3, .int c), (4, .int e), (5, .int f), (6, .int g)]) (st1 := [.int (0 : Int32), .int (0 : Int32), .int (4 : Int32), .int (i32 h168), .ref 292]) 3 rfl rfl rfl ?_
            refine zCv (mj := 111) (k := 292) (n := 4) rfl rfl rfl rfl (by decide) rfl rfl rfl rfl rfl rfl ?_
            refine c_111n4 ?_
            refine kI ?_
            refine zPs (pc1 := 142) (l1 := [(8, .int (0 : Int32)), (7, .int (5 : Int32)), (0, .ref 292), (1, .int (i32 h168)), (2, .int b), (3, .int c), (4, .int e), (5, .int f), (6, .int g)]) (st1 := []) 1 rfl rfl rfl ?_
            refine zRv rfl rfl ?_
            unfold sBranch thr at k
            try simp only [hclh168] at k
            try simp only [up2_up2]
            (repeat' split at k) <;> first | exact k | (exfalso; grind [mostA])
        · refine kI ?_
          refine zPs (pc1 := 98) (l1 := [(8, .int (0 : Int32)), (7, .int (5 : Int32)), (0, .ref 292), (1, .int a), (2, .int b), (3, .int c), (4, .int e), (5, .int f), (6, .int g)]) (st1 := [.int (0 : Int32), .int (0 : Int32), .int (4 : Int32), .int a, .ref 292]) 3 rfl rfl rfl ?_
          refine zCv (mj := 111) (k := 292) (n := 4) rfl rfl rfl rfl (by decide) rfl rfl rfl rfl rfl rfl ?_
          refine c_111n4 ?_
          refine kI ?_
          refine zPs (pc1 := 142) (l1 := [(8, .int (0 : Int32)), (7, .int (5 : Int32)), (0, .ref 292), (1, .int a), (2, .int b), (3, .int c), (4, .int e), (5, .int f), (6, .int g)]) (st1 := []) 1 rfl rfl rfl ?_
          refine zRv rfl rfl ?_
          unfold sBranch thr at k
          try simp only [up2_up2]
          (repeat' split at k) <;> first | exact k | (exfalso; grind [mostA])
