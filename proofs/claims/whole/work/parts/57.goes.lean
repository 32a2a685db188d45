/-! ===== the model: on and on ===== -/
def dpt (z : Sg) (c : Nat) : Nat := (z 318 c).toNatClampNeg
theorem dpt_of {z : Sg} {c d : Nat} (h : z 318 c = i32 d) (hd : d ≤ 4) : dpt z c = d := by
  unfold dpt
  rw [h, i32_cl (by omega)]
noncomputable def sActs (z : Sg) (n t c m : Nat) : Sg × Int32 :=
  if z 296 m = 1 then (up2 z 316 c (z 292 0 + z 297 m), -2)
  else if z 296 m = 2 ∨ z 296 m = 3 then (sListen (up2 z 315 c 0) c m, -2)
  else if z 296 m = 4 then (z, if soM z n t c m then z 301 m else z 302 m)
  else if z 296 m = 5 then (if dpt z c = 4 then (sEnds z c 3, -2) else (up2 (up2 z 319 (4 * c + dpt z c) (z 302 m)) 318 c (i32 (dpt z c + 1)), z 301 m))
  else if z 296 m = 6 then (up2 z 318 c (i32 (dpt z c - 1)), z 319 (4 * c + (dpt z c - 1)))
  else if z 296 m = 7 then sLines z n c m
  else if z 296 m = 8 then (if z 320 c < 0 then (sEnds z c 0, -2) else (up2 (up2 (up2 (up2 z 311 c 3) 313 c (-1)) 323 c 0) 324 c 0, -2))
  else (z, -1)
noncomputable def sActIn (z : Sg) (n t c m : Nat) : Sg × Int32 := if z 296 m = 6 ∧ dpt z c = 0 then (z, -1) else sActs z n t c m
theorem c_136 {z : Sg} {P : MO → Sg → Prop} {n : Nat} (hl : n ≤ 60) (hn : z 292 19 = i32 n) {t : Nat} (htl : t ≤ 20000) (ht : z 292 0 = i32 t) {c m : Nat} (hc : c < 60) (hm : m < 30) (hnd : z 313 c = i32 m) {d : Nat} (hd4 : d ≤ 4) (hd : z 318 c = i32 d) (h6 : z 296 m = 6 → 0 < d) (k : P (.inl (some (.int (sActs z n t c m).2))) (sActs z n t c m).1) : Es true 136 [.ref 292, .int (i32 c), .int (i32 m)] z P := by
  have hdp := dpt_of hd hd4
  refine Es.of ?_
  refine zPs (pc1 := 1) (l1 := [(0, .ref 292), (1, .int (i32 c)), (2, .int (i32 m))]) (st1 := [.ref 292]) 1 rfl rfl rfl ?_
  refine zGetR (r := 296) rfl rfl ⟨by decide, rfl, by decide, rfl⟩ ?_
  refine zPs (pc1 := 5) (l1 := [(0, .ref 292), (1, .int (i32 c)), (2, .int (i32 m))]) (st1 := [.int (i32 m), .ref 296]) 1 rfl rfl rfl ?_
  refine zIal (n := m) (v := z 296 m) rfl (icM (k := 296) (L := 30) rfl hm) rfl ?_
  refine zSw rfl rfl ?_
  refine zSwS (fun h1 => ?_) (fun h1 => ?_)
  · refine zPs (pc1 := 53) (l1 := [(0, .ref 292), (1, .int (i32 c)), (2, .int (i32 m))]) (st1 := [.ref 292]) 1 rfl rfl rfl ?_
    refine zGetR (r := 316) rfl rfl ⟨by decide, rfl, by decide, rfl⟩ ?_
    refine zPs (pc1 := 58) (l1 := [(0, .ref 292), (1, .int (i32 c)), (2, .int (i32 m))]) (st1 := [.ref 292, .int (i32 c), .ref 316]) 2 rfl rfl rfl ?_
    refine zGetI (v := i32 t) rfl rfl icTime ht ?_
    refine zPs (pc1 := 62) (l1 := [(0, .ref 292), (1, .int (i32 c)), (2, .int (i32 m))]) (st1 := [.ref 292, .int (i32 t), .int (i32 c), .ref 316]) 1 rfl rfl rfl ?_
    refine zGetR (r := 297) rfl rfl ⟨by decide, rfl, by decide, rfl⟩ ?_
    refine zPs (pc1 := 66) (l1 := [(0, .ref 292), (1, .int (i32 c)), (2, .int (i32 m))]) (st1 := [.int (i32 m), .ref 297, .int (i32 t), .int (i32 c), .ref 316]) 1 rfl rfl rfl ?_
    refine zIal (n := m) (v := z 297 m) rfl (icM (k := 297) (L := 30) rfl hm) rfl ?_
    refine zPs (pc1 := 68) (l1 := [(0, .ref 292), (1, .int (i32 c)), (2, .int (i32 m))]) (st1 := [.int (i32 t + z 297 m), .int (i32 c), .ref 316]) 1 rfl rfl rfl ?_
    refine zIas (n := c) rfl (icM (k := 316) (L := 60) rfl hc) ?_
    refine zPs (pc1 := 71) (l1 := [(0, .ref 292), (1, .int (i32 c)), (2, .int (i32 m))]) (st1 := [.int (-2 : Int32)]) 1 rfl rfl rfl ?_
    refine zRi rfl rfl ?_
    first | (simpa [sActs, hdp, *] using k) | (simpa [sActs, hdp, ← Int32.not_lt, *] using k) | (simpa [sActs, hdp, ← Int32.not_le, *] using k)
  · refine zSwS (fun h2 => ?_) (fun h2 => ?_)
    · refine zPs (pc1 := 73) (l1 := [(0, .ref 292), (1, .int (i32 c)), (2, .int (i32 m))]) (st1 := [.ref 292]) 1 rfl rfl rfl ?_
      refine zGetR (r := 315) rfl rfl ⟨by decide, rfl, by decide, rfl⟩ ?_
      refine zPs (pc1 := 78) (l1 := [(0, .ref 292), (1, .int (i32 c)), (2, .int (i32 m))]) (st1 := [.int (0 : Int32), .int (i32 c), .ref 315]) 2 rfl rfl rfl ?_
      refine zIas (n := c) rfl (icM (k := 315) (L := 60) rfl hc) ?_
      refine zPs (pc1 := 81) (l1 := [(0, .ref 292), (1, .int (i32 c)), (2, .int (i32 m))]) (st1 := [.int (i32 c), .ref 292]) 2 rfl rfl rfl ?_
      refine zCv (mj := 134) (k := 292) (n := 1) rfl rfl rfl rfl (by decide) rfl rfl rfl rfl rfl rfl ?_
      refine c_134 hc hm (by simp [up2, hnd]) ?_
      refine kV ?_
      refine zPs (pc1 := 86) (l1 := [(0, .ref 292), (1, .int (i32 c)), (2, .int (i32 m))]) (st1 := [.int (-2 : Int32)]) 1 rfl rfl rfl ?_
      refine zRi rfl rfl ?_
      first | (simpa [sActs, hdp, *] using k) | (simpa [sActs, hdp, ← Int32.not_lt, *] using k) | (simpa [sActs, hdp, ← Int32.not_le, *] using k)
    · refine zSwS (fun h3 => ?_) (fun h3 => ?_)
      · refine zPs (pc1 := 73) (l1 := [(0, .ref 292), (1, .int (i32 c)), (2, .int (i32 m))]) (st1 := [.ref 292]) 1 rfl rfl rfl ?_
        refine zGetR (r := 315) rfl rfl ⟨by decide, rfl, by decide, rfl⟩ ?_
        refine zPs (pc1 := 78) (l1 := [(0, .ref 292), (1, .int (i32 c)), (2, .int (i32 m))]) (st1 := [.int (0 : Int32), .int (i32 c), .ref 315]) 2 rfl rfl rfl ?_
        refine zIas (n := c) rfl (icM (k := 315) (L := 60) rfl hc) ?_
        refine zPs (pc1 := 81) (l1 := [(0, .ref 292), (1, .int (i32 c)), (2, .int (i32 m))]) (st1 := [.int (i32 c), .ref 292]) 2 rfl rfl rfl ?_
        refine zCv (mj := 134) (k := 292) (n := 1) rfl rfl rfl rfl (by decide) rfl rfl rfl rfl rfl rfl ?_
        refine c_134 hc hm (by simp [up2, hnd]) ?_
        refine kV ?_
        refine zPs (pc1 := 86) (l1 := [(0, .ref 292), (1, .int (i32 c)), (2, .int (i32 m))]) (st1 := [.int (-2 : Int32)]) 1 rfl rfl rfl ?_
        refine zRi rfl rfl ?_
        first | (simpa [sActs, hdp, *] using k) | (simpa [sActs, hdp, ← Int32.not_lt, *] using k) | (simpa [sActs, hdp, ← Int32.not_le, *] using k)
      · refine zSwS (fun h4 => ?_) (fun h4 => ?_)
        · refine zPs (pc1 := 90) (l1 := [(0, .ref 292), (1, .int (i32 c)), (2, .int (i32 m))]) (st1 := [.int (i32 m), .int (i32 c), .ref 292]) 3 rfl rfl rfl ?_
          refine zCv (mj := 133) (k := 292) (n := 2) rfl rfl rfl rfl (by decide) rfl rfl rfl rfl rfl rfl ?_
          refine c_133 hl hn htl ht hc hm (fun h5 => ?_) (fun h6 => ?_)
          · refine kI ?_
            refine zPs (pc1 := 97) (l1 := [(0, .ref 292), (1, .int (i32 c)), (2, .int (i32 m))]) (st1 := [.ref 292]) 2 rfl rfl rfl ?_
            refine zGetR (r := 301) rfl rfl ⟨by decide, rfl, by decide, rfl⟩ ?_
            refine zPs (pc1 := 101) (l1 := [(0, .ref 292), (1, .int (i32 c)), (2, .int (i32 m))]) (st1 := [.int (i32 m), .ref 301]) 1 rfl rfl rfl ?_
            refine zIal (n := m) (v := z 301 m) rfl (icM (k := 301) (L := 30) rfl hm) rfl ?_
            refine zPs (pc1 := 111) (l1 := [(0, .ref 292), (1, .int (i32 c)), (2, .int (i32 m))]) (st1 := [.int (z 301 m)]) 1 rfl rfl rfl ?_
            refine zRi rfl rfl ?_
            first | (simpa [sActs, hdp, *] using k) | (simpa [sActs, hdp, ← Int32.not_lt, *] using k) | (simpa [sActs, hdp, ← Int32.not_le, *] using k)
          · refine kI ?_
            refine zPs (pc1 := 106) (l1 := [(0, .ref 292), (1, .int (i32 c)), (2, .int (i32 m))]) (st1 := [.ref 292]) 2 rfl rfl rfl ?_
            refine zGetR (r := 302) rfl rfl ⟨by decide, rfl, by decide, rfl⟩ ?_
            refine zPs (pc1 := 110) (l1 := [(0, .ref 292), (1, .int (i32 c)), (2, .int (i32 m))]) (st1 := [.int (i32 m), .ref 302]) 1 rfl rfl rfl ?_
            refine zIal (n := m) (v := z 302 m) rfl (icM (k := 302) (L := 30) rfl hm) rfl ?_
            refine zRi rfl rfl ?_
            first | (simpa [sActs, hdp, *] using k) | (simpa [sActs, hdp, ← Int32.not_lt, *] using k) | (simpa [sActs, hdp, ← Int32.not_le, *] using k)
        · refine zSwS (fun h7 => ?_) (fun h7 => ?_)
          · refine zPs (pc1 := 113) (l1 := [(0, .ref 292), (1, .int (i32 c)), (2, .int (i32 m))]) (st1 := [.ref 292]) 1 rfl rfl rfl ?_
            refine zGetR (r := 318) rfl rfl ⟨by decide, rfl, by decide, rfl⟩ ?_
            refine zPs (pc1 := 117) (l1 := [(0, .ref 292), (1, .int (i32 c)), (2, .int (i32 m))]) (st1 := [.int (i32 c), .ref 318]) 1 rfl rfl rfl ?_
            refine zIal (n := c) (v := i32 d) rfl (icM (k := 318) (L := 60) rfl hc) hd ?_
            refine zPs (pc1 := 119) (l1 := [(0, .ref 292), (1, .int (i32 c)), (2, .int (i32 m))]) (st1 := [.int (4 : Int32), .int (i32 d)]) 1 rfl rfl rfl ?_
            refine nCn (a := d) (b := 4) (by omega) (by omega) rfl (fun h8 => ?_) (fun h8 => ?_)
            · refine zPs (pc1 := 132) (l1 := [(0, .ref 292), (1, .int (i32 c)), (2, .int (i32 m))]) (st1 := [.ref 292]) 1 rfl rfl rfl ?_
              refine zGetR (r := 319) rfl rfl ⟨by decide, rfl, by decide, rfl⟩ ?_
              refine zPs (pc1 := 138) (l1 := [(0, .ref 292), (1, .int (i32 c)), (2, .int (i32 m))]) (st1 := [.int ((4 : Int32) * i32 c), .ref 319]) 3 rfl rfl rfl ?_
              refine zTo (ml' := [(0, .ref 292), (1, .int (i32 c)), (2, .int (i32 m))]) (st' := [.int (i32 (4 * c)), .ref 319]) rfl (by rw [show ((4 : Int32) * i32 c) = i32 (4 * c) from i32_mul 4 c]) ?_
              refine zPs (pc1 := 139) (l1 := [(0, .ref 292), (1, .int (i32 c)), (2, .int (i32 m))]) (st1 := [.ref 292, .int (i32 (4 * c)), .ref 319]) 1 rfl rfl rfl ?_
              refine zGetR (r := 318) rfl rfl ⟨by decide, rfl, by decide, rfl⟩ ?_
              refine zPs (pc1 := 143) (l1 := [(0, .ref 292), (1, .int (i32 c)), (2, .int (i32 m))]) (st1 := [.int (i32 c), .ref 318, .int (i32 (4 * c)), .ref 319]) 1 rfl rfl rfl ?_
              refine zIal (n := c) (v := i32 d) rfl (icM (k := 318) (L := 60) rfl hc) hd ?_
              refine zPs (pc1 := 145) (l1 := [(0, .ref 292), (1, .int (i32 c)), (2, .int (i32 m))]) (st1 := [.int (i32 (4 * c) + i32 d), .ref 319]) 1 rfl rfl rfl ?_
              refine zTo (ml' := [(0, .ref 292), (1, .int (i32 c)), (2, .int (i32 m))]) (st' := [.int (i32 (4 * c + d)), .ref 319]) rfl (by rw [show (i32 (4 * c) + i32 d) = i32 (4 * c + d) from i32_add (4 * c) d]) ?_
              refine zPs (pc1 := 146) (l1 := [(0, .ref 292), (1, .int (i32 c)), (2, .int (i32 m))]) (st1 := [.ref 292, .int (i32 (4 * c + d)), .ref 319]) 1 rfl rfl rfl ?_
              refine zGetR (r := 302) rfl rfl ⟨by decide, rfl, by decide, rfl⟩ ?_
              refine zPs (pc1 := 150) (l1 := [(0, .ref 292), (1, .int (i32 c)), (2, .int (i32 m))]) (st1 := [.int (i32 m), .ref 302, .int (i32 (4 * c + d)), .ref 319]) 1 rfl rfl rfl ?_
              refine zIal (n := m) (v := z 302 m) rfl (icM (k := 302) (L := 30) rfl hm) rfl ?_
              refine zIas (n := 4 * c + d) rfl (icM (k := 319) (L := 240) rfl (by omega)) ?_
              refine zPs (pc1 := 153) (l1 := [(0, .ref 292), (1, .int (i32 c)), (2, .int (i32 m))]) (st1 := [.ref 292]) 1 rfl rfl rfl ?_
              refine zGetR (r := 318) rfl rfl ⟨by decide, rfl, by decide, rfl⟩ ?_
              refine zPs (pc1 := 158) (l1 := [(0, .ref 292), (1, .int (i32 c)), (2, .int (i32 m))]) (st1 := [.int (i32 c), .ref 318, .int (i32 c), .ref 318]) 2 rfl rfl rfl ?_
              refine zIal (n := c) (v := i32 d) rfl (icM (k := 318) (L := 60) rfl hc) (by simp [up2, hd]) ?_
              refine zPs (pc1 := 161) (l1 := [(0, .ref 292), (1, .int (i32 c)), (2, .int (i32 m))]) (st1 := [.int (i32 d + (1 : Int32)), .int (i32 c), .ref 318]) 2 rfl rfl rfl ?_
              refine zTo (ml' := [(0, .ref 292), (1, .int (i32 c)), (2, .int (i32 m))]) (st' := [.int (i32 (d + 1)), .int (i32 c), .ref 318]) rfl (by rw [show (i32 d + (1 : Int32)) = i32 (d + 1) from i32_add d 1]) ?_
              refine zIas (n := c) rfl (icM (k := 318) (L := 60) rfl hc) ?_
              refine zPs (pc1 := 163) (l1 := [(0, .ref 292), (1, .int (i32 c)), (2, .int (i32 m))]) (st1 := [.ref 292]) 1 rfl rfl rfl ?_
              refine zGetR (r := 301) rfl rfl ⟨by decide, rfl, by decide, rfl⟩ ?_
              refine zPs (pc1 := 167) (l1 := [(0, .ref 292), (1, .int (i32 c)), (2, .int (i32 m))]) (st1 := [.int (i32 m), .ref 301]) 1 rfl rfl rfl ?_
              refine zIal (n := m) (v := z 301 m) rfl (icM (k := 301) (L := 30) rfl hm) (by simp [up2]) ?_
              refine zRi rfl rfl ?_
              first | (simpa [sActs, hdp, *] using k) | (simpa [sActs, hdp, ← Int32.not_lt, *] using k) | (simpa [sActs, hdp, ← Int32.not_le, *] using k)
            · refine zPs (pc1 := 125) (l1 := [(0, .ref 292), (1, .int (i32 c)), (2, .int (i32 m))]) (st1 := [.int (3 : Int32), .int (i32 c), .ref 292]) 3 rfl rfl rfl ?_
              refine zCv (mj := 132) (k := 292) (n := 2) rfl rfl rfl rfl (by decide) rfl rfl rfl rfl rfl rfl ?_
              refine c_132 hc ?_
              refine kV ?_
              refine zPs (pc1 := 130) (l1 := [(0, .ref 292), (1, .int (i32 c)), (2, .int (i32 m))]) (st1 := [.int (-2 : Int32)]) 1 rfl rfl rfl ?_
              refine zRi rfl rfl ?_
              first | (simpa [sActs, hdp, *] using k) | (simpa [sActs, hdp, ← Int32.not_lt, *] using k) | (simpa [sActs, hdp, ← Int32.not_le, *] using k)
          · refine zSwS (fun h9 => ?_) (fun h9 => ?_)
            · refine zPs (pc1 := 170) (l1 := [(0, .ref 292), (1, .int (i32 c)), (2, .int (i32 m))]) (st1 := [.ref 292]) 1 rfl rfl rfl ?_
              refine zGetR (r := 318) rfl rfl ⟨by decide, rfl, by decide, rfl⟩ ?_
              refine zPs (pc1 := 175) (l1 := [(0, .ref 292), (1, .int (i32 c)), (2, .int (i32 m))]) (st1 := [.int (i32 c), .ref 318, .int (i32 c), .ref 318]) 2 rfl rfl rfl ?_
              refine zIal (n := c) (v := i32 d) rfl (icM (k := 318) (L := 60) rfl hc) hd ?_
              refine zPs (pc1 := 177) (l1 := [(0, .ref 292), (1, .int (i32 c)), (2, .int (i32 m))]) (st1 := [.ref 292, .int (i32 d), .int (i32 c), .ref 318]) 1 rfl rfl rfl ?_
              refine zGetR (r := 318) rfl rfl ⟨by decide, rfl, by decide, rfl⟩ ?_
              refine zPs (pc1 := 181) (l1 := [(0, .ref 292), (1, .int (i32 c)), (2, .int (i32 m))]) (st1 := [.int (i32 c), .ref 318, .int (i32 d), .int (i32 c), .ref 318]) 1 rfl rfl rfl ?_
              refine zIal (n := c) (v := i32 d) rfl (icM (k := 318) (L := 60) rfl hc) hd ?_
              refine nIle (a := d) (by omega) rfl (fun h10 => by have := h6 h9; omega) (fun h10 => ?_)
              refine zPs (pc1 := 191) (l1 := [(0, .ref 292), (1, .int (i32 c)), (2, .int (i32 m))]) (st1 := [.int (i32 d - (1 : Int32)), .int (i32 c), .ref 318]) 3 rfl rfl rfl ?_
              refine zTo (ml' := [(0, .ref 292), (1, .int (i32 c)), (2, .int (i32 m))]) (st' := [.int (i32 (d - 1)), .int (i32 c), .ref 318]) rfl (by rw [show (i32 d - (1 : Int32)) = i32 (d - 1) from i32_sub (a := d) (b := 1) (by omega)]) ?_
              refine zIas (n := c) rfl (icM (k := 318) (L := 60) rfl hc) ?_
              refine zPs (pc1 := 193) (l1 := [(0, .ref 292), (1, .int (i32 c)), (2, .int (i32 m))]) (st1 := [.ref 292]) 1 rfl rfl rfl ?_
              refine zGetR (r := 319) rfl rfl ⟨by decide, rfl, by decide, rfl⟩ ?_
              refine zPs (pc1 := 199) (l1 := [(0, .ref 292), (1, .int (i32 c)), (2, .int (i32 m))]) (st1 := [.int ((4 : Int32) * i32 c), .ref 319]) 3 rfl rfl rfl ?_
              refine zTo (ml' := [(0, .ref 292), (1, .int (i32 c)), (2, .int (i32 m))]) (st' := [.int (i32 (4 * c)), .ref 319]) rfl (by rw [show ((4 : Int32) * i32 c) = i32 (4 * c) from i32_mul 4 c]) ?_
              refine zPs (pc1 := 200) (l1 := [(0, .ref 292), (1, .int (i32 c)), (2, .int (i32 m))]) (st1 := [.ref 292, .int (i32 (4 * c)), .ref 319]) 1 rfl rfl rfl ?_
              refine zGetR (r := 318) rfl rfl ⟨by decide, rfl, by decide, rfl⟩ ?_
              refine zPs (pc1 := 204) (l1 := [(0, .ref 292), (1, .int (i32 c)), (2, .int (i32 m))]) (st1 := [.int (i32 c), .ref 318, .int (i32 (4 * c)), .ref 319]) 1 rfl rfl rfl ?_
              refine zIal (n := c) (v := i32 (d - 1)) rfl (icM (k := 318) (L := 60) rfl hc) (by simp [up2]) ?_
              refine zPs (pc1 := 206) (l1 := [(0, .ref 292), (1, .int (i32 c)), (2, .int (i32 m))]) (st1 := [.int (i32 (4 * c) + i32 (d - 1)), .ref 319]) 1 rfl rfl rfl ?_
              refine zTo (ml' := [(0, .ref 292), (1, .int (i32 c)), (2, .int (i32 m))]) (st' := [.int (i32 (4 * c + (d - 1))), .ref 319]) rfl (by rw [show (i32 (4 * c) + i32 (d - 1)) = i32 (4 * c + (d - 1)) from i32_add (4 * c) (d - 1)]) ?_
              refine zIal (n := 4 * c + (d - 1)) (v := z 319 (4 * c + (d - 1))) rfl (icM (k := 319) (L := 240) rfl (by omega)) (by simp [up2]) ?_
              refine zRi rfl rfl ?_
              first | (simpa [sActs, hdp, *] using k) | (simpa [sActs, hdp, ← Int32.not_lt, *] using k) | (simpa [sActs, hdp, ← Int32.not_le, *] using k)
            · refine zSwS (fun h11 => ?_) (fun h11 => ?_)
              · refine zPs (pc1 := 211) (l1 := [(0, .ref 292), (1, .int (i32 c)), (2, .int (i32 m))]) (st1 := [.int (i32 m), .int (i32 c), .ref 292]) 3 rfl rfl rfl ?_
                refine zCv (mj := 135) (k := 292) (n := 2) rfl rfl rfl rfl (by decide) rfl rfl rfl rfl rfl rfl ?_
                refine c_135 hl hn hc hm ?_
                refine kI ?_
                refine zRi rfl rfl ?_
                first | (simpa [sActs, hdp, *] using k) | (simpa [sActs, hdp, ← Int32.not_lt, *] using k) | (simpa [sActs, hdp, ← Int32.not_le, *] using k)
              · refine zSwS (fun h12 => ?_) (fun h12 => ?_)
                · refine zPs (pc1 := 216) (l1 := [(0, .ref 292), (1, .int (i32 c)), (2, .int (i32 m))]) (st1 := [.ref 292]) 1 rfl rfl rfl ?_
                  refine zGetR (r := 320) rfl rfl ⟨by decide, rfl, by decide, rfl⟩ ?_
                  refine zPs (pc1 := 220) (l1 := [(0, .ref 292), (1, .int (i32 c)), (2, .int (i32 m))]) (st1 := [.int (i32 c), .ref 320]) 1 rfl rfl rfl ?_
                  refine zIal (n := c) (v := z 320 c) rfl (icM (k := 320) (L := 60) rfl hc) rfl ?_
                  refine zIfge rfl (fun h13 => ?_) (fun h13 => ?_)
                  · refine zPs (pc1 := 234) (l1 := [(0, .ref 292), (1, .int (i32 c)), (2, .int (i32 m))]) (st1 := [.ref 292]) 1 rfl rfl rfl ?_
                    refine zGetR (r := 311) rfl rfl ⟨by decide, rfl, by decide, rfl⟩ ?_
                    refine zPs (pc1 := 239) (l1 := [(0, .ref 292), (1, .int (i32 c)), (2, .int (i32 m))]) (st1 := [.int (3 : Int32), .int (i32 c), .ref 311]) 2 rfl rfl rfl ?_
                    refine zIas (n := c) rfl (icM (k := 311) (L := 60) rfl hc) ?_
                    refine zPs (pc1 := 241) (l1 := [(0, .ref 292), (1, .int (i32 c)), (2, .int (i32 m))]) (st1 := [.ref 292]) 1 rfl rfl rfl ?_
                    refine zGetR (r := 313) rfl rfl ⟨by decide, rfl, by decide, rfl⟩ ?_
                    refine zPs (pc1 := 246) (l1 := [(0, .ref 292), (1, .int (i32 c)), (2, .int (i32 m))]) (st1 := [.int (-1 : Int32), .int (i32 c), .ref 313]) 2 rfl rfl rfl ?_
                    refine zIas (n := c) rfl (icM (k := 313) (L := 60) rfl hc) ?_
                    refine zPs (pc1 := 248) (l1 := [(0, .ref 292), (1, .int (i32 c)), (2, .int (i32 m))]) (st1 := [.ref 292]) 1 rfl rfl rfl ?_
                    refine zGetR (r := 323) rfl rfl ⟨by decide, rfl, by decide, rfl⟩ ?_
                    refine zPs (pc1 := 253) (l1 := [(0, .ref 292), (1, .int (i32 c)), (2, .int (i32 m))]) (st1 := [.int (0 : Int32), .int (i32 c), .ref 323]) 2 rfl rfl rfl ?_
                    refine zIas (n := c) rfl (icM (k := 323) (L := 60) rfl hc) ?_
                    refine zPs (pc1 := 255) (l1 := [(0, .ref 292), (1, .int (i32 c)), (2, .int (i32 m))]) (st1 := [.ref 292]) 1 rfl rfl rfl ?_
                    refine zGetR (r := 324) rfl rfl ⟨by decide, rfl, by decide, rfl⟩ ?_
                    refine zPs (pc1 := 260) (l1 := [(0, .ref 292), (1, .int (i32 c)), (2, .int (i32 m))]) (st1 := [.int (0 : Int32), .int (i32 c), .ref 324]) 2 rfl rfl rfl ?_
                    refine zIas (n := c) rfl (icM (k := 324) (L := 60) rfl hc) ?_
                    refine zPs (pc1 := 263) (l1 := [(0, .ref 292), (1, .int (i32 c)), (2, .int (i32 m))]) (st1 := [.int (-2 : Int32)]) 1 rfl rfl rfl ?_
                    refine zRi rfl rfl ?_
                    first | (simpa [sActs, hdp, *] using k) | (simpa [sActs, hdp, ← Int32.not_lt, *] using k) | (simpa [sActs, hdp, ← Int32.not_le, *] using k)
                  · refine zPs (pc1 := 227) (l1 := [(0, .ref 292), (1, .int (i32 c)), (2, .int (i32 m))]) (st1 := [.int (0 : Int32), .int (i32 c), .ref 292]) 3 rfl rfl rfl ?_
                    refine zCv (mj := 132) (k := 292) (n := 2) rfl rfl rfl rfl (by decide) rfl rfl rfl rfl rfl rfl ?_
                    refine c_132 hc ?_
                    refine kV ?_
                    refine zPs (pc1 := 232) (l1 := [(0, .ref 292), (1, .int (i32 c)), (2, .int (i32 m))]) (st1 := [.int (-2 : Int32)]) 1 rfl rfl rfl ?_
                    refine zRi rfl rfl ?_
                    first | (simpa [sActs, hdp, *] using k) | (simpa [sActs, hdp, ← Int32.not_lt, *] using k) | (simpa [sActs, hdp, ← Int32.not_le, *] using k)
                · refine zSw0 ?_
                  refine zPs (pc1 := 265) (l1 := [(0, .ref 292), (1, .int (i32 c)), (2, .int (i32 m))]) (st1 := [.int (-1 : Int32)]) 1 rfl rfl rfl ?_
                  refine zRi rfl rfl ?_
                  first | (simpa [sActs, hdp, *] using k) | (simpa [sActs, hdp, ← Int32.not_lt, *] using k) | (simpa [sActs, hdp, ← Int32.not_le, *] using k)
theorem c_138 {z : Sg} {P : MO → Sg → Prop} {n : Nat} (hl : n ≤ 60) (hn : z 292 19 = i32 n) {t : Nat} (htl : t ≤ 20000) (ht : z 292 0 = i32 t) {c m : Nat} (hc : c < 60) (hm : m < 30) (hnd : z 313 c = i32 m) {d : Nat} (hd4 : d ≤ 4) (hd : z 318 c = i32 d) (k : P (.inl (some (.int (sActIn z n t c m).2))) (sActIn z n t c m).1) : Es true 138 [.ref 292, .int (i32 c), .int (i32 m)] z P := by
  have hdp := dpt_of hd hd4
  refine Es.of ?_
  refine zPs (pc1 := 1) (l1 := [(0, .ref 292), (1, .int (i32 c)), (2, .int (i32 m))]) (st1 := [.ref 292]) 1 rfl rfl rfl ?_
  refine zGetR (r := 296) rfl rfl ⟨by decide, rfl, by decide, rfl⟩ ?_
  refine zPs (pc1 := 5) (l1 := [(0, .ref 292), (1, .int (i32 c)), (2, .int (i32 m))]) (st1 := [.int (i32 m), .ref 296]) 1 rfl rfl rfl ?_
  refine zIal (n := m) (v := z 296 m) rfl (icM (k := 296) (L := 30) rfl hm) rfl ?_
  refine zPs (pc1 := 8) (l1 := [(0, .ref 292), (1, .int (i32 c)), (2, .int (i32 m))]) (st1 := [.int (6 : Int32), .int (z 296 m)]) 1 rfl rfl rfl ?_
  refine zCn rfl (fun h1 => ?_) (fun h1 => ?_)
  · refine zPs (pc1 := 27) (l1 := [(0, .ref 292), (1, .int (i32 c)), (2, .int (i32 m))]) (st1 := [.int (i32 m), .int (i32 c), .ref 292]) 3 rfl rfl rfl ?_
    refine zCv (mj := 136) (k := 292) (n := 2) rfl rfl rfl rfl (by decide) rfl rfl rfl rfl rfl rfl ?_
    refine c_136 hl hn htl ht hc hm hnd hd4 hd (fun h => absurd h h1) ?_
    refine kI ?_
    refine zRi rfl rfl ?_
    simpa [sActIn, hdp, *] using k
  · refine zPs (pc1 := 12) (l1 := [(0, .ref 292), (1, .int (i32 c)), (2, .int (i32 m))]) (st1 := [.ref 292]) 1 rfl rfl rfl ?_
    refine zGetR (r := 318) rfl rfl ⟨by decide, rfl, by decide, rfl⟩ ?_
    refine zPs (pc1 := 16) (l1 := [(0, .ref 292), (1, .int (i32 c)), (2, .int (i32 m))]) (st1 := [.int (i32 c), .ref 318]) 1 rfl rfl rfl ?_
    refine zIal (n := c) (v := i32 d) rfl (icM (k := 318) (L := 60) rfl hc) hd ?_
    refine nIn (a := d) (by omega) rfl (fun h2 => ?_) (fun h2 => ?_)
    · refine zPs (pc1 := 27) (l1 := [(0, .ref 292), (1, .int (i32 c)), (2, .int (i32 m))]) (st1 := [.int (i32 m), .int (i32 c), .ref 292]) 3 rfl rfl rfl ?_
      refine zCv (mj := 136) (k := 292) (n := 2) rfl rfl rfl rfl (by decide) rfl rfl rfl rfl rfl rfl ?_
      refine c_136 hl hn htl ht hc hm hnd hd4 hd (fun _ => Nat.pos_of_ne_zero h2) ?_
      refine kI ?_
      refine zRi rfl rfl ?_
      simpa [sActIn, hdp, *] using k
    · refine zPs (pc1 := 30) (l1 := [(0, .ref 292), (1, .int (i32 c)), (2, .int (i32 m))]) (st1 := [.int (-1 : Int32)]) 2 rfl rfl rfl ?_
      refine zRi rfl rfl ?_
      simpa [sActIn, hdp, *] using k
def MI (z : Sg) : Prop := (∀ m, m < 30 → z 301 m ≤ 29 ∧ z 302 m ≤ 29) ∧ (∀ i, i < 300 → z 308 i ≤ 29) ∧ (∀ i, i < 240 → z 319 i ≤ 29) ∧ (∀ c, c < 60 → ∃ d, d ≤ 4 ∧ z 318 c = i32 d)
def frF (F : Nat) : Bool := !(F == 301) && (!(F == 302) && (!(F == 308) && (!(F == 319) && !(F == 318))))
theorem MI_up {z : Sg} {F i : Nat} {v : Int32} (h : MI z) (hF : frF F = true) : MI (up2 z F i v) := by
  unfold frF at hF
  simp only [Bool.and_eq_true, Bool.not_eq_true', beq_eq_false_iff_ne, ne_eq] at hF
  obtain ⟨f1, f2, f3, f4, f5⟩ := hF
  have e : ∀ G j, G ≠ F → up2 z F i v G j = z G j := fun G j hG => by unfold up2; rw [if_neg (fun q => hG q.1)]
  obtain ⟨h1, h2, h3, h4⟩ := h
  refine ⟨fun m hm => ?_, fun j hj => ?_, fun j hj => ?_, fun c hc => ?_⟩
  · rw [e _ _ (fun q => f1 q.symm), e _ _ (fun q => f2 q.symm)]; exact h1 m hm
  · rw [e _ _ (fun q => f3 q.symm)]; exact h2 j hj
  · rw [e _ _ (fun q => f4 q.symm)]; exact h3 j hj
  · rw [e _ _ (fun q => f5 q.symm)]; exact h4 c hc
theorem MI_pile {z : Sg} {i : Nat} {v : Int32} (h : MI z) (hv : v ≤ 29) : MI (up2 z 319 i v) := by
  obtain ⟨h1, h2, h3, h4⟩ := h
  refine ⟨fun m hm => by simpa [up2] using h1 m hm, fun j hj => by simpa [up2] using h2 j hj, fun j hj => ?_, fun c hc => by simpa [up2] using h4 c hc⟩
  unfold up2
  split
  · exact hv
  · exact h3 j hj
theorem MI_dep {z : Sg} {c d : Nat} (h : MI z) (hd : d ≤ 4) : MI (up2 z 318 c (i32 d)) := by
  obtain ⟨h1, h2, h3, h4⟩ := h
  refine ⟨fun m hm => by simpa [up2] using h1 m hm, fun j hj => by simpa [up2] using h2 j hj, fun j hj => by simpa [up2] using h3 j hj, fun c2 hc => ?_⟩
  unfold up2
  split
  · exact ⟨d, hd, rfl⟩
  · exact h4 c2 hc
theorem MI_ends {z : Sg} {c : Nat} {how : Int32} (h : MI z) : MI (sEnds z c how) := MI_up (MI_up (MI_up (MI_up h rfl) rfl) rfl) rfl
theorem MI_d {z : Sg} {c : Nat} (h : MI z) (hc : c < 60) : dpt z c ≤ 4 ∧ z 318 c = i32 (dpt z c) := by
  obtain ⟨d, h1, h2⟩ := h.2.2.2 c hc
  rw [dpt_of h2 h1]
  exact ⟨h1, h2⟩
theorem le_m2 : (-2 : Int32) ≤ 29 := by decide
theorem le_m1 : (-1 : Int32) ≤ 29 := by decide
theorem sActs_MI {z : Sg} {n t c m : Nat} (h : MI z) (hc : c < 60) (hm : m < 30) : MI (sActs z n t c m).1 ∧ (sActs z n t c m).2 ≤ 29 ∧ ∀ j, (sActs z n t c m).1 292 j = z 292 j := by
  obtain ⟨hd, hd2⟩ := MI_d h hc
  have ht := h.1 m hm
  have hp := h.2.2.1 (4 * c + (dpt z c - 1)) (by omega)
  unfold sActs
  split
  · exact ⟨MI_up h rfl, le_m2, fun j => by simp [up2]⟩
  split
  · exact ⟨MI_up (MI_up (MI_up h rfl) rfl) rfl, le_m2, fun j => by simp [sListen, up2]⟩
  split
  · refine ⟨h, ?_, fun j => rfl⟩
    show (if soM z n t c m then z 301 m else z 302 m) ≤ 29
    split
    · exact ht.1
    · exact ht.2
  split
  · split
    · exact ⟨MI_ends h, le_m2, fun j => by simp [sEnds, up2]⟩
    · exact ⟨MI_dep (MI_pile h ht.2) (by omega), ht.1, fun j => by simp [up2]⟩
  split
  · exact ⟨MI_dep h (by omega), hp, fun j => by simp [up2]⟩
  split
  · unfold sLines
    split
    · exact ⟨MI_up (MI_up (MI_up h rfl) rfl) rfl, ht.1, fun j => by simp [sLine1, up2]⟩
    · exact ⟨MI_up (MI_up (MI_up (MI_up (MI_up h rfl) rfl) rfl) rfl) rfl, le_m2, fun j => by simp [sLine1, up2]⟩
  split
  · split
    · exact ⟨MI_ends h, le_m2, fun j => by simp [sEnds, up2]⟩
    · exact ⟨MI_up (MI_up (MI_up (MI_up h rfl) rfl) rfl) rfl, le_m2, fun j => by simp [up2]⟩
  · exact ⟨h, le_m1, fun j => rfl⟩
theorem sActIn_MI {z : Sg} {n t c m : Nat} (h : MI z) (hc : c < 60) (hm : m < 30) : MI (sActIn z n t c m).1 ∧ (sActIn z n t c m).2 ≤ 29 ∧ ∀ j, (sActIn z n t c m).1 292 j = z 292 j := by
  unfold sActIn
  split
  · exact ⟨h, le_m1, fun j => rfl⟩
  · exact sActs_MI h hc hm
def sCome (z : Sg) (c : Nat) (bf : Option Nat) (a : Nat) : Sg := up2 (up2 (match bf with | some b => up2 z 309 (31 * b + a) (z 309 (31 * b + a) + 1) | none => z) 311 c 0) 313 c (i32 a)
def sOut (z : Sg) (c : Nat) (bf : Option Nat) (at_ : Int32) : Sg := if at_ = -1 then (match bf with | some b => sEnds (up2 z 309 (31 * b + 30) (z 309 (31 * b + 30) + 1)) c 0 | none => z) else z
noncomputable def goL (n t c : Nat) : Nat → Sg → Option Nat → Int32 → Sg
  | 0, z, bf, a => if a < 0 then sOut z c bf a else sEnds z c 2
  | r + 1, z, bf, a => if a < 0 then sOut z c bf a else
      goL n t c r (sActIn (sCome z c bf a.toNatClampNeg) n t c a.toNatClampNeg).1 (some a.toNatClampNeg) (sActIn (sCome z c bf a.toNatClampNeg) n t c a.toNatClampNeg).2
theorem sCome_MI {z : Sg} {c a : Nat} {bf : Option Nat} (h : MI z) : MI (sCome z c bf a) := by
  unfold sCome
  cases bf
  · exact MI_up (MI_up h rfl) rfl
  · exact MI_up (MI_up (MI_up h rfl) rfl) rfl
theorem sCome_292 {z : Sg} {c a : Nat} {bf : Option Nat} (j : Nat) : sCome z c bf a 292 j = z 292 j := by
  unfold sCome
  cases bf <;> simp [up2]
theorem l_137o {z : Sg} {P : MO → Sg → Prop} {rc rs : Nat} {c : Nat} {bf : Option Nat} {a fr fs : Int32} {cnt : Nat} (hc : c < 60) (hb : ∀ b, bf = some b → b < 30) (ha : a = -1 → bf ≠ none) (k : P (.inl none) (sOut z c bf a)) : Ws true 137 rc rs 84 [(5, .int a), (4, .int (oI 0 bf)), (6, .int (i32 cnt)), (0, .ref 292), (1, .int (i32 c)), (2, .int fr), (3, .int fs)] [] z P := by
  cases bf with
  | none =>
    have ha2 : ¬ a = -1 := fun h => ha h rfl
    refine zMl (ml' := [(5, .int a), (4, .int (-1 : Int32)), (6, .int (i32 cnt)), (0, .ref 292), (1, .int (i32 c)), (2, .int fr), (3, .int fs)]) ⟨rfl, rfl, rfl, rfl, rfl, rfl, rfl, trivial⟩ rfl rfl ?_
    refine zPs (pc1 := 87) (l1 := [(5, .int a), (4, .int (-1 : Int32)), (6, .int (i32 cnt)), (0, .ref 292), (1, .int (i32 c)), (2, .int fr), (3, .int fs)]) (st1 := [.int (-1 : Int32), .int a]) 2 rfl rfl rfl ?_
    refine zCn rfl (fun h1 => ?_) (fun h1 => absurd h1 ha2)
    refine zRv rfl rfl ?_
    simpa [sOut, ha2] using k
  | some b =>
    have hbl := hb b rfl
    refine zMl (ml' := [(5, .int a), (4, .int (i32 b)), (6, .int (i32 cnt)), (0, .ref 292), (1, .int (i32 c)), (2, .int fr), (3, .int fs)]) ⟨rfl, (by show some (Value.int (i32 (0 + b))) = _; rw [Nat.zero_add]), rfl, rfl, rfl, rfl, rfl, trivial⟩ rfl rfl ?_
    refine zPs (pc1 := 87) (l1 := [(5, .int a), (4, .int (i32 b)), (6, .int (i32 cnt)), (0, .ref 292), (1, .int (i32 c)), (2, .int fr), (3, .int fs)]) (st1 := [.int (-1 : Int32), .int a]) 2 rfl rfl rfl ?_
    refine zCn rfl (fun h1 => ?_) (fun h1 => ?_)
    · refine zRv rfl rfl ?_
      simpa [sOut, *] using k
    · refine zPs (pc1 := 91) (l1 := [(5, .int a), (4, .int (i32 b)), (6, .int (i32 cnt)), (0, .ref 292), (1, .int (i32 c)), (2, .int fr), (3, .int fs)]) (st1 := [.ref 292]) 1 rfl rfl rfl ?_
      refine zGetR (r := 309) rfl rfl ⟨by decide, rfl, by decide, rfl⟩ ?_
      refine zPs (pc1 := 99) (l1 := [(5, .int a), (4, .int (i32 b)), (6, .int (i32 cnt)), (0, .ref 292), (1, .int (i32 c)), (2, .int fr), (3, .int fs)]) (st1 := [.int ((31 : Int32) * i32 b), .ref 309]) 3 rfl rfl rfl ?_
      refine zTo (ml' := [(5, .int a), (4, .int (i32 b)), (6, .int (i32 cnt)), (0, .ref 292), (1, .int (i32 c)), (2, .int fr), (3, .int fs)]) (st' := [.int (i32 (31 * b)), .ref 309]) rfl (by rw [show ((31 : Int32) * i32 b) = i32 (31 * b) from i32_mul 31 b]) ?_
      refine zPs (pc1 := 102) (l1 := [(5, .int a), (4, .int (i32 b)), (6, .int (i32 cnt)), (0, .ref 292), (1, .int (i32 c)), (2, .int fr), (3, .int fs)]) (st1 := [.int (i32 (31 * b) + (30 : Int32)), .ref 309]) 2 rfl rfl rfl ?_
      refine zTo (ml' := [(5, .int a), (4, .int (i32 b)), (6, .int (i32 cnt)), (0, .ref 292), (1, .int (i32 c)), (2, .int fr), (3, .int fs)]) (st' := [.int (i32 (31 * b + 30)), .ref 309]) rfl (by rw [show (i32 (31 * b) + (30 : Int32)) = i32 (31 * b + 30) from i32_add (31 * b) 30]) ?_
      refine zPs (pc1 := 103) (l1 := [(5, .int a), (4, .int (i32 b)), (6, .int (i32 cnt)), (0, .ref 292), (1, .int (i32 c)), (2, .int fr), (3, .int fs)]) (st1 := [.int (i32 (31 * b + 30)), .ref 309, .int (i32 (31 * b + 30)), .ref 309]) 1 rfl rfl rfl ?_
      refine zIal (n := 31 * b + 30) (v := z 309 (31 * b + 30)) rfl (icM (k := 309) (L := 930) rfl (by omega)) rfl ?_
      refine zPs (pc1 := 106) (l1 := [(5, .int a), (4, .int (i32 b)), (6, .int (i32 cnt)), (0, .ref 292), (1, .int (i32 c)), (2, .int fr), (3, .int fs)]) (st1 := [.int (z 309 (31 * b + 30) + (1 : Int32)), .int (i32 (31 * b + 30)), .ref 309]) 2 rfl rfl rfl ?_
      refine zIas (n := 31 * b + 30) rfl (icM (k := 309) (L := 930) rfl (by omega)) ?_
      refine zPs (pc1 := 110) (l1 := [(5, .int a), (4, .int (i32 b)), (6, .int (i32 cnt)), (0, .ref 292), (1, .int (i32 c)), (2, .int fr), (3, .int fs)]) (st1 := [.int (0 : Int32), .int (i32 c), .ref 292]) 3 rfl rfl rfl ?_
      refine zCv (mj := 132) (k := 292) (n := 2) rfl rfl rfl rfl (by decide) rfl rfl rfl rfl rfl rfl ?_
      refine c_132 hc ?_
      refine kV ?_
      refine zRv rfl rfl ?_
      simpa [sOut, *] using k
theorem l_137 {P : MO → Sg → Prop} {rc rs : Nat} {n t c : Nat} {fr fs : Int32} (hl : n ≤ 60) (htl : t ≤ 20000) (hc : c < 60) : ∀ (r cnt : Nat) (z : Sg) (bf : Option Nat) (a : Int32), cnt + r = 20 → MI z → z 292 19 = i32 n → z 292 0 = i32 t → (∀ b, bf = some b → b < 30) → (a = -1 → bf ≠ none) → a ≤ 29 → P (.inl none) (goL n t c r z bf a) → Ws true 137 rc rs 9 [(5, .int a), (4, .int (oI 0 bf)), (6, .int (i32 cnt)), (0, .ref 292), (1, .int (i32 c)), (2, .int fr), (3, .int fs)] [] z P := by
  intro r
  induction r with
  | zero =>
    intro cnt z bf a hr hI hn ht hb ha h29 k
    by_cases hlt : a < 0
    · have k2 : P (.inl none) (sOut z c bf a) := by simpa [goL, hlt] using k
      refine zPs (pc1 := 11) (l1 := [(5, .int a), (4, .int (oI 0 bf)), (6, .int (i32 cnt)), (0, .ref 292), (1, .int (i32 c)), (2, .int fr), (3, .int fs)]) (st1 := [.int a]) 1 rfl rfl rfl ?_
      refine zIflt rfl (fun h1 => ?_) (fun h1 => absurd hlt h1)
      exact l_137o hc hb ha k2
    · have k2 : P (.inl none) (sEnds z c 2) := by simpa [goL, hlt] using k
      have hcnt : cnt = 20 := by omega
      refine zPs (pc1 := 11) (l1 := [(5, .int a), (4, .int (oI 0 bf)), (6, .int (i32 cnt)), (0, .ref 292), (1, .int (i32 c)), (2, .int fr), (3, .int fs)]) (st1 := [.int a]) 1 rfl rfl rfl ?_
      refine zIflt rfl (fun h1 => absurd h1 hlt) (fun h1 => ?_)
      refine zPs (pc1 := 18) (l1 := [(5, .int a), (4, .int (oI 0 bf)), (6, .int (i32 cnt)), (0, .ref 292), (1, .int (i32 c)), (2, .int fr), (3, .int fs)]) (st1 := [.int (20 : Int32), .int (i32 cnt)]) 2 rfl rfl rfl ?_
      refine nCn (a := cnt) (b := 20) (by omega) (by omega) rfl (fun h2 => absurd hcnt h2) (fun h2 => ?_)
      refine zPs (pc1 := 24) (l1 := [(5, .int a), (4, .int (oI 0 bf)), (6, .int (i32 cnt)), (0, .ref 292), (1, .int (i32 c)), (2, .int fr), (3, .int fs)]) (st1 := [.int (2 : Int32), .int (i32 c), .ref 292]) 3 rfl rfl rfl ?_
      refine zCv (mj := 132) (k := 292) (n := 2) rfl rfl rfl rfl (by decide) rfl rfl rfl rfl rfl rfl ?_
      refine c_132 hc ?_
      refine kV ?_
      refine zRv rfl rfl ?_
      exact k2
  | succ r ih =>
    intro cnt z bf a hr hI hn ht hb ha h29 k
    by_cases hlt : a < 0
    · have k2 : P (.inl none) (sOut z c bf a) := by simpa [goL, hlt] using k
      refine zPs (pc1 := 11) (l1 := [(5, .int a), (4, .int (oI 0 bf)), (6, .int (i32 cnt)), (0, .ref 292), (1, .int (i32 c)), (2, .int fr), (3, .int fs)]) (st1 := [.int a]) 1 rfl rfl rfl ?_
      refine zIflt rfl (fun h1 => ?_) (fun h1 => absurd hlt h1)
      exact l_137o hc hb ha k2
    · have k2 : P (.inl none) (goL n t c r (sActIn (sCome z c bf a.toNatClampNeg) n t c a.toNatClampNeg).1 (some a.toNatClampNeg) (sActIn (sCome z c bf a.toNatClampNeg) n t c a.toNatClampNeg).2) := by simpa [goL, hlt] using k
      obtain ⟨m, hm, rfl⟩ := i32_of (n := 29) (by decide) (le_of_not_lt32 hlt) h29
      have hm : m < 30 := by omega
      rw [i32_cl (by omega)] at k2
      have hcnt : ¬ cnt = 20 := by omega
      obtain ⟨d, hd4, hd⟩ := hI.2.2.2 c hc
      have hI2 := sActIn_MI (n := n) (t := t) (c := c) (m := m) (sCome_MI (c := c) (a := m) (bf := bf) hI) hc hm
      cases bf with
      | none =>
        refine zMl (ml' := [(5, .int (i32 m)), (4, .int (-1 : Int32)), (6, .int (i32 cnt)), (0, .ref 292), (1, .int (i32 c)), (2, .int fr), (3, .int fs)]) ⟨rfl, rfl, rfl, rfl, rfl, rfl, rfl, trivial⟩ rfl rfl ?_
        refine zPs (pc1 := 11) (l1 := [(5, .int (i32 m)), (4, .int (-1 : Int32)), (6, .int (i32 cnt)), (0, .ref 292), (1, .int (i32 c)), (2, .int fr), (3, .int fs)]) (st1 := [.int (i32 m)]) 1 rfl rfl rfl ?_
        refine nIlt (a := m) (by omega) rfl ?_
        refine zPs (pc1 := 18) (l1 := [(5, .int (i32 m)), (4, .int (-1 : Int32)), (6, .int (i32 cnt)), (0, .ref 292), (1, .int (i32 c)), (2, .int fr), (3, .int fs)]) (st1 := [.int (20 : Int32), .int (i32 cnt)]) 2 rfl rfl rfl ?_
        refine nCn (a := cnt) (b := 20) (by omega) (by omega) rfl (fun h2 => ?_) (fun h2 => absurd h2 hcnt)
        refine zPs (pc1 := 31) (l1 := [(6, .int (i32 cnt + (1 : Int32))), (5, .int (i32 m)), (4, .int (-1 : Int32)), (0, .ref 292), (1, .int (i32 c)), (2, .int fr), (3, .int fs)]) (st1 := []) 1 rfl rfl rfl ?_
        refine zTo (ml' := [(6, .int (i32 (cnt + 1))), (5, .int (i32 m)), (4, .int (-1 : Int32)), (0, .ref 292), (1, .int (i32 c)), (2, .int fr), (3, .int fs)]) (st' := []) (by rw [show (i32 cnt + (1 : Int32)) = i32 (cnt + 1) from i32_add cnt 1]) rfl ?_
        refine zPs (pc1 := 54) (l1 := [(6, .int (i32 (cnt + 1))), (5, .int (i32 m)), (4, .int (-1 : Int32)), (0, .ref 292), (1, .int (i32 c)), (2, .int fr), (3, .int fs)]) (st1 := [.ref 292]) 3 rfl rfl rfl ?_
        refine zGetR (r := 311) rfl rfl ⟨by decide, rfl, by decide, rfl⟩ ?_
        refine zPs (pc1 := 59) (l1 := [(6, .int (i32 (cnt + 1))), (5, .int (i32 m)), (4, .int (-1 : Int32)), (0, .ref 292), (1, .int (i32 c)), (2, .int fr), (3, .int fs)]) (st1 := [.int (0 : Int32), .int (i32 c), .ref 311]) 2 rfl rfl rfl ?_
        refine zIas (n := c) rfl (icM (k := 311) (L := 60) rfl hc) ?_
        refine zPs (pc1 := 61) (l1 := [(6, .int (i32 (cnt + 1))), (5, .int (i32 m)), (4, .int (-1 : Int32)), (0, .ref 292), (1, .int (i32 c)), (2, .int fr), (3, .int fs)]) (st1 := [.ref 292]) 1 rfl rfl rfl ?_
        refine zGetR (r := 313) rfl rfl ⟨by decide, rfl, by decide, rfl⟩ ?_
        refine zPs (pc1 := 67) (l1 := [(6, .int (i32 (cnt + 1))), (5, .int (i32 m)), (4, .int (-1 : Int32)), (0, .ref 292), (1, .int (i32 c)), (2, .int fr), (3, .int fs)]) (st1 := [.int (i32 m), .int (i32 c), .ref 313]) 2 rfl rfl rfl ?_
        refine zIas (n := c) rfl (icM (k := 313) (L := 60) rfl hc) ?_
        refine zPs (pc1 := 76) (l1 := [(4, .int (i32 m)), (6, .int (i32 (cnt + 1))), (5, .int (i32 m)), (0, .ref 292), (1, .int (i32 c)), (2, .int fr), (3, .int fs)]) (st1 := [.int (i32 m), .int (i32 c), .ref 292]) 5 rfl rfl rfl ?_
        refine zCv (mj := 138) (k := 292) (n := 2) rfl rfl rfl rfl (by decide) rfl rfl rfl rfl rfl rfl ?_
        refine c_138 hl (by simp [up2, hn]) htl (by simp [up2, ht]) hc hm (by simp [up2]) hd4 (by simp [up2, hd]) ?_
        refine kI ?_
        refine zPs (pc1 := 9) (l1 := [(5, .int ((sActIn (up2 (up2 z 311 c (0 : Int32)) 313 c (i32 m)) n t c m).2)), (4, .int (i32 m)), (6, .int (i32 (cnt + 1))), (0, .ref 292), (1, .int (i32 c)), (2, .int fr), (3, .int fs)]) (st1 := []) 2 rfl rfl rfl ?_
        refine zMl (ml' := [(5, .int ((sActIn (sCome z c none m) n t c m).2)), (4, .int (oI 0 (some m))), (6, .int (i32 (cnt + 1))), (0, .ref 292), (1, .int (i32 c)), (2, .int fr), (3, .int fs)]) ⟨rfl, (by show _ = some (Value.int (i32 (0 + m))); rw [Nat.zero_add]; rfl), rfl, rfl, rfl, rfl, rfl, trivial⟩ rfl rfl ?_
        exact ih (cnt + 1) _ (some m) _ (by omega) hI2.1 ((hI2.2.2 19).trans ((sCome_292 19).trans hn)) ((hI2.2.2 0).trans ((sCome_292 0).trans ht)) (fun b q => by cases q; exact hm) (fun _ q => by cases q) hI2.2.1 k2
      | some b =>
        have hbl := hb b rfl
        refine zMl (ml' := [(5, .int (i32 m)), (4, .int (i32 b)), (6, .int (i32 cnt)), (0, .ref 292), (1, .int (i32 c)), (2, .int fr), (3, .int fs)]) ⟨rfl, (by show some (Value.int (i32 (0 + b))) = _; rw [Nat.zero_add]), rfl, rfl, rfl, rfl, rfl, trivial⟩ rfl rfl ?_
        refine zPs (pc1 := 11) (l1 := [(5, .int (i32 m)), (4, .int (i32 b)), (6, .int (i32 cnt)), (0, .ref 292), (1, .int (i32 c)), (2, .int fr), (3, .int fs)]) (st1 := [.int (i32 m)]) 1 rfl rfl rfl ?_
        refine nIlt (a := m) (by omega) rfl ?_
        refine zPs (pc1 := 18) (l1 := [(5, .int (i32 m)), (4, .int (i32 b)), (6, .int (i32 cnt)), (0, .ref 292), (1, .int (i32 c)), (2, .int fr), (3, .int fs)]) (st1 := [.int (20 : Int32), .int (i32 cnt)]) 2 rfl rfl rfl ?_
        refine nCn (a := cnt) (b := 20) (by omega) (by omega) rfl (fun h2 => ?_) (fun h2 => absurd h2 hcnt)
        refine zPs (pc1 := 31) (l1 := [(6, .int (i32 cnt + (1 : Int32))), (5, .int (i32 m)), (4, .int (i32 b)), (0, .ref 292), (1, .int (i32 c)), (2, .int fr), (3, .int fs)]) (st1 := []) 1 rfl rfl rfl ?_
        refine zTo (ml' := [(6, .int (i32 (cnt + 1))), (5, .int (i32 m)), (4, .int (i32 b)), (0, .ref 292), (1, .int (i32 c)), (2, .int fr), (3, .int fs)]) (st' := []) (by rw [show (i32 cnt + (1 : Int32)) = i32 (cnt + 1) from i32_add cnt 1]) rfl ?_
        refine zPs (pc1 := 33) (l1 := [(6, .int (i32 (cnt + 1))), (5, .int (i32 m)), (4, .int (i32 b)), (0, .ref 292), (1, .int (i32 c)), (2, .int fr), (3, .int fs)]) (st1 := [.int (i32 b)]) 1 rfl rfl rfl ?_
        refine nIlt (a := b) (by omega) rfl ?_
        refine zPs (pc1 := 37) (l1 := [(6, .int (i32 (cnt + 1))), (5, .int (i32 m)), (4, .int (i32 b)), (0, .ref 292), (1, .int (i32 c)), (2, .int fr), (3, .int fs)]) (st1 := [.ref 292]) 1 rfl rfl rfl ?_
        refine zGetR (r := 309) rfl rfl ⟨by decide, rfl, by decide, rfl⟩ ?_
        refine zPs (pc1 := 45) (l1 := [(6, .int (i32 (cnt + 1))), (5, .int (i32 m)), (4, .int (i32 b)), (0, .ref 292), (1, .int (i32 c)), (2, .int fr), (3, .int fs)]) (st1 := [.int ((31 : Int32) * i32 b), .ref 309]) 3 rfl rfl rfl ?_
        refine zTo (ml' := [(6, .int (i32 (cnt + 1))), (5, .int (i32 m)), (4, .int (i32 b)), (0, .ref 292), (1, .int (i32 c)), (2, .int fr), (3, .int fs)]) (st' := [.int (i32 (31 * b)), .ref 309]) rfl (by rw [show ((31 : Int32) * i32 b) = i32 (31 * b) from i32_mul 31 b]) ?_
        refine zPs (pc1 := 48) (l1 := [(6, .int (i32 (cnt + 1))), (5, .int (i32 m)), (4, .int (i32 b)), (0, .ref 292), (1, .int (i32 c)), (2, .int fr), (3, .int fs)]) (st1 := [.int (i32 (31 * b) + i32 m), .ref 309]) 2 rfl rfl rfl ?_
        refine zTo (ml' := [(6, .int (i32 (cnt + 1))), (5, .int (i32 m)), (4, .int (i32 b)), (0, .ref 292), (1, .int (i32 c)), (2, .int fr), (3, .int fs)]) (st' := [.int (i32 (31 * b + m)), .ref 309]) rfl (by rw [show (i32 (31 * b) + i32 m) = i32 (31 * b + m) from i32_add (31 * b) m]) ?_
        refine zPs (pc1 := 49) (l1 := [(6, .int (i32 (cnt + 1))), (5, .int (i32 m)), (4, .int (i32 b)), (0, .ref 292), (1, .int (i32 c)), (2, .int fr), (3, .int fs)]) (st1 := [.int (i32 (31 * b + m)), .ref 309, .int (i32 (31 * b + m)), .ref 309]) 1 rfl rfl rfl ?_
        refine zIal (n := 31 * b + m) (v := z 309 (31 * b + m)) rfl (icM (k := 309) (L := 930) rfl (by omega)) rfl ?_
        refine zPs (pc1 := 52) (l1 := [(6, .int (i32 (cnt + 1))), (5, .int (i32 m)), (4, .int (i32 b)), (0, .ref 292), (1, .int (i32 c)), (2, .int fr), (3, .int fs)]) (st1 := [.int (z 309 (31 * b + m) + (1 : Int32)), .int (i32 (31 * b + m)), .ref 309]) 2 rfl rfl rfl ?_
        refine zIas (n := 31 * b + m) rfl (icM (k := 309) (L := 930) rfl (by omega)) ?_
        refine zPs (pc1 := 54) (l1 := [(6, .int (i32 (cnt + 1))), (5, .int (i32 m)), (4, .int (i32 b)), (0, .ref 292), (1, .int (i32 c)), (2, .int fr), (3, .int fs)]) (st1 := [.ref 292]) 1 rfl rfl rfl ?_
        refine zGetR (r := 311) rfl rfl ⟨by decide, rfl, by decide, rfl⟩ ?_
        refine zPs (pc1 := 59) (l1 := [(6, .int (i32 (cnt + 1))), (5, .int (i32 m)), (4, .int (i32 b)), (0, .ref 292), (1, .int (i32 c)), (2, .int fr), (3, .int fs)]) (st1 := [.int (0 : Int32), .int (i32 c), .ref 311]) 2 rfl rfl rfl ?_
        refine zIas (n := c) rfl (icM (k := 311) (L := 60) rfl hc) ?_
        refine zPs (pc1 := 61) (l1 := [(6, .int (i32 (cnt + 1))), (5, .int (i32 m)), (4, .int (i32 b)), (0, .ref 292), (1, .int (i32 c)), (2, .int fr), (3, .int fs)]) (st1 := [.ref 292]) 1 rfl rfl rfl ?_
        refine zGetR (r := 313) rfl rfl ⟨by decide, rfl, by decide, rfl⟩ ?_
        refine zPs (pc1 := 67) (l1 := [(6, .int (i32 (cnt + 1))), (5, .int (i32 m)), (4, .int (i32 b)), (0, .ref 292), (1, .int (i32 c)), (2, .int fr), (3, .int fs)]) (st1 := [.int (i32 m), .int (i32 c), .ref 313]) 2 rfl rfl rfl ?_
        refine zIas (n := c) rfl (icM (k := 313) (L := 60) rfl hc) ?_
        refine zPs (pc1 := 76) (l1 := [(4, .int (i32 m)), (6, .int (i32 (cnt + 1))), (5, .int (i32 m)), (0, .ref 292), (1, .int (i32 c)), (2, .int fr), (3, .int fs)]) (st1 := [.int (i32 m), .int (i32 c), .ref 292]) 5 rfl rfl rfl ?_
        refine zCv (mj := 138) (k := 292) (n := 2) rfl rfl rfl rfl (by decide) rfl rfl rfl rfl rfl rfl ?_
        refine c_138 hl (by simp [up2, hn]) htl (by simp [up2, ht]) hc hm (by simp [up2]) hd4 (by simp [up2, hd]) ?_
        refine kI ?_
        refine zPs (pc1 := 9) (l1 := [(5, .int ((sActIn (up2 (up2 (up2 z 309 (31 * b + m) (z 309 (31 * b + m) + (1 : Int32))) 311 c (0 : Int32)) 313 c (i32 m)) n t c m).2)), (4, .int (i32 m)), (6, .int (i32 (cnt + 1))), (0, .ref 292), (1, .int (i32 c)), (2, .int fr), (3, .int fs)]) (st1 := []) 2 rfl rfl rfl ?_
        refine zMl (ml' := [(5, .int ((sActIn (sCome z c (some b) m) n t c m).2)), (4, .int (oI 0 (some m))), (6, .int (i32 (cnt + 1))), (0, .ref 292), (1, .int (i32 c)), (2, .int fr), (3, .int fs)]) ⟨rfl, (by show _ = some (Value.int (i32 (0 + m))); rw [Nat.zero_add]; rfl), rfl, rfl, rfl, rfl, rfl, trivial⟩ rfl rfl ?_
        exact ih (cnt + 1) _ (some m) _ (by omega) hI2.1 ((hI2.2.2 19).trans ((sCome_292 19).trans hn)) ((hI2.2.2 0).trans ((sCome_292 0).trans ht)) (fun b q => by cases q; exact hm) (fun _ q => by cases q) hI2.2.1 k2
noncomputable def sGoes (z : Sg) (n t c : Nat) (bf : Option Nat) (a : Int32) : Sg := goL n t c 20 z bf a
theorem c_137 {z : Sg} {P : MO → Sg → Prop} {n t c : Nat} (hl : n ≤ 60) (htl : t ≤ 20000) (hc : c < 60) (bf : Option Nat) {fr a : Int32} (hI : MI z) (hn : z 292 19 = i32 n) (ht : z 292 0 = i32 t) (hf : fr = oI 0 bf) (hb : ∀ b, bf = some b → b < 30) (ha : a = -1 → bf ≠ none) (h29 : a ≤ 29) (k : P (.inl none) (sGoes z n t c bf a)) : Es true 137 [.ref 292, .int (i32 c), .int fr, .int a] z P := by
  subst hf
  refine Es.of ?_
  refine zPs (pc1 := 9) (l1 := [(6, .int (0 : Int32)), (5, .int a), (4, .int (oI 0 bf)), (0, .ref 292), (1, .int (i32 c)), (2, .int (oI 0 bf)), (3, .int a)]) (st1 := []) 6 rfl rfl rfl ?_
  refine zMl (ml' := [(5, .int a), (4, .int (oI 0 bf)), (6, .int (i32 0)), (0, .ref 292), (1, .int (i32 c)), (2, .int (oI 0 bf)), (3, .int a)]) ⟨rfl, rfl, rfl, rfl, rfl, rfl, rfl, trivial⟩ rfl rfl ?_
  exact l_137 hl htl hc 20 0 z bf a rfl hI hn ht hb ha h29 k
