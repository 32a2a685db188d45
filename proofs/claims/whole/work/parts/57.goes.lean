/-! ===== the model: on and on ===== -/
def dpt (z : Sg) (c : Nat) : Nat := (z 318 c).toNatClampNeg
theorem dpt_of {z : Sg} {c d : Nat} (h : z 318 c = i32 d) (hd : d ≤ 4) : dpt z c = d := by
  unfold dpt
  rw [h, i32_cl (by omega)]
noncomputable def sActs (z : Sg) (n t c m : Nat) : Sg × Int32 :=
  if z 296 m = 1 then (up2 z 316 c (z 292 0 + z 297 m), -2)
  else if z 296 m = 2 ∨ z 296 m = 3 then (sListen (up2 z 315 c 0) c m, -2)
  else if z 296 m = 4 then (z, if soM z n t c m then z 301 m else z 302 m)
  else if z 296 m = 5 then (if dpt z c = 4 then (sEnds z c 3, -2) else (up2 (up2 z 319 (4 * c + dpt z c) (z 302 m)) 318 c (i32 (dpt z c + 1)), z 301 m))
  else if z 296 m = 6 then (up2 z 318 c (i32 (dpt z c - 1)), z 319 (4 * c + (dpt z c - 1)))
  else if z 296 m = 7 then sLines z n c m
  else if z 296 m = 8 then (if z 320 c < 0 then (sEnds z c 0, -2) else (up2 (up2 (up2 (up2 z 311 c 3) 313 c (-1)) 323 c 0) 324 c 0, -2))
  else (z, -1)
noncomputable def sActIn (z : Sg) (n t c m : Nat) : Sg × Int32 := if z 296 m = 6 ∧ dpt z c = 0 then (z, -1) else sActs z n t c m
theorem c_136 {z : Sg} {P : MO → Sg → Prop} {n : Nat} (hl : n ≤ 60) (hn : z 292 19 = i32 n) {t : Nat} (htl : t ≤ 20000) (ht : z 292 0 = i32 t) {c m : Nat} (hc : c < 60) (hm : m < 30) (hnd : z 313 c = i32 m) {d : Nat} (hd4 : d ≤ 4) (hd : z 318 c = i32 d) (h6 : z 296 m = 6 → 0 < d) (k : P (.inl (some (.int (sActs z n t c m).2))) (sActs z n t c m).1) : Es true 136 [.ref 292, .int (i32 c), .int (i32 m)] z P := by
  have hdp := dpt_of hd hd4
  refine Es.of ?_
  refine zPs (pc1 := 1) (l1 := [(0, .ref 292), (1, .int (i32 c)), (2, .int (i32 m))]) (st1 := [.ref 292]) 1 rfl rfl rfl ?_
  refine zGetR (r := 296) rfl rfl ⟨by decide, rfl, by decide, rfl⟩ ?_
  refine zPs (pc1 := 5) (l1 := [(0, .ref 292), (1, .int (i32 c)), (2, .int (i32 m))]) (st1 := [.int (i32 m), .ref 296]) 1 rfl rfl rfl ?_
  refine zIal (n := m) (v := z 296 m) rfl (icM (k := 296) (L := 30) rfl hm) rfl ?_
  refine zSw rfl rfl ?_
  refine zSwS (fun h1 => ?_) (fun h1 => ?_)
  · refine zPs (pc1 := 53) (l1 := [(0, .ref 292), (1, .int (i32 c)), (2, .int (i32 m))]) (st1 := [.ref 292]) 1 rfl rfl rfl ?_
    refine zGetR (r := 316) rfl rfl ⟨by decide, rfl, by decide, rfl⟩ ?_
    refine zPs (pc1 := 58) (l1 := [(0, .ref 292), (1, .int (i32 c)), (2, .int (i32 m))]) (st1 := [.ref 292, .int (i32 c), .ref 316]) 2 rfl rfl rfl ?_
    refine zGetI (v := i32 t) rfl rfl icTime ht ?_
    refine zPs (pc1 := 62) (l1 := [(0, .ref 292), (1, .int (i32 c)), (2, .int (i32 m))]) (st1 := [.ref 292, .int (i32 t), .int (i32 c), .ref 316]) 1 rfl rfl rfl ?_
    refine zGetR (r := 297) rfl rfl ⟨by decide, rfl, by decide, rfl⟩ ?_
    refine zPs (pc1 := 66) (l1 := [(0, .ref 292), (1, .int (i32 c)), (2, .int (i32 m))]) (st1 := [.int (i32 m), .ref 297, .int (i32 t), .int (i32 c), .ref 316]) 1 rfl rfl rfl ?_
    refine zIal (n := m) (v := z 297 m) rfl (icM (k := 297) (L := 30) rfl hm) rfl ?_
    refine zPs (pc1 := 68) (l1 := [(0, .ref 292), (1, .int (i32 c)), (2, .int (i32 m))]) (st1 := [.int (i32 t + z 297 m), .int (i32 c), .ref 316]) 1 rfl rfl rfl ?_
    refine zIas (n := c) rfl (icM (k := 316) (L := 60) rfl hc) ?_
    refine zPs (pc1 := 71) (l1 := [(0, .ref 292), (1, .int (i32 c)), (2, .int (i32 m))]) (st1 := [.int (-2 : Int32)]) 1 rfl rfl rfl ?_
    refine zRi rfl rfl ?_
    first | (simpa [sActs, hdp, *] using k) | (simpa [sActs, hdp, ← Int32.not_lt, *] using k) | (simpa [sActs, hdp, ← Int32.not_le, *] using k)
  · refine zSwS (fun h2 => ?_) (fun h2 => ?_)
    · refine zPs (pc1 := 73) (l1 := [(0, .ref 292), (1, .int (i32 c)), (2, .int (i32 m))]) (st1 := [.ref 292]) 1 rfl rfl rfl ?_
      refine zGetR (r := 315) rfl rfl ⟨by decide, rfl, by decide, rfl⟩ ?_
      refine zPs (pc1 := 78) (l1 := [(0, .ref 292), (1, .int (i32 c)), (2, .int (i32 m))]) (st1 := [.int (0 : Int32), .int (i32 c), .ref 315]) 2 rfl rfl rfl ?_
      refine zIas (n := c) rfl (icM (k := 315) (L := 60) rfl hc) ?_
      refine zPs (pc1 := 81) (l1 := [(0, .ref 292), (1, .int (i32 c)), (2, .int (i32 m))]) (st1 := [.int (i32 c), .ref 292]) 2 rfl rfl rfl ?_
      refine zCv (mj := 134) (k := 292) (n := 1) rfl rfl rfl rfl (by decide) rfl rfl rfl rfl rfl rfl ?_
      refine c_134 hc hm (by simp [up2, hnd]) ?_
      refine kV ?_
      refine zPs (pc1 := 86) (l1 := [(0, .ref 292), (1, .int (i32 c)), (2, .int (i32 m))]) (st1 := [.int (-2 : Int32)]) 1 rfl rfl rfl ?_
      refine zRi rfl rfl ?_
      first | (simpa [sActs, hdp, *] using k) | (simpa [sActs, hdp, ← Int32.not_lt, *] using k) | (simpa [sActs, hdp, ← Int32.not_le, *] using k)
    · refine zSwS (fun h3 => ?_) (fun h3 => ?_)
      · refine zPs (pc1 := 73) (l1 := [(0, .ref 292), (1, .int (i32 c)), (2, .int (i32 m))]) (st1 := [.ref 292]) 1 rfl rfl rfl ?_
        refine zGetR (r := 315) rfl rfl ⟨by decide, rfl, by decide, rfl⟩ ?_
        refine zPs (pc1 := 78) (l1 := [(0, .ref 292), (1, .int (i32 c)), (2, .int (i32 m))]) (st1 := [.int (0 : Int32), .int (i32 c), .ref 315]) 2 rfl rfl rfl ?_
        refine zIas (n := c) rfl (icM (k := 315) (L := 60) rfl hc) ?_
        refine zPs (pc1 := 81) (l1 := [(0, .ref 292), (1, .int (i32 c)), (2, .int (i32 m))]) (st1 := [.int (i32 c), .ref 292]) 2 rfl rfl rfl ?_
        refine zCv (mj := 134) (k := 292) (n := 1) rfl rfl rfl rfl (by decide) rfl rfl rfl rfl rfl rfl ?_
        refine c_134 hc hm (by simp [up2, hnd]) ?_
        refine kV ?_
        refine zPs (pc1 := 86) (l1 := [(0, .ref 292), (1, .int (i32 c)), (2, .int (i32 m))]) (st1 := [.int (-2 : Int32)]) 1 rfl rfl rfl ?_
        refine zRi rfl rfl ?_
        first | (simpa [sActs, hdp, *] using k) | (simpa [sActs, hdp, ← Int32.not_lt, *] using k) | (simpa [sActs, hdp, ← Int32.not_le, *] using k)
      · refine zSwS (fun h4 => ?_) (fun h4 => ?_)
        · refine zPs (pc1 := 90) (l1 := [(0, .ref 292), (1, .int (i32 c)), (2, .int (i32 m))]) (st1 := [.int (i32 m), .int (i32 c), .ref 292]) 3 rfl rfl rfl ?_
          refine zCv (mj := 133) (k := 292) (n := 2) rfl rfl rfl rfl (by decide) rfl rfl rfl rfl rfl rfl ?_
          refine c_133 hl hn htl ht hc hm (fun h5 => ?_) (fun h6 => ?_)
          · refine kI ?_
            refine zPs (pc1 := 97) (l1 := [(0, .ref 292), (1, .int (i32 c)), (2, .int (i32 m))]) (st1 := [.ref 292]) 2 rfl rfl rfl ?_
            refine zGetR (r := 301) rfl rfl ⟨by decide, rfl, by decide, rfl⟩ ?_
            refine zPs (pc1 := 101) (l1 := [(0, .ref 292), (1, .int (i32 c)), (2, .int (i32 m))]) (st1 := [.int (i32 m), .ref 301]) 1 rfl rfl rfl ?_
            refine zIal (n := m) (v := z 301 m) rfl (icM (k := 301) (L := 30) rfl hm) rfl ?_
            refine zPs (pc1 := 111) (l1 := [(0, .ref 292), (1, .int (i32 c)), (2, .int (i32 m))]) (st1 := [.int (z 301 m)]) 1 rfl rfl rfl ?_
            refine zRi rfl rfl ?_
            first | (simpa [sActs, hdp, *] using k) | (simpa [sActs, hdp, ← Int32.not_lt, *] using k) | (simpa [sActs, hdp, ← Int32.not_le, *] using k)
          · refine kI ?_
            refine zPs (pc1 := 106) (l1 := [(0, .ref 292), (1, .int (i32 c)), (2, .int (i32 m))]) (st1 := [.ref 292]) 2 rfl rfl rfl ?_
            refine zGetR (r := 302) rfl rfl ⟨by decide, rfl, by decide, rfl⟩ ?_
            refine zPs (pc1 := 110) (l1 := [(0, .ref 292), (1, .int (i32 c)), (2, .int (i32 m))]) (st1 := [.int (i32 m), .ref 302]) 1 rfl rfl rfl ?_
            refine zIal (n := m) (v := z 302 m) rfl (icM (k := 302) (L := 30) rfl hm) rfl ?_
            refine zRi rfl rfl ?_
            first | (simpa [sActs, hdp, *] using k) | (simpa [sActs, hdp, ← Int32.not_lt, *] using k) | (simpa [sActs, hdp, ← Int32.not_le, *] using k)
        · refine zSwS (fun h7 => ?_) (fun h7 => ?_)
          · refine zPs (pc1 := 113) (l1 := [(0, .ref 292), (1, .int (i32 c)), (2, .int (i32 m))]) (st1 := [.ref 292]) 1 rfl rfl rfl ?_
            refine zGetR (r := 318) rfl rfl ⟨by decide, rfl, by decide, rfl⟩ ?_
            refine zPs (pc1 := 117) (l1 := [(0, .ref 292), (1, .int (i32 c)), (2, .int (i32 m))]) (st1 := [.int (i32 c), .ref 318]) 1 rfl rfl rfl ?_
            refine zIal (n := c) (v := i32 d) rfl (icM (k := 318) (L := 60) rfl hc) hd ?_
            refine zPs (pc1 := 119) (l1 := [(0, .ref 292), (1, .int (i32 c)), (2, .int (i32 m))]) (st1 := [.int (4 : Int32), .int (i32 d)]) 1 rfl rfl rfl ?_
            refine nCn (a := d) (b := 4) (by omega) (by omega) rfl (fun h8 => ?_) (fun h8 => ?_)
            · refine zPs (pc1 := 132) (l1 := [(0, .ref 292), (1, .int (i32 c)), (2, .int (i32 m))]) (st1 := [.ref 292]) 1 rfl rfl rfl ?_
              refine zGetR (r := 319) rfl rfl ⟨by decide, rfl, by decide, rfl⟩ ?_
              refine zPs (pc1 := 138) (l1 := [(0, .ref 292), (1, .int (i32 c)), (2, .int (i32 m))]) (st1 := [.int ((4 : Int32) * i32 c), .ref 319]) 3 rfl rfl rfl ?_
              refine zTo (ml' := [(0, .ref 292), (1, .int (i32 c)), (2, .int (i32 m))]) (st' := [.int (i32 (4 * c)), .ref 319]) rfl (by rw [show ((4 : Int32) * i32 c) = i32 (4 * c) from i32_mul 4 c]) ?_
              refine zPs (pc1 := 139) (l1 := [(0, .ref 292), (1, .int (i32 c)), (2, .int (i32 m))]) (st1 := [.ref 292, .int (i32 (4 * c)), .ref 319]) 1 rfl rfl rfl ?_
              refine zGetR (r := 318) rfl rfl ⟨by decide, rfl, by decide, rfl⟩ ?_
              refine zPs (pc1 := 143) (l1 := [(0, .ref 292), (1, .int (i32 c)), (2, .int (i32 m))]) (st1 := [.int (i32 c), .ref 318, .int (i32 (4 * c)), .ref 319]) 1 rfl rfl rfl ?_
              refine zIal (n := c) (v := i32 d) rfl (icM (k := 318) (L := 60) rfl hc) hd ?_
              refine zPs (pc1 := 145) (l1 := [(0, .ref 292), (1, .int (i32 c)), (2, .int (i32 m))]) (st1 := [.int (i32 (4 * c) + i32 d), .ref 319]) 1 rfl rfl rfl ?_
              refine zTo (ml' := [(0, .ref 292), (1, .int (i32 c)), (2, .int (i32 m))]) (st' := [.int (i32 (4 * c + d)), .ref 319]) rfl (by rw [show (i32 (4 * c) + i32 d) = i32 (4 * c + d) from i32_add (4 * c) d]) ?_
              refine zPs (pc1 := 146) (l1 := [(0, .ref 292), (1, .int (i32 c)), (2, .int (i32 m))]) (st1 := [.ref 292, .int (i32 (4 * c + d)), .ref 319]) 1 rfl rfl rfl ?_
              refine zGetR (r := 302) rfl rfl ⟨by decide, rfl, by decide, rfl⟩ ?_
              refine zPs (pc1 := 150) (l1 := [(0, .ref 292), (1, .int (i32 c)), (2, .int (i32 m))]) (st1 := [.int (i32 m), .ref 302, .int (i32 (4 * c + d)), .ref 319]) 1 rfl rfl rfl ?_
              refine zIal (n := m) (v := z 302 m) rfl (icM (k := 302) (L := 30) rfl hm) rfl ?_
              refine zIas (n := 4 * c + d) rfl (icM (k := 319) (L := 240) rfl (by omega)) ?_
              refine zPs (pc1 := 153) (l1 := [(0, .ref 292), (1, .int (i32 c)), (2, .int (i32 m))]) (st1 := [.ref 292]) 1 rfl rfl rfl ?_
              refine zGetR (r := 318) rfl rfl ⟨by decide, rfl, by decide, rfl⟩ ?_
              refine zPs (pc1 := 158) (l1 := [(0, .ref 292), (1, .int (i32 c)), (2, .int (i32 m))]) (st1 := [.int (i32 c), .ref 318, .int (i32 c), .ref 318]) 2 rfl rfl rfl ?_
              refine zIal (n := c) (v := i32 d) rfl (icM (k := 318) (L := 60) rfl hc) (by simp [up2, hd]) ?_
              refine zPs (pc1 := 161) (l1 := [(0, .ref 292), (1, .int (i32 c)), (2, .int (i32 m))]) (st1 := [.int (i32 d + (1 : Int32)), .int (i32 c), .ref 318]) 2 rfl rfl rfl ?_
              refine zTo (ml' := [(0, .ref 292), (1, .int (i32 c)), (2, .int (i32 m))]) (st' := [.int (i32 (d + 1)), .int (i32 c), .ref 318]) rfl (by rw [show (i32 d + (1 : Int32)) = i32 (d + 1) from i32_add d 1]) ?_
              refine zIas (n := c) rfl (icM (k := 318) (L := 60) rfl hc) ?_
              refine zPs (pc1 := 163) (l1 := [(0, .ref 292), (1, .int (i32 c)), (2, .int (i32 m))]) (st1 := [.ref 292]) 1 rfl rfl rfl ?_
              refine zGetR (r := 301) rfl rfl ⟨by decide, rfl, by decide, rfl⟩ ?_
              refine zPs (pc1 := 167) (l1 := [(0, .ref 292), (1, .int (i32 c)), (2, .int (i32 m))]) (st1 := [.int (i32 m), .ref 301]) 1 rfl rfl rfl ?_
              refine zIal (n := m) (v := z 301 m) rfl (icM (k := 301) (L := 30) rfl hm) (by simp [up2]) ?_
              refine zRi rfl rfl ?_
              first | (simpa [sActs, hdp, *] using k) | (simpa [sActs, hdp, ← Int32.not_lt, *] using k) | (simpa [sActs, hdp, ← Int32.not_le, *] using k)
            · refine zPs (pc1 := 125) (l1 := [(0, .ref 292), (1, .int (i32 c)), (2, .int (i32 m))]) (st1 := [.int (3 : Int32), .int (i32 c), .ref 292]) 3 rfl rfl rfl ?_
              refine zCv (mj := 132) (k := 292) (n := 2) rfl rfl rfl rfl (by decide) rfl rfl rfl rfl rfl rfl ?_
              refine c_132 hc ?_
              refine kV ?_
              refine zPs (pc1 := 130) (l1 := [(0, .ref 292), (1, .int (i32 c)), (2, .int (i32 m))]) (st1 := [.int (-2 : Int32)]) 1 rfl rfl rfl ?_
              refine zRi rfl rfl ?_
              first | (simpa [sActs, hdp, *] using k) | (simpa [sActs, hdp, ← Int32.not_lt, *] using k) | (simpa [sActs, hdp, ← Int32.not_le, *] using k)
          · refine zSwS (fun h9 => ?_) (fun h9 => ?_)
            · refine zPs (pc1 := 170) (l1 := [(0, .ref 292), (1, .int (i32 c)), (2, .int (i32 m))]) (st1 := [.ref 292]) 1 rfl rfl rfl ?_
              refine zGetR (r := 318) rfl rfl ⟨by decide, rfl, by decide, rfl⟩ ?_
              refine zPs (pc1 := 175) (l1 := [(0, .ref 292), (1, .int (i32 c)), (2, .int (i32 m))]) (st1 := [.int (i32 c), .ref 318, .int (i32 c), .ref 318]) 2 rfl rfl rfl ?_
              refine zIal (n := c) (v := i32 d) rfl (icM (k := 318) (L := 60) rfl hc) hd ?_
              refine zPs (pc1 := 177) (l1 := [(0, .ref 292), (1, .int (i32 c)), (2, .int (i32 m))]) (st1 := [.ref 292, .int (i32 d), .int (i32 c), .ref 318]) 1 rfl rfl rfl ?_
              refine zGetR (r := 318) rfl rfl ⟨by decide, rfl, by decide, rfl⟩ ?_
              refine zPs (pc1 := 181) (l1 := [(0, .ref 292), (1, .int (i32 c)), (2, .int (i32 m))]) (st1 := [.int (i32 c), .ref 318, .int (i32 d), .int (i32 c), .ref 318]) 1 rfl rfl rfl ?_
              refine zIal (n := c) (v := i32 d) rfl (icM (k := 318) (L := 60) rfl hc) hd ?_
              refine nIle (a := d) (by omega) rfl (fun h10 => by have := h6 h9; omega) (fun h10 => ?_)
              refine zPs (pc1 := 191) (l1 := [(0, .ref 292), (1, .int (i32 c)), (2, .int (i32 m))]) (st1 := [.int (i32 d - (1 : Int32)), .int (i32 c), .ref 318]) 3 rfl rfl rfl ?_
              refine zTo (ml' := [(0, .ref 292), (1, .int (i32 c)), (2, .int (i32 m))]) (st' := [.int (i32 (d - 1)), .int (i32 c), .ref 318]) rfl (by rw [show (i32 d - (1 : Int32)) = i32 (d - 1) from i32_sub (a := d) (b := 1) (by omega)]) ?_
              refine zIas (n := c) rfl (icM (k := 318) (L := 60) rfl hc) ?_
              refine zPs (pc1 := 193) (l1 := [(0, .ref 292), (1, .int (i32 c)), (2, .int (i32 m))]) (st1 := [.ref 292]) 1 rfl rfl rfl ?_
              refine zGetR (r := 319) rfl rfl ⟨by decide, rfl, by decide, rfl⟩ ?_
              refine zPs (pc1 := 199) (l1 := [(0, .ref 292), (1, .int (i32 c)), (2, .int (i32 m))]) (st1 := [.int ((4 : Int32) * i32 c), .ref 319]) 3 rfl rfl rfl ?_
              refine zTo (ml' := [(0, .ref 292), (1, .int (i32 c)), (2, .int (i32 m))]) (st' := [.int (i32 (4 * c)), .ref 319]) rfl (by rw [show ((4 : Int32) * i32 c) = i32 (4 * c) from i32_mul 4 c]) ?_
              refine zPs (pc1 := 200) (l1 := [(0, .ref 292), (1, .int (i32 c)), (2, .int (i32 m))]) (st1 := [.ref 292, .int (i32 (4 * c)), .ref 319]) 1 rfl rfl rfl ?_
              refine zGetR (r := 318) rfl rfl ⟨by decide, rfl, by decide, rfl⟩ ?_
              refine zPs (pc1 := 204) (l1 := [(0, .ref 292), (1, .int (i32 c)), (2, .int (i32 m))]) (st1 := [.int (i32 c), .ref 318, .int (i32 (4 * c)), .ref 319]) 1 rfl rfl rfl ?_
              refine zIal (n := c) (v := i32 (d - 1)) rfl (icM (k := 318) (L := 60) rfl hc) (by simp [up2]) ?_
              refine zPs (pc1 := 206) (l1 := [(0, .ref 292), (1, .int (i32 c)), (2, .int (i32 m))]) (st1 := [.int (i32 (4 * c) + i32 (d - 1)), .ref 319]) 1 rfl rfl rfl ?_
              refine zTo (ml' := [(0, .ref 292), (1, .int (i32 c)), (2, .int (i32 m))]) (st' := [.int (i32 (4 * c + (d - 1))), .ref 319]) rfl (by rw [show (i32 (4 * c) + i32 (d - 1)) = i32 (4 * c + (d - 1)) from i32_add (4 * c) (d - 1)]) ?_
              refine zIal (n := 4 * c + (d - 1)) (v := z 319 (4 * c + (d - 1))) rfl (icM (k := 319) (L := 240) rfl (by omega)) (by simp [up2]) ?_
              refine zRi rfl rfl ?_
              first | (simpa [sActs, hdp, *] using k) | (simpa [sActs, hdp, ← Int32.not_lt, *] using k) | (simpa [sActs, hdp, ← Int32.not_le, *] using k)
            · refine zSwS (fun h11 => ?_) (fun h11 => ?_)
              · refine zPs (pc1 := 211) (l1 := [(0, .ref 292), (1, .int (i32 c)), (2, .int (i32 m))]) (st1 := [.int (i32 m), .int (i32 c), .ref 292]) 3 rfl rfl rfl ?_
                refine zCv (mj := 135) (k := 292) (n := 2) rfl rfl rfl rfl (by decide) rfl rfl rfl rfl rfl rfl ?_
                refine c_135 hl hn hc hm ?_
                refine kI ?_
                refine zRi rfl rfl ?_
                first | (simpa [sActs, hdp, *] using k) | (simpa [sActs, hdp, ← Int32.not_lt, *] using k) | (simpa [sActs, hdp, ← Int32.not_le, *] using k)
              · refine zSwS (fun h12 => ?_) (fun h12 => ?_)
                · refine zPs (pc1 := 216) (l1 := [(0, .ref 292), (1, .int (i32 c)), (2, .int (i32 m))]) (st1 := [.ref 292]) 1 rfl rfl rfl ?_
                  refine zGetR (r := 320) rfl rfl ⟨by decide, rfl, by decide, rfl⟩ ?_
                  refine zPs (pc1 := 220) (l1 := [(0, .ref 292), (1, .int (i32 c)), (2, .int (i32 m))]) (st1 := [.int (i32 c), .ref 320]) 1 rfl rfl rfl ?_
                  refine zIal (n := c) (v := z 320 c) rfl (icM (k := 320) (L := 60) rfl hc) rfl ?_
                  refine zIfge rfl (fun h13 => ?_) (fun h13 => ?_)
                  · refine zPs (pc1 := 234) (l1 := [(0, .ref 292), (1, .int (i32 c)), (2, .int (i32 m))]) (st1 := [.ref 292]) 1 rfl rfl rfl ?_
                    refine zGetR (r := 311) rfl rfl ⟨by decide, rfl, by decide, rfl⟩ ?_
                    refine zPs (pc1 := 239) (l1 := [(0, .ref 292), (1, .int (i32 c)), (2, .int (i32 m))]) (st1 := [.int (3 : Int32), .int (i32 c), .ref 311]) 2 rfl rfl rfl ?_
                    refine zIas (n := c) rfl (icM (k := 311) (L := 60) rfl hc) ?_
                    refine zPs (pc1 := 241) (l1 := [(0, .ref 292), (1, .int (i32 c)), (2, .int (i32 m))]) (st1 := [.ref 292]) 1 rfl rfl rfl ?_
                    refine zGetR (r := 313) rfl rfl ⟨by decide, rfl, by decide, rfl⟩ ?_
                    refine zPs (pc1 := 246) (l1 := [(0, .ref 292), (1, .int (i32 c)), (2, .int (i32 m))]) (st1 := [.int (-1 : Int32), .int (i32 c), .ref 313]) 2 rfl rfl rfl ?_
                    refine zIas (n := c) rfl (icM (k := 313) (L := 60) rfl hc) ?_
                    refine zPs (pc1 := 248) (l1 := [(0, .ref 292), (1, .int (i32 c)), (2, .int (i32 m))]) (st1 := [.ref 292]) 1 rfl rfl rfl ?_
                    refine zGetR (r := 323) rfl rfl ⟨by decide, rfl, by decide, rfl⟩ ?_
                    refine zPs (pc1 := 253) (l1 := [(0, .ref 292), (1, .int (i32 c)), (2, .int (i32 m))]) (st1 := [.int (0 : Int32), .int (i32 c), .ref 323]) 2 rfl rfl rfl ?_
                    refine zIas (n := c) rfl (icM (k := 323) (L := 60) rfl hc) ?_
                    refine zPs (pc1 := 255) (l1 := [(0, .ref 292), (1, .int (i32 c)), (2, .int (i32 m))]) (st1 := [.ref 292]) 1 rfl rfl rfl ?_
                    refine zGetR (r := 324) rfl rfl ⟨by decide, rfl, by decide, rfl⟩ ?_
                    refine zPs (pc1 := 260) (l1 := [(0, .ref 292), (1, .int (i32 c)), (2, .int (i32 m))]) (st1 := [.int (0 : Int32), .int (i32 c), .ref 324]) 2 rfl rfl rfl ?_
                    refine zIas (n := c) rfl (icM (k := 324) (L := 60) rfl hc) ?_
                    refine zPs (pc1 := 263) (l1 := [(0, .ref 292), (1, .int (i32 c)), (2, .int (i32 m))]) (st1 := [.int (-2 : Int32)]) 1 rfl rfl rfl ?_
                    refine zRi rfl rfl ?_
                    first | (simpa [sActs, hdp, *] using k) | (simpa [sActs, hdp, ← Int32.not_lt, *] using k) | (simpa [sActs, hdp, ← Int32.not_le, *] using k)
                  · refine zPs (pc1 := 227) (l1 := [(0, .ref 292), (1, .int (i32 c)), (2, .int (i32 m))]) (st1 := [.int (0 : Int32), .int (i32 c), .ref 292]) 3 rfl rfl rfl ?_
                    refine zCv (mj := 132) (k := 292) (n := 2) rfl rfl rfl rfl (by decide) rfl rfl rfl rfl rfl rfl ?_
                    refine c_132 hc ?_
                    refine kV ?_
                    refine zPs (pc1 := 232) (l1 := [(0, .ref 292), (1, .int (i32 c)), (2, .int (i32 m))]) (st1 := [.int (-2 : Int32)]) 1 rfl rfl rfl ?_
                    refine zRi rfl rfl ?_
                    first | (simpa [sActs, hdp, *] using k) | (simpa [sActs, hdp, ← Int32.not_lt, *] using k) | (simpa [sActs, hdp, ← Int32.not_le, *] using k)
                · refine zSw0 ?_
                  refine zPs (pc1 := 265) (l1 := [(0, .ref 292), (1, .int (i32 c)), (2, .int (i32 m))]) (st1 := [.int (-1 : Int32)]) 1 rfl rfl rfl ?_
                  refine zRi rfl rfl ?_
                  first | (simpa [sActs, hdp, *] using k) | (simpa [sActs, hdp, ← Int32.not_lt, *] using k) | (simpa [sActs, hdp, ← Int32.not_le, *] using k)
theorem c_138 {z : Sg} {P : MO → Sg → Prop} {n : Nat} (hl : n ≤ 60) (hn : z 292 19 = i32 n) {t : Nat} (htl : t ≤ 20000) (ht : z 292 0 = i32 t) {c m : Nat} (hc : c < 60) (hm : m < 30) (hnd : z 313 c = i32 m) {d : Nat} (hd4 : d ≤ 4) (hd : z 318 c = i32 d) (k : P (.inl (some (.int (sActIn z n t c m).2))) (sActIn z n t c m).1) : Es true 138 [.ref 292, .int (i32 c), .int (i32 m)] z P := by
  have hdp := dpt_of hd hd4
  refine Es.of ?_
  refine zPs (pc1 := 1) (l1 := [(0, .ref 292), (1, .int (i32 c)), (2, .int (i32 m))]) (st1 := [.ref 292]) 1 rfl rfl rfl ?_
  refine zGetR (r := 296) rfl rfl ⟨by decide, rfl, by decide, rfl⟩ ?_
  refine zPs (pc1 := 5) (l1 := [(0, .ref 292), (1, .int (i32 c)), (2, .int (i32 m))]) (st1 := [.int (i32 m), .ref 296]) 1 rfl rfl rfl ?_
  refine zIal (n := m) (v := z 296 m) rfl (icM (k := 296) (L := 30) rfl hm) rfl ?_
  refine zPs (pc1 := 8) (l1 := [(0, .ref 292), (1, .int (i32 c)), (2, .int (i32 m))]) (st1 := [.int (6 : Int32), .int (z 296 m)]) 1 rfl rfl rfl ?_
  refine zCn rfl (fun h1 => ?_) (fun h1 => ?_)
  · refine zPs (pc1 := 27) (l1 := [(0, .ref 292), (1, .int (i32 c)), (2, .int (i32 m))]) (st1 := [.int (i32 m), .int (i32 c), .ref 292]) 3 rfl rfl rfl ?_
    refine zCv (mj := 136) (k := 292) (n := 2) rfl rfl rfl rfl (by decide) rfl rfl rfl rfl rfl rfl ?_
    refine c_136 hl hn htl ht hc hm hnd hd4 hd (fun h => absurd h h1) ?_
    refine kI ?_
    refine zRi rfl rfl ?_
    simpa [sActIn, hdp, *] using k
  · refine zPs (pc1 := 12) (l1 := [(0, .ref 292), (1, .int (i32 c)), (2, .int (i32 m))]) (st1 := [.ref 292]) 1 rfl rfl rfl ?_
    refine zGetR (r := 318) rfl rfl ⟨by decide, rfl, by decide, rfl⟩ ?_
    refine zPs (pc1 := 16) (l1 := [(0, .ref 292), (1, .int (i32 c)), (2, .int (i32 m))]) (st1 := [.int (i32 c), .ref 318]) 1 rfl rfl rfl ?_
    refine zIal (n := c) (v := i32 d) rfl (icM (k := 318) (L := 60) rfl hc) hd ?_
    refine nIn (a := d) (by omega) rfl (fun h2 => ?_) (fun h2 => ?_)
    · refine zPs (pc1 := 27) (l1 := [(0, .ref 292), (1, .int (i32 c)), (2, .int (i32 m))]) (st1 := [.int (i32 m), .int (i32 c), .ref 292]) 3 rfl rfl rfl ?_
      refine zCv (mj := 136) (k := 292) (n := 2) rfl rfl rfl rfl (by decide) rfl rfl rfl rfl rfl rfl ?_
      refine c_136 hl hn htl ht hc hm hnd hd4 hd (fun _ => Nat.pos_of_ne_zero h2) ?_
      refine kI ?_
      refine zRi rfl rfl ?_
      simpa [sActIn, hdp, *] using k
    · refine zPs (pc1 := 30) (l1 := [(0, .ref 292), (1, .int (i32 c)), (2, .int (i32 m))]) (st1 := [.int (-1 : Int32)]) 2 rfl rfl rfl ?_
      refine zRi rfl rfl ?_
      simpa [sActIn, hdp, *] using k
