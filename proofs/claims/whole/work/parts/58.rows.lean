/-! ===== the model: rows, misses, time ===== -/
noncomputable def sFails (z : Sg) (n t c m : Nat) : Sg := if z 315 c + 1 = z 305 m then sGoes (up2 z 315 c (z 315 c + 1)) n t c (some m) (z 302 m) else sListen (up2 z 315 c (z 315 c + 1)) c m
noncomputable def sDone (z : Sg) (n t c m q dg : Nat) : Sg :=
  match (if z 296 m = 2 then pkey z m (z 314 c) q else none) with
  | some j => sGoes z n t c (some m) (z 308 (10 * m + j))
  | none => if z 296 m = 3 ∧ z 297 m ≤ i32 dg then sGoes (up2 z 317 c (z 314 c - i32 (10 ^ dg))) n t c (some m) (z 301 m) else sFails z n t c m
theorem c_139 {z : Sg} {P : MO → Sg → Prop} {n : Nat} (hl : n ≤ 60) (hn : z 292 19 = i32 n) {t : Nat} (htl : t ≤ 20000) (ht : z 292 0 = i32 t) {c m : Nat} (hc : c < 60) (hm : m < 30) (hnd : z 313 c = i32 m) (hI : MI z) (k : P (.inl none) (sFails z n t c m)) : Es true 139 [.ref 292, .int (i32 c)] z P := by
  refine Es.of ?_
  refine zPs (pc1 := 1) (l1 := [(0, .ref 292), (1, .int (i32 c))]) (st1 := [.ref 292]) 1 rfl rfl rfl ?_
  refine zGetR (r := 313) rfl rfl ⟨by decide, rfl, by decide, rfl⟩ ?_
  refine zPs (pc1 := 5) (l1 := [(0, .ref 292), (1, .int (i32 c))]) (st1 := [.int (i32 c), .ref 313]) 1 rfl rfl rfl ?_
  refine zIal (n := c) (v := i32 m) rfl (icM (k := 313) (L := 60) rfl hc) hnd ?_
  refine zPs (pc1 := 8) (l1 := [(2, .int (i32 m)), (0, .ref 292), (1, .int (i32 c))]) (st1 := [.ref 292]) 2 rfl rfl rfl ?_
  refine zGetR (r := 315) rfl rfl ⟨by decide, rfl, by decide, rfl⟩ ?_
  refine zPs (pc1 := 13) (l1 := [(2, .int (i32 m)), (0, .ref 292), (1, .int (i32 c))]) (st1 := [.int (i32 c), .ref 315, .int (i32 c), .ref 315]) 2 rfl rfl rfl ?_
  refine zIal (n := c) (v := z 315 c) rfl (icM (k := 315) (L := 60) rfl hc) rfl ?_
  refine zPs (pc1 := 16) (l1 := [(2, .int (i32 m)), (0, .ref 292), (1, .int (i32 c))]) (st1 := [.int (z 315 c + (1 : Int32)), .int (i32 c), .ref 315]) 2 rfl rfl rfl ?_
  refine zIas (n := c) rfl (icM (k := 315) (L := 60) rfl hc) ?_
  refine zPs (pc1 := 18) (l1 := [(2, .int (i32 m)), (0, .ref 292), (1, .int (i32 c))]) (st1 := [.ref 292]) 1 rfl rfl rfl ?_
  refine zGetR (r := 315) rfl rfl ⟨by decide, rfl, by decide, rfl⟩ ?_
  refine zPs (pc1 := 22) (l1 := [(2, .int (i32 m)), (0, .ref 292), (1, .int (i32 c))]) (st1 := [.int (i32 c), .ref 315]) 1 rfl rfl rfl ?_
  refine zIal (n := c) (v := (z 315 c + (1 : Int32))) rfl (icM (k := 315) (L := 60) rfl hc) (by simp [up2]) ?_
  refine zPs (pc1 := 24) (l1 := [(2, .int (i32 m)), (0, .ref 292), (1, .int (i32 c))]) (st1 := [.ref 292, .int (z 315 c + (1 : Int32))]) 1 rfl rfl rfl ?_
  refine zGetR (r := 305) rfl rfl ⟨by decide, rfl, by decide, rfl⟩ ?_
  refine zPs (pc1 := 28) (l1 := [(2, .int (i32 m)), (0, .ref 292), (1, .int (i32 c))]) (st1 := [.int (i32 m), .ref 305, .int (z 315 c + (1 : Int32))]) 1 rfl rfl rfl ?_
  refine zIal (n := m) (v := z 305 m) rfl (icM (k := 305) (L := 30) rfl hm) (by simp [up2]) ?_
  refine zCn rfl (fun h1 => ?_) (fun h1 => ?_)
  · refine zPs (pc1 := 49) (l1 := [(2, .int (i32 m)), (0, .ref 292), (1, .int (i32 c))]) (st1 := [.int (i32 c), .ref 292]) 2 rfl rfl rfl ?_
    refine zCv (mj := 134) (k := 292) (n := 1) rfl rfl rfl rfl (by decide) rfl rfl rfl rfl rfl rfl ?_
    refine c_134 hc hm (by simp [up2, hnd]) ?_
    refine kV ?_
    refine zRv rfl rfl ?_
    simpa [sFails, *] using k
  · refine zPs (pc1 := 36) (l1 := [(2, .int (i32 m)), (0, .ref 292), (1, .int (i32 c))]) (st1 := [.ref 292, .int (i32 m), .int (i32 c), .ref 292]) 4 rfl rfl rfl ?_
    refine zGetR (r := 302) rfl rfl ⟨by decide, rfl, by decide, rfl⟩ ?_
    refine zPs (pc1 := 40) (l1 := [(2, .int (i32 m)), (0, .ref 292), (1, .int (i32 c))]) (st1 := [.int (i32 m), .ref 302, .int (i32 m), .int (i32 c), .ref 292]) 1 rfl rfl rfl ?_
    refine zIal (n := m) (v := z 302 m) rfl (icM (k := 302) (L := 30) rfl hm) (by simp [up2]) ?_
    refine zCv (mj := 137) (k := 292) (n := 3) rfl rfl rfl rfl (by decide) rfl rfl rfl rfl rfl rfl ?_
    refine c_137 hl htl hc (some m) (MI_up hI rfl) (by simp [up2, hn]) (by simp [up2, ht]) (by show _ = i32 (0 + m); rw [Nat.zero_add]) (fun b q => by cases q; exact hm) (fun _ q => by cases q) (hI.1 m hm).2 ?_
    refine kV ?_
    refine zPs (pc1 := 52) (l1 := [(2, .int (i32 m)), (0, .ref 292), (1, .int (i32 c))]) (st1 := []) 1 rfl rfl rfl ?_
    refine zRv rfl rfl ?_
    simpa [sFails, *] using k
theorem c_142a {z : Sg} {P : MO → Sg → Prop} {n : Nat} (hl : n ≤ 60) (hn : z 292 19 = i32 n) {t : Nat} (htl : t ≤ 20000) (ht : z 292 0 = i32 t) {c m : Nat} (hc : c < 60) (hm : m < 30) (hnd : z 313 c = i32 m) (hI : MI z) {q : Nat} (hq10 : q ≤ 10) (hq : z 306 m = i32 q) {dg : Nat} (hk : ¬ z 296 m = 3) (k : P (.inl none) (sDone z n t c m q dg)) : Es true 142 [.ref 292, .int (i32 c)] z P := by
  refine Es.of ?_
  refine zPs (pc1 := 1) (l1 := [(0, .ref 292), (1, .int (i32 c))]) (st1 := [.ref 292]) 1 rfl rfl rfl ?_
  refine zGetR (r := 313) rfl rfl ⟨by decide, rfl, by decide, rfl⟩ ?_
  refine zPs (pc1 := 5) (l1 := [(0, .ref 292), (1, .int (i32 c))]) (st1 := [.int (i32 c), .ref 313]) 1 rfl rfl rfl ?_
  refine zIal (n := c) (v := i32 m) rfl (icM (k := 313) (L := 60) rfl hc) hnd ?_
  refine zPs (pc1 := 8) (l1 := [(2, .int (i32 m)), (0, .ref 292), (1, .int (i32 c))]) (st1 := [.ref 292]) 2 rfl rfl rfl ?_
  refine zGetR (r := 314) rfl rfl ⟨by decide, rfl, by decide, rfl⟩ ?_
  refine zPs (pc1 := 12) (l1 := [(2, .int (i32 m)), (0, .ref 292), (1, .int (i32 c))]) (st1 := [.int (i32 c), .ref 314]) 1 rfl rfl rfl ?_
  refine zIal (n := c) (v := z 314 c) rfl (icM (k := 314) (L := 60) rfl hc) rfl ?_
  refine zPs (pc1 := 15) (l1 := [(3, .int (z 314 c)), (2, .int (i32 m)), (0, .ref 292), (1, .int (i32 c))]) (st1 := [.ref 292]) 2 rfl rfl rfl ?_
  refine zGetR (r := 296) rfl rfl ⟨by decide, rfl, by decide, rfl⟩ ?_
  refine zPs (pc1 := 19) (l1 := [(3, .int (z 314 c)), (2, .int (i32 m)), (0, .ref 292), (1, .int (i32 c))]) (st1 := [.int (i32 m), .ref 296]) 1 rfl rfl rfl ?_
  refine zIal (n := m) (v := z 296 m) rfl (icM (k := 296) (L := 30) rfl hm) rfl ?_
  refine zPs (pc1 := 21) (l1 := [(3, .int (z 314 c)), (2, .int (i32 m)), (0, .ref 292), (1, .int (i32 c))]) (st1 := [.int (2 : Int32), .int (z 296 m)]) 1 rfl rfl rfl ?_
  refine zCn rfl (fun h1 => ?_) (fun h1 => ?_)
  · refine zPs (pc1 := 58) (l1 := [(4, .int (-1 : Int32)), (3, .int (z 314 c)), (2, .int (i32 m)), (0, .ref 292), (1, .int (i32 c))]) (st1 := [.ref 292]) 5 rfl rfl rfl ?_
    refine zGetR (r := 296) rfl rfl ⟨by decide, rfl, by decide, rfl⟩ ?_
    refine zPs (pc1 := 62) (l1 := [(4, .int (-1 : Int32)), (3, .int (z 314 c)), (2, .int (i32 m)), (0, .ref 292), (1, .int (i32 c))]) (st1 := [.int (i32 m), .ref 296]) 1 rfl rfl rfl ?_
    refine zIal (n := m) (v := z 296 m) rfl (icM (k := 296) (L := 30) rfl hm) rfl ?_
    refine zPs (pc1 := 64) (l1 := [(4, .int (-1 : Int32)), (3, .int (z 314 c)), (2, .int (i32 m)), (0, .ref 292), (1, .int (i32 c))]) (st1 := [.int (3 : Int32), .int (z 296 m)]) 1 rfl rfl rfl ?_
    refine zCn rfl (fun h2 => ?_) (fun h2 => absurd h2 hk)
    refine zPs (pc1 := 112) (l1 := [(4, .int (-1 : Int32)), (3, .int (z 314 c)), (2, .int (i32 m)), (0, .ref 292), (1, .int (i32 c))]) (st1 := [.int (i32 c), .ref 292]) 2 rfl rfl rfl ?_
    refine zCv (mj := 139) (k := 292) (n := 1) rfl rfl rfl rfl (by decide) rfl rfl rfl rfl rfl rfl ?_
    refine c_139 hl hn htl ht hc hm hnd hI ?_
    refine kV ?_
    refine zRv rfl rfl ?_
    simpa [sDone, *] using k
  · refine zPs (pc1 := 27) (l1 := [(3, .int (z 314 c)), (2, .int (i32 m)), (0, .ref 292), (1, .int (i32 c))]) (st1 := [.int (z 314 c), .int (i32 m), .ref 292]) 3 rfl rfl rfl ?_
    refine zCv (mj := 114) (k := 292) (n := 2) rfl rfl rfl rfl (by decide) rfl rfl rfl rfl rfl rfl ?_
    refine c_114 hm hq10 hq (fun h3 h4 h5 => ?_) (fun h6 => ?_)
    · refine kI ?_
      refine zPs (pc1 := 38) (l1 := [(4, .int (i32 (10 * m + h3))), (3, .int (z 314 c)), (2, .int (i32 m)), (0, .ref 292), (1, .int (i32 c))]) (st1 := [.int (i32 (10 * m + h3))]) 3 rfl rfl rfl ?_
      refine nIlt (a := 10 * m + h3) (by omega) rfl ?_
      refine zPs (pc1 := 45) (l1 := [(4, .int (i32 (10 * m + h3))), (3, .int (z 314 c)), (2, .int (i32 m)), (0, .ref 292), (1, .int (i32 c))]) (st1 := [.ref 292, .int (i32 m), .int (i32 c), .ref 292]) 4 rfl rfl rfl ?_
      refine zGetR (r := 308) rfl rfl ⟨by decide, rfl, by decide, rfl⟩ ?_
      refine zPs (pc1 := 50) (l1 := [(4, .int (i32 (10 * m + h3))), (3, .int (z 314 c)), (2, .int (i32 m)), (0, .ref 292), (1, .int (i32 c))]) (st1 := [.int (i32 (10 * m + h3)), .ref 308, .int (i32 m), .int (i32 c), .ref 292]) 1 rfl rfl rfl ?_
      refine zIal (n := 10 * m + h3) (v := z 308 (10 * m + h3)) rfl (icM (k := 308) (L := 300) rfl (by omega)) rfl ?_
      refine zCv (mj := 137) (k := 292) (n := 3) rfl rfl rfl rfl (by decide) rfl rfl rfl rfl rfl rfl ?_
      refine c_137 hl htl hc (some m) hI hn ht (by show _ = i32 (0 + m); rw [Nat.zero_add]) (fun b q => by cases q; exact hm) (fun _ q => by cases q) (hI.2.1 _ (by omega)) ?_
      refine kV ?_
      refine zPs (pc1 := 115) (l1 := [(4, .int (i32 (10 * m + h3))), (3, .int (z 314 c)), (2, .int (i32 m)), (0, .ref 292), (1, .int (i32 c))]) (st1 := []) 1 rfl rfl rfl ?_
      refine zRv rfl rfl ?_
      simpa [sDone, *] using k
    · refine kI ?_
      refine zPs (pc1 := 58) (l1 := [(4, .int (-1 : Int32)), (3, .int (z 314 c)), (2, .int (i32 m)), (0, .ref 292), (1, .int (i32 c))]) (st1 := [.ref 292]) 5 rfl rfl rfl ?_
      refine zGetR (r := 296) rfl rfl ⟨by decide, rfl, by decide, rfl⟩ ?_
      refine zPs (pc1 := 62) (l1 := [(4, .int (-1 : Int32)), (3, .int (z 314 c)), (2, .int (i32 m)), (0, .ref 292), (1, .int (i32 c))]) (st1 := [.int (i32 m), .ref 296]) 1 rfl rfl rfl ?_
      refine zIal (n := m) (v := z 296 m) rfl (icM (k := 296) (L := 30) rfl hm) rfl ?_
      refine zPs (pc1 := 64) (l1 := [(4, .int (-1 : Int32)), (3, .int (z 314 c)), (2, .int (i32 m)), (0, .ref 292), (1, .int (i32 c))]) (st1 := [.int (3 : Int32), .int (z 296 m)]) 1 rfl rfl rfl ?_
      refine zCn rfl (fun h8 => ?_) (fun h8 => absurd h8 hk)
      refine zPs (pc1 := 112) (l1 := [(4, .int (-1 : Int32)), (3, .int (z 314 c)), (2, .int (i32 m)), (0, .ref 292), (1, .int (i32 c))]) (st1 := [.int (i32 c), .ref 292]) 2 rfl rfl rfl ?_
      refine zCv (mj := 139) (k := 292) (n := 1) rfl rfl rfl rfl (by decide) rfl rfl rfl rfl rfl rfl ?_
      refine c_139 hl hn htl ht hc hm hnd hI ?_
      refine kV ?_
      refine zRv rfl rfl ?_
      simpa [sDone, *] using k
theorem c_142b {z : Sg} {P : MO → Sg → Prop} {n : Nat} (hl : n ≤ 60) (hn : z 292 19 = i32 n) {t : Nat} (htl : t ≤ 20000) (ht : z 292 0 = i32 t) {c m : Nat} (hc : c < 60) (hm : m < 30) (hnd : z 313 c = i32 m) (hI : MI z) {q : Nat} (hq10 : q ≤ 10) (hq : z 306 m = i32 q) {r dg : Nat} (hk : z 296 m = 3) (hrow : z 314 c = i32 r) (hr1 : 10 ^ dg ≤ r) (hr2 : r < 10 ^ (dg + 1)) (hdg : dg ≤ 7) (k : P (.inl none) (sDone z n t c m q dg)) : Es true 142 [.ref 292, .int (i32 c)] z P := by
  have hk2 : ¬ z 296 m = 2 := by rw [hk]; decide
  refine Es.of ?_
  refine zPs (pc1 := 1) (l1 := [(0, .ref 292), (1, .int (i32 c))]) (st1 := [.ref 292]) 1 rfl rfl rfl ?_
  refine zGetR (r := 313) rfl rfl ⟨by decide, rfl, by decide, rfl⟩ ?_
  refine zPs (pc1 := 5) (l1 := [(0, .ref 292), (1, .int (i32 c))]) (st1 := [.int (i32 c), .ref 313]) 1 rfl rfl rfl ?_
  refine zIal (n := c) (v := i32 m) rfl (icM (k := 313) (L := 60) rfl hc) hnd ?_
  refine zPs (pc1 := 8) (l1 := [(2, .int (i32 m)), (0, .ref 292), (1, .int (i32 c))]) (st1 := [.ref 292]) 2 rfl rfl rfl ?_
  refine zGetR (r := 314) rfl rfl ⟨by decide, rfl, by decide, rfl⟩ ?_
  refine zPs (pc1 := 12) (l1 := [(2, .int (i32 m)), (0, .ref 292), (1, .int (i32 c))]) (st1 := [.int (i32 c), .ref 314]) 1 rfl rfl rfl ?_
  refine zIal (n := c) (v := i32 r) rfl (icM (k := 314) (L := 60) rfl hc) hrow ?_
  refine zPs (pc1 := 15) (l1 := [(3, .int (i32 r)), (2, .int (i32 m)), (0, .ref 292), (1, .int (i32 c))]) (st1 := [.ref 292]) 2 rfl rfl rfl ?_
  refine zGetR (r := 296) rfl rfl ⟨by decide, rfl, by decide, rfl⟩ ?_
  refine zPs (pc1 := 19) (l1 := [(3, .int (i32 r)), (2, .int (i32 m)), (0, .ref 292), (1, .int (i32 c))]) (st1 := [.int (i32 m), .ref 296]) 1 rfl rfl rfl ?_
  refine zIal (n := m) (v := z 296 m) rfl (icM (k := 296) (L := 30) rfl hm) rfl ?_
  refine zPs (pc1 := 21) (l1 := [(3, .int (i32 r)), (2, .int (i32 m)), (0, .ref 292), (1, .int (i32 c))]) (st1 := [.int (2 : Int32), .int (z 296 m)]) 1 rfl rfl rfl ?_
  refine zCn rfl (fun h1 => ?_) (fun h1 => absurd h1 hk2)
  refine zPs (pc1 := 58) (l1 := [(4, .int (-1 : Int32)), (3, .int (i32 r)), (2, .int (i32 m)), (0, .ref 292), (1, .int (i32 c))]) (st1 := [.ref 292]) 5 rfl rfl rfl ?_
  refine zGetR (r := 296) rfl rfl ⟨by decide, rfl, by decide, rfl⟩ ?_
  refine zPs (pc1 := 62) (l1 := [(4, .int (-1 : Int32)), (3, .int (i32 r)), (2, .int (i32 m)), (0, .ref 292), (1, .int (i32 c))]) (st1 := [.int (i32 m), .ref 296]) 1 rfl rfl rfl ?_
  refine zIal (n := m) (v := z 296 m) rfl (icM (k := 296) (L := 30) rfl hm) rfl ?_
  refine zPs (pc1 := 64) (l1 := [(4, .int (-1 : Int32)), (3, .int (i32 r)), (2, .int (i32 m)), (0, .ref 292), (1, .int (i32 c))]) (st1 := [.int (3 : Int32), .int (z 296 m)]) 1 rfl rfl rfl ?_
  refine zCn rfl (fun h2 => absurd hk h2) (fun h2 => ?_)
  refine zPs (pc1 := 68) (l1 := [(4, .int (-1 : Int32)), (3, .int (i32 r)), (2, .int (i32 m)), (0, .ref 292), (1, .int (i32 c))]) (st1 := [.int (i32 r)]) 1 rfl rfl rfl ?_
  refine zCs (mj := 140) rfl rfl rfl rfl rfl rfl rfl rfl ?_
  refine c_140 hr1 hr2 (by omega) ?_
  refine kI ?_
  refine zPs (pc1 := 72) (l1 := [(4, .int (-1 : Int32)), (3, .int (i32 r)), (2, .int (i32 m)), (0, .ref 292), (1, .int (i32 c))]) (st1 := [.ref 292, .int (i32 dg)]) 1 rfl rfl rfl ?_
  refine zGetR (r := 297) rfl rfl ⟨by decide, rfl, by decide, rfl⟩ ?_
  refine zPs (pc1 := 76) (l1 := [(4, .int (-1 : Int32)), (3, .int (i32 r)), (2, .int (i32 m)), (0, .ref 292), (1, .int (i32 c))]) (st1 := [.int (i32 m), .ref 297, .int (i32 dg)]) 1 rfl rfl rfl ?_
  refine zIal (n := m) (v := z 297 m) rfl (icM (k := 297) (L := 30) rfl hm) rfl ?_
  refine zClt rfl (fun h3 => ?_) (fun h3 => ?_)
  · refine zPs (pc1 := 112) (l1 := [(4, .int (-1 : Int32)), (3, .int (i32 r)), (2, .int (i32 m)), (0, .ref 292), (1, .int (i32 c))]) (st1 := [.int (i32 c), .ref 292]) 2 rfl rfl rfl ?_
    refine zCv (mj := 139) (k := 292) (n := 1) rfl rfl rfl rfl (by decide) rfl rfl rfl rfl rfl rfl ?_
    refine c_139 hl hn htl ht hc hm hnd hI ?_
    refine kV ?_
    refine zRv rfl rfl ?_
    first | (simpa [sDone, hk, hrow, *] using k) | (simpa [sDone, hk, hrow, ← Int32.not_lt, *] using k) | (simpa [sDone, hk, hrow, ← Int32.not_le, *] using k)
  · refine zPs (pc1 := 81) (l1 := [(4, .int (-1 : Int32)), (3, .int (i32 r)), (2, .int (i32 m)), (0, .ref 292), (1, .int (i32 c))]) (st1 := [.ref 292]) 1 rfl rfl rfl ?_
    refine zGetR (r := 317) rfl rfl ⟨by decide, rfl, by decide, rfl⟩ ?_
    refine zPs (pc1 := 87) (l1 := [(4, .int (-1 : Int32)), (3, .int (i32 r)), (2, .int (i32 m)), (0, .ref 292), (1, .int (i32 c))]) (st1 := [.int (i32 r), .int (i32 r), .int (i32 c), .ref 317]) 3 rfl rfl rfl ?_
    refine zCs (mj := 140) rfl rfl rfl rfl rfl rfl rfl rfl ?_
    refine c_140 hr1 hr2 (by omega) ?_
    refine kI ?_
    refine zCs (mj := 141) rfl rfl rfl rfl rfl rfl rfl rfl ?_
    refine c_141 (by omega) ?_
    refine kI ?_
    refine zPs (pc1 := 94) (l1 := [(4, .int (-1 : Int32)), (3, .int (i32 r)), (2, .int (i32 m)), (0, .ref 292), (1, .int (i32 c))]) (st1 := [.int (i32 r - i32 (10 ^ dg)), .int (i32 c), .ref 317]) 1 rfl rfl rfl ?_
    refine zIas (n := c) rfl (icM (k := 317) (L := 60) rfl hc) ?_
    refine zPs (pc1 := 99) (l1 := [(4, .int (-1 : Int32)), (3, .int (i32 r)), (2, .int (i32 m)), (0, .ref 292), (1, .int (i32 c))]) (st1 := [.ref 292, .int (i32 m), .int (i32 c), .ref 292]) 4 rfl rfl rfl ?_
    refine zGetR (r := 301) rfl rfl ⟨by decide, rfl, by decide, rfl⟩ ?_
    refine zPs (pc1 := 103) (l1 := [(4, .int (-1 : Int32)), (3, .int (i32 r)), (2, .int (i32 m)), (0, .ref 292), (1, .int (i32 c))]) (st1 := [.int (i32 m), .ref 301, .int (i32 m), .int (i32 c), .ref 292]) 1 rfl rfl rfl ?_
    refine zIal (n := m) (v := z 301 m) rfl (icM (k := 301) (L := 30) rfl hm) (by simp [up2]) ?_
    refine zCv (mj := 137) (k := 292) (n := 3) rfl rfl rfl rfl (by decide) rfl rfl rfl rfl rfl rfl ?_
    refine c_137 hl htl hc (some m) (MI_up hI rfl) (by simp [up2, hn]) (by simp [up2, ht]) (by show _ = i32 (0 + m); rw [Nat.zero_add]) (fun b q => by cases q; exact hm) (fun _ q => by cases q) (hI.1 m hm).1 ?_
    refine kV ?_
    refine zPs (pc1 := 115) (l1 := [(4, .int (-1 : Int32)), (3, .int (i32 r)), (2, .int (i32 m)), (0, .ref 292), (1, .int (i32 c))]) (st1 := []) 1 rfl rfl rfl ?_
    refine zRv rfl rfl ?_
    first | (simpa [sDone, hk, hrow, *] using k) | (simpa [sDone, hk, hrow, ← Int32.not_lt, *] using k) | (simpa [sDone, hk, hrow, ← Int32.not_le, *] using k)
def sRow (z : Sg) (c m : Nat) (its : Int32) : Sg := up2 (up2 z 314 c (10 * z 314 c + its)) 316 c (z 292 0 + z 304 m)
noncomputable def sDigit (z : Sg) (n t c m q dg : Nat) (its : Int32) : Sg :=
  if z 296 m = 3 then (if i32 (dg + 1) = z 298 m then sDone (sRow z c m its) n t c m q (dg + 1) else sRow z c m its)
  else if 0 < bgN (sRow z c m its) m (10 * z 314 c + its) q then sRow z c m its
  else match pkey (sRow z c m its) m (10 * z 314 c + its) q with
    | some _ => sDone (sRow z c m its) n t c m q 0
    | none => sFails (sRow z c m its) n t c m
theorem c_144a {z : Sg} {P : MO → Sg → Prop} {n : Nat} (hl : n ≤ 60) (hn : z 292 19 = i32 n) {t : Nat} (htl : t ≤ 20000) (ht : z 292 0 = i32 t) {c m : Nat} (hc : c < 60) (hm : m < 30) (hnd : z 313 c = i32 m) (hI : MI z) {q : Nat} (hq10 : q ≤ 10) (hq : z 306 m = i32 q) {its : Int32} (hk : ¬ z 296 m = 3) (k : P (.inl none) (sDigit z n t c m q 0 its)) : Es true 144 [.ref 292, .int (i32 c), .int its] z P := by
  refine Es.of ?_
  refine zPs (pc1 := 1) (l1 := [(0, .ref 292), (1, .int (i32 c)), (2, .int its)]) (st1 := [.ref 292]) 1 rfl rfl rfl ?_
  refine zGetR (r := 313) rfl rfl ⟨by decide, rfl, by decide, rfl⟩ ?_
  refine zPs (pc1 := 5) (l1 := [(0, .ref 292), (1, .int (i32 c)), (2, .int its)]) (st1 := [.int (i32 c), .ref 313]) 1 rfl rfl rfl ?_
  refine zIal (n := c) (v := i32 m) rfl (icM (k := 313) (L := 60) rfl hc) hnd ?_
  refine zPs (pc1 := 8) (l1 := [(3, .int (i32 m)), (0, .ref 292), (1, .int (i32 c)), (2, .int its)]) (st1 := [.ref 292]) 2 rfl rfl rfl ?_
  refine zGetR (r := 314) rfl rfl ⟨by decide, rfl, by decide, rfl⟩ ?_
  refine zPs (pc1 := 15) (l1 := [(3, .int (i32 m)), (0, .ref 292), (1, .int (i32 c)), (2, .int its)]) (st1 := [.ref 292, .int (10 : Int32), .int (i32 c), .ref 314]) 3 rfl rfl rfl ?_
  refine zGetR (r := 314) rfl rfl ⟨by decide, rfl, by decide, rfl⟩ ?_
  refine zPs (pc1 := 19) (l1 := [(3, .int (i32 m)), (0, .ref 292), (1, .int (i32 c)), (2, .int its)]) (st1 := [.int (i32 c), .ref 314, .int (10 : Int32), .int (i32 c), .ref 314]) 1 rfl rfl rfl ?_
  refine zIal (n := c) (v := z 314 c) rfl (icM (k := 314) (L := 60) rfl hc) rfl ?_
  refine zPs (pc1 := 23) (l1 := [(3, .int (i32 m)), (0, .ref 292), (1, .int (i32 c)), (2, .int its)]) (st1 := [.int (((10 : Int32) * z 314 c) + its), .int (i32 c), .ref 314]) 3 rfl rfl rfl ?_
  refine zIas (n := c) rfl (icM (k := 314) (L := 60) rfl hc) ?_
  refine zPs (pc1 := 25) (l1 := [(3, .int (i32 m)), (0, .ref 292), (1, .int (i32 c)), (2, .int its)]) (st1 := [.ref 292]) 1 rfl rfl rfl ?_
  refine zGetR (r := 316) rfl rfl ⟨by decide, rfl, by decide, rfl⟩ ?_
  refine zPs (pc1 := 30) (l1 := [(3, .int (i32 m)), (0, .ref 292), (1, .int (i32 c)), (2, .int its)]) (st1 := [.ref 292, .int (i32 c), .ref 316]) 2 rfl rfl rfl ?_
  refine zGetI (v := z 292 0) rfl rfl icTime (by simp [up2]) ?_
  refine zPs (pc1 := 34) (l1 := [(3, .int (i32 m)), (0, .ref 292), (1, .int (i32 c)), (2, .int its)]) (st1 := [.ref 292, .int (z 292 0), .int (i32 c), .ref 316]) 1 rfl rfl rfl ?_
  refine zGetR (r := 304) rfl rfl ⟨by decide, rfl, by decide, rfl⟩ ?_
  refine zPs (pc1 := 38) (l1 := [(3, .int (i32 m)), (0, .ref 292), (1, .int (i32 c)), (2, .int its)]) (st1 := [.int (i32 m), .ref 304, .int (z 292 0), .int (i32 c), .ref 316]) 1 rfl rfl rfl ?_
  refine zIal (n := m) (v := z 304 m) rfl (icM (k := 304) (L := 30) rfl hm) (by simp [up2]) ?_
  refine zPs (pc1 := 40) (l1 := [(3, .int (i32 m)), (0, .ref 292), (1, .int (i32 c)), (2, .int its)]) (st1 := [.int (z 292 0 + z 304 m), .int (i32 c), .ref 316]) 1 rfl rfl rfl ?_
  refine zIas (n := c) rfl (icM (k := 316) (L := 60) rfl hc) ?_
  refine zPs (pc1 := 42) (l1 := [(3, .int (i32 m)), (0, .ref 292), (1, .int (i32 c)), (2, .int its)]) (st1 := [.ref 292]) 1 rfl rfl rfl ?_
  refine zGetR (r := 296) rfl rfl ⟨by decide, rfl, by decide, rfl⟩ ?_
  refine zPs (pc1 := 46) (l1 := [(3, .int (i32 m)), (0, .ref 292), (1, .int (i32 c)), (2, .int its)]) (st1 := [.int (i32 m), .ref 296]) 1 rfl rfl rfl ?_
  refine zIal (n := m) (v := z 296 m) rfl (icM (k := 296) (L := 30) rfl hm) (by simp [up2]) ?_
  refine zPs (pc1 := 48) (l1 := [(3, .int (i32 m)), (0, .ref 292), (1, .int (i32 c)), (2, .int its)]) (st1 := [.int (3 : Int32), .int (z 296 m)]) 1 rfl rfl rfl ?_
  refine zCn rfl (fun h1 => ?_) (fun h1 => absurd h1 hk)
  refine zPs (pc1 := 78) (l1 := [(3, .int (i32 m)), (0, .ref 292), (1, .int (i32 c)), (2, .int its)]) (st1 := [.ref 292, .int (i32 m), .ref 292]) 3 rfl rfl rfl ?_
  refine zGetR (r := 314) rfl rfl ⟨by decide, rfl, by decide, rfl⟩ ?_
  refine zPs (pc1 := 82) (l1 := [(3, .int (i32 m)), (0, .ref 292), (1, .int (i32 c)), (2, .int its)]) (st1 := [.int (i32 c), .ref 314, .int (i32 m), .ref 292]) 1 rfl rfl rfl ?_
  refine zIal (n := c) (v := (((10 : Int32) * z 314 c) + its)) rfl (icM (k := 314) (L := 60) rfl hc) (by simp [up2]) ?_
  refine zCv (mj := 143) (k := 292) (n := 2) rfl rfl rfl rfl (by decide) rfl rfl rfl rfl rfl rfl ?_
  refine c_143 hm hq10 (by simp [up2, hq]) ?_
  refine kI ?_
  refine nIle (a := bgN (up2 (up2 z 314 c (((10 : Int32) * z 314 c) + its)) 316 c (z 292 0 + z 304 m)) m (((10 : Int32) * z 314 c) + its) q) (Nat.lt_of_le_of_lt (bgN_le _ _ _ _) (by omega)) rfl (fun h2 => ?_) (fun h2 => ?_)
  · refine zPs (pc1 := 99) (l1 := [(4, .int (0 : Int32)), (3, .int (i32 m)), (0, .ref 292), (1, .int (i32 c)), (2, .int its)]) (st1 := [.ref 292, .int (i32 m), .ref 292]) 5 rfl rfl rfl ?_
    refine zGetR (r := 314) rfl rfl ⟨by decide, rfl, by decide, rfl⟩ ?_
    refine zPs (pc1 := 103) (l1 := [(4, .int (0 : Int32)), (3, .int (i32 m)), (0, .ref 292), (1, .int (i32 c)), (2, .int its)]) (st1 := [.int (i32 c), .ref 314, .int (i32 m), .ref 292]) 1 rfl rfl rfl ?_
    refine zIal (n := c) (v := (((10 : Int32) * z 314 c) + its)) rfl (icM (k := 314) (L := 60) rfl hc) (by simp [up2]) ?_
    refine zCv (mj := 114) (k := 292) (n := 2) rfl rfl rfl rfl (by decide) rfl rfl rfl rfl rfl rfl ?_
    refine c_114 hm hq10 (by simp [up2, hq]) (fun h3 h4 h5 => ?_) (fun h6 => ?_)
    · refine kI ?_
      refine nIlt (a := 10 * m + h3) (by omega) rfl ?_
      refine zPs (pc1 := 129) (l1 := [(5, .int (1 : Int32)), (4, .int (0 : Int32)), (3, .int (i32 m)), (0, .ref 292), (1, .int (i32 c)), (2, .int its)]) (st1 := [.int (i32 c), .ref 292]) 9 rfl rfl rfl ?_
      refine zCv (mj := 142) (k := 292) (n := 1) rfl rfl rfl rfl (by decide) rfl rfl rfl rfl rfl rfl ?_
      refine c_142a hl (by simp [up2, hn]) htl (by simp [up2, ht]) hc hm (by simp [up2, hnd]) (MI_up (MI_up hI rfl) rfl) hq10 (by simp [up2, hq]) (dg := 0) (by simp [up2, hk]) ?_
      refine kV ?_
      refine zPs (pc1 := 140) (l1 := [(5, .int (1 : Int32)), (4, .int (0 : Int32)), (3, .int (i32 m)), (0, .ref 292), (1, .int (i32 c)), (2, .int its)]) (st1 := []) 1 rfl rfl rfl ?_
      refine zRv rfl rfl ?_
      first | (simpa [sDigit, sRow, hk, Nat.pos_iff_ne_zero, h2, h4, h5] using k) | (simpa [sDigit, sRow, hk, Nat.pos_iff_ne_zero, h2, h4, h5, ← Int32.not_lt] using k) | (simpa [sDigit, sRow, hk, Nat.pos_iff_ne_zero, h2, h4, h5, ← Int32.not_le] using k)
    · refine kI ?_
      refine zPs (pc1 := 137) (l1 := [(5, .int (0 : Int32)), (4, .int (0 : Int32)), (3, .int (i32 m)), (0, .ref 292), (1, .int (i32 c)), (2, .int its)]) (st1 := [.int (i32 c), .ref 292]) 9 rfl rfl rfl ?_
      refine zCv (mj := 139) (k := 292) (n := 1) rfl rfl rfl rfl (by decide) rfl rfl rfl rfl rfl rfl ?_
      refine c_139 hl (by simp [up2, hn]) htl (by simp [up2, ht]) hc hm (by simp [up2, hnd]) (MI_up (MI_up hI rfl) rfl) ?_
      refine kV ?_
      refine zRv rfl rfl ?_
      first | (simpa [sDigit, sRow, hk, Nat.pos_iff_ne_zero, h2, h6] using k) | (simpa [sDigit, sRow, hk, Nat.pos_iff_ne_zero, h2, h6, ← Int32.not_lt] using k) | (simpa [sDigit, sRow, hk, Nat.pos_iff_ne_zero, h2, h6, ← Int32.not_le] using k)
  · refine zPs (pc1 := 99) (l1 := [(4, .int (1 : Int32)), (3, .int (i32 m)), (0, .ref 292), (1, .int (i32 c)), (2, .int its)]) (st1 := [.ref 292, .int (i32 m), .ref 292]) 6 rfl rfl rfl ?_
    refine zGetR (r := 314) rfl rfl ⟨by decide, rfl, by decide, rfl⟩ ?_
    refine zPs (pc1 := 103) (l1 := [(4, .int (1 : Int32)), (3, .int (i32 m)), (0, .ref 292), (1, .int (i32 c)), (2, .int its)]) (st1 := [.int (i32 c), .ref 314, .int (i32 m), .ref 292]) 1 rfl rfl rfl ?_
    refine zIal (n := c) (v := (((10 : Int32) * z 314 c) + its)) rfl (icM (k := 314) (L := 60) rfl hc) (by simp [up2]) ?_
    refine zCv (mj := 114) (k := 292) (n := 2) rfl rfl rfl rfl (by decide) rfl rfl rfl rfl rfl rfl ?_
    refine c_114 hm hq10 (by simp [up2, hq]) (fun h8 h9 h10 => ?_) (fun h11 => ?_)
    · refine kI ?_
      refine nIlt (a := 10 * m + h8) (by omega) rfl ?_
      refine zPs (pc1 := 140) (l1 := [(5, .int (1 : Int32)), (4, .int (1 : Int32)), (3, .int (i32 m)), (0, .ref 292), (1, .int (i32 c)), (2, .int its)]) (st1 := []) 5 rfl rfl rfl ?_
      refine zRv rfl rfl ?_
      first | (simpa [sDigit, sRow, hk, Nat.pos_iff_ne_zero, h2, h9, h10] using k) | (simpa [sDigit, sRow, hk, Nat.pos_iff_ne_zero, h2, h9, h10, ← Int32.not_lt] using k) | (simpa [sDigit, sRow, hk, Nat.pos_iff_ne_zero, h2, h9, h10, ← Int32.not_le] using k)
    · refine kI ?_
      refine zPs (pc1 := 140) (l1 := [(5, .int (0 : Int32)), (4, .int (1 : Int32)), (3, .int (i32 m)), (0, .ref 292), (1, .int (i32 c)), (2, .int its)]) (st1 := []) 5 rfl rfl rfl ?_
      refine zRv rfl rfl ?_
      first | (simpa [sDigit, sRow, hk, Nat.pos_iff_ne_zero, h2, h11] using k) | (simpa [sDigit, sRow, hk, Nat.pos_iff_ne_zero, h2, h11, ← Int32.not_lt] using k) | (simpa [sDigit, sRow, hk, Nat.pos_iff_ne_zero, h2, h11, ← Int32.not_le] using k)
theorem c_144b {z : Sg} {P : MO → Sg → Prop} {n : Nat} (hl : n ≤ 60) (hn : z 292 19 = i32 n) {t : Nat} (htl : t ≤ 20000) (ht : z 292 0 = i32 t) {c m : Nat} (hc : c < 60) (hm : m < 30) (hnd : z 313 c = i32 m) (hI : MI z) {q : Nat} (hq10 : q ≤ 10) (hq : z 306 m = i32 q) {r dg : Nat} (hk : z 296 m = 3) (hrow : z 314 c = i32 r) (hr1 : 10 ^ dg ≤ r) (hr2 : r < 10 ^ (dg + 1)) (hdg : dg ≤ 6) {k0 : Nat} (hk9 : k0 ≤ 9) (k : P (.inl none) (sDigit z n t c m q dg (i32 k0))) : Es true 144 [.ref 292, .int (i32 c), .int (i32 k0)] z P := by
  have e : 10 * z 314 c + i32 k0 = i32 (10 * r + k0) := by rw [hrow, show (10 : Int32) * i32 r = i32 (10 * r) from i32_mul 10 r, i32_add]
  have p1 : 10 ^ (dg + 1) = 10 ^ dg * 10 := Nat.pow_succ 10 dg
  have p2 : 10 ^ (dg + 1 + 1) = 10 ^ (dg + 1) * 10 := Nat.pow_succ 10 (dg + 1)
  have p3 : 10 ^ (dg + 1) ≤ 10 ^ 7 := Nat.pow_le_pow_right (by decide) (by omega)
  refine Es.of ?_
  refine zPs (pc1 := 1) (l1 := [(0, .ref 292), (1, .int (i32 c)), (2, .int (i32 k0))]) (st1 := [.ref 292]) 1 rfl rfl rfl ?_
  refine zGetR (r := 313) rfl rfl ⟨by decide, rfl, by decide, rfl⟩ ?_
  refine zPs (pc1 := 5) (l1 := [(0, .ref 292), (1, .int (i32 c)), (2, .int (i32 k0))]) (st1 := [.int (i32 c), .ref 313]) 1 rfl rfl rfl ?_
  refine zIal (n := c) (v := i32 m) rfl (icM (k := 313) (L := 60) rfl hc) hnd ?_
  refine zPs (pc1 := 8) (l1 := [(3, .int (i32 m)), (0, .ref 292), (1, .int (i32 c)), (2, .int (i32 k0))]) (st1 := [.ref 292]) 2 rfl rfl rfl ?_
  refine zGetR (r := 314) rfl rfl ⟨by decide, rfl, by decide, rfl⟩ ?_
  refine zPs (pc1 := 15) (l1 := [(3, .int (i32 m)), (0, .ref 292), (1, .int (i32 c)), (2, .int (i32 k0))]) (st1 := [.ref 292, .int (10 : Int32), .int (i32 c), .ref 314]) 3 rfl rfl rfl ?_
  refine zGetR (r := 314) rfl rfl ⟨by decide, rfl, by decide, rfl⟩ ?_
  refine zPs (pc1 := 19) (l1 := [(3, .int (i32 m)), (0, .ref 292), (1, .int (i32 c)), (2, .int (i32 k0))]) (st1 := [.int (i32 c), .ref 314, .int (10 : Int32), .int (i32 c), .ref 314]) 1 rfl rfl rfl ?_
  refine zIal (n := c) (v := i32 r) rfl (icM (k := 314) (L := 60) rfl hc) hrow ?_
  refine zPs (pc1 := 21) (l1 := [(3, .int (i32 m)), (0, .ref 292), (1, .int (i32 c)), (2, .int (i32 k0))]) (st1 := [.int ((10 : Int32) * i32 r), .int (i32 c), .ref 314]) 1 rfl rfl rfl ?_
  refine zTo (ml' := [(3, .int (i32 m)), (0, .ref 292), (1, .int (i32 c)), (2, .int (i32 k0))]) (st' := [.int (i32 (10 * r)), .int (i32 c), .ref 314]) rfl (by rw [show ((10 : Int32) * i32 r) = i32 (10 * r) from i32_mul 10 r]) ?_
  refine zPs (pc1 := 23) (l1 := [(3, .int (i32 m)), (0, .ref 292), (1, .int (i32 c)), (2, .int (i32 k0))]) (st1 := [.int (i32 (10 * r) + i32 k0), .int (i32 c), .ref 314]) 2 rfl rfl rfl ?_
  refine zTo (ml' := [(3, .int (i32 m)), (0, .ref 292), (1, .int (i32 c)), (2, .int (i32 k0))]) (st' := [.int (i32 (10 * r + k0)), .int (i32 c), .ref 314]) rfl (by rw [show (i32 (10 * r) + i32 k0) = i32 (10 * r + k0) from i32_add (10 * r) k0]) ?_
  refine zIas (n := c) rfl (icM (k := 314) (L := 60) rfl hc) ?_
  refine zPs (pc1 := 25) (l1 := [(3, .int (i32 m)), (0, .ref 292), (1, .int (i32 c)), (2, .int (i32 k0))]) (st1 := [.ref 292]) 1 rfl rfl rfl ?_
  refine zGetR (r := 316) rfl rfl ⟨by decide, rfl, by decide, rfl⟩ ?_
  refine zPs (pc1 := 30) (l1 := [(3, .int (i32 m)), (0, .ref 292), (1, .int (i32 c)), (2, .int (i32 k0))]) (st1 := [.ref 292, .int (i32 c), .ref 316]) 2 rfl rfl rfl ?_
  refine zGetI (v := z 292 0) rfl rfl icTime (by simp [up2]) ?_
  refine zPs (pc1 := 34) (l1 := [(3, .int (i32 m)), (0, .ref 292), (1, .int (i32 c)), (2, .int (i32 k0))]) (st1 := [.ref 292, .int (z 292 0), .int (i32 c), .ref 316]) 1 rfl rfl rfl ?_
  refine zGetR (r := 304) rfl rfl ⟨by decide, rfl, by decide, rfl⟩ ?_
  refine zPs (pc1 := 38) (l1 := [(3, .int (i32 m)), (0, .ref 292), (1, .int (i32 c)), (2, .int (i32 k0))]) (st1 := [.int (i32 m), .ref 304, .int (z 292 0), .int (i32 c), .ref 316]) 1 rfl rfl rfl ?_
  refine zIal (n := m) (v := z 304 m) rfl (icM (k := 304) (L := 30) rfl hm) (by simp [up2]) ?_
  refine zPs (pc1 := 40) (l1 := [(3, .int (i32 m)), (0, .ref 292), (1, .int (i32 c)), (2, .int (i32 k0))]) (st1 := [.int (z 292 0 + z 304 m), .int (i32 c), .ref 316]) 1 rfl rfl rfl ?_
  refine zIas (n := c) rfl (icM (k := 316) (L := 60) rfl hc) ?_
  refine zPs (pc1 := 42) (l1 := [(3, .int (i32 m)), (0, .ref 292), (1, .int (i32 c)), (2, .int (i32 k0))]) (st1 := [.ref 292]) 1 rfl rfl rfl ?_
  refine zGetR (r := 296) rfl rfl ⟨by decide, rfl, by decide, rfl⟩ ?_
  refine zPs (pc1 := 46) (l1 := [(3, .int (i32 m)), (0, .ref 292), (1, .int (i32 c)), (2, .int (i32 k0))]) (st1 := [.int (i32 m), .ref 296]) 1 rfl rfl rfl ?_
  refine zIal (n := m) (v := z 296 m) rfl (icM (k := 296) (L := 30) rfl hm) (by simp [up2]) ?_
  refine zPs (pc1 := 48) (l1 := [(3, .int (i32 m)), (0, .ref 292), (1, .int (i32 c)), (2, .int (i32 k0))]) (st1 := [.int (3 : Int32), .int (z 296 m)]) 1 rfl rfl rfl ?_
  refine zCn rfl (fun h1 => absurd hk h1) (fun h1 => ?_)
  refine zPs (pc1 := 52) (l1 := [(3, .int (i32 m)), (0, .ref 292), (1, .int (i32 c)), (2, .int (i32 k0))]) (st1 := [.ref 292]) 1 rfl rfl rfl ?_
  refine zGetR (r := 314) rfl rfl ⟨by decide, rfl, by decide, rfl⟩ ?_
  refine zPs (pc1 := 56) (l1 := [(3, .int (i32 m)), (0, .ref 292), (1, .int (i32 c)), (2, .int (i32 k0))]) (st1 := [.int (i32 c), .ref 314]) 1 rfl rfl rfl ?_
  refine zIal (n := c) (v := i32 (10 * r + k0)) rfl (icM (k := 314) (L := 60) rfl hc) (by simp [up2]) ?_
  refine zCs (mj := 140) rfl rfl rfl rfl rfl rfl rfl rfl ?_
  refine c_140 (d := dg + 1) (by omega) (by omega) (by omega) ?_
  refine kI ?_
  refine zPs (pc1 := 61) (l1 := [(3, .int (i32 m)), (0, .ref 292), (1, .int (i32 c)), (2, .int (i32 k0))]) (st1 := [.ref 292, .int (i32 (dg + 1))]) 1 rfl rfl rfl ?_
  refine zGetR (r := 298) rfl rfl ⟨by decide, rfl, by decide, rfl⟩ ?_
  refine zPs (pc1 := 65) (l1 := [(3, .int (i32 m)), (0, .ref 292), (1, .int (i32 c)), (2, .int (i32 k0))]) (st1 := [.int (i32 m), .ref 298, .int (i32 (dg + 1))]) 1 rfl rfl rfl ?_
  refine zIal (n := m) (v := z 298 m) rfl (icM (k := 298) (L := 30) rfl hm) (by simp [up2]) ?_
  refine zCn rfl (fun h2 => ?_) (fun h2 => ?_)
  · refine zRv rfl rfl ?_
    first | (simpa [sDigit, sRow, hk, e, h2] using k) | (simpa [sDigit, sRow, hk, e, h2, ← Int32.not_lt] using k) | (simpa [sDigit, sRow, hk, e, h2, ← Int32.not_le] using k)
  · refine zPs (pc1 := 71) (l1 := [(3, .int (i32 m)), (0, .ref 292), (1, .int (i32 c)), (2, .int (i32 k0))]) (st1 := [.int (i32 c), .ref 292]) 2 rfl rfl rfl ?_
    refine zCv (mj := 142) (k := 292) (n := 1) rfl rfl rfl rfl (by decide) rfl rfl rfl rfl rfl rfl ?_
    refine c_142b hl (by simp [up2, hn]) htl (by simp [up2, ht]) hc hm (by simp [up2, hnd]) (MI_up (MI_up hI rfl) rfl) hq10 (by simp [up2, hq]) (r := 10 * r + k0) (dg := dg + 1) (by simp [up2, hk]) (by simp [up2]) (by omega) (by omega) (by omega) ?_
    refine kV ?_
    refine zRv rfl rfl ?_
    first | (simpa [sDigit, sRow, hk, e, h2] using k) | (simpa [sDigit, sRow, hk, e, h2, ← Int32.not_lt] using k) | (simpa [sDigit, sRow, hk, e, h2, ← Int32.not_le] using k)
