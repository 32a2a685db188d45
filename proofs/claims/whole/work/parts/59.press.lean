/-! ===== the model: presses, time that is up, who takes whom ===== -/
noncomputable def sPress (z : Sg) (n t c m q dg : Nat) (key : Int32) : Sg :=
  if z 311 c = 1 then (if key = 1 ∧ ¬ z 302 m ≤ -2 then sGoes z n t c (some m) (z 302 m) else z)
  else if z 296 m = 2 ∨ z 296 m = 3 then (if key = 10 then sListen z c m else if key = 11 then sDone z n t c m q dg else sDigit z n t c m q dg key) else z
theorem i32_ne {a b : Nat} (ha : a < 2147483648) (hb : b < 2147483648) (h : ¬ a = b) : ¬ i32 a = i32 b := fun q => h ((i32_inj ha hb).mp q)
theorem c_152a {z : Sg} {P : MO → Sg → Prop} {n : Nat} (hl : n ≤ 60) (hn : z 292 19 = i32 n) {t : Nat} (htl : t ≤ 20000) (ht : z 292 0 = i32 t) {c m : Nat} (hc : c < 60) (hm : m < 30) (hnd : z 313 c = i32 m) (hI : MI z) {q : Nat} (hq10 : q ≤ 10) (hq : z 306 m = i32 q) {k0 : Nat} (hk0 : k0 ≤ 11) (hs : z 311 c = 1 ∨ ¬ z 296 m = 3) (k : P (.inl none) (sPress z n t c m q 0 (i32 k0))) : Es true 152 [.ref 292, .int (i32 c), .int (i32 k0)] z P := by
  refine Es.of ?_
  refine zPs (pc1 := 1) (l1 := [(0, .ref 292), (1, .int (i32 c)), (2, .int (i32 k0))]) (st1 := [.ref 292]) 1 rfl rfl rfl ?_
  refine zGetR (r := 313) rfl rfl ⟨by decide, rfl, by decide, rfl⟩ ?_
  refine zPs (pc1 := 5) (l1 := [(0, .ref 292), (1, .int (i32 c)), (2, .int (i32 k0))]) (st1 := [.int (i32 c), .ref 313]) 1 rfl rfl rfl ?_
  refine zIal (n := c) (v := i32 m) rfl (icM (k := 313) (L := 60) rfl hc) hnd ?_
  refine zPs (pc1 := 8) (l1 := [(3, .int (i32 m)), (0, .ref 292), (1, .int (i32 c)), (2, .int (i32 k0))]) (st1 := [.ref 292]) 2 rfl rfl rfl ?_
  refine zGetR (r := 311) rfl rfl ⟨by decide, rfl, by decide, rfl⟩ ?_
  refine zPs (pc1 := 12) (l1 := [(3, .int (i32 m)), (0, .ref 292), (1, .int (i32 c)), (2, .int (i32 k0))]) (st1 := [.int (i32 c), .ref 311]) 1 rfl rfl rfl ?_
  refine zIal (n := c) (v := z 311 c) rfl (icM (k := 311) (L := 60) rfl hc) rfl ?_
  refine zPs (pc1 := 14) (l1 := [(3, .int (i32 m)), (0, .ref 292), (1, .int (i32 c)), (2, .int (i32 k0))]) (st1 := [.int (1 : Int32), .int (z 311 c)]) 1 rfl rfl rfl ?_
  refine zCn rfl (fun h1 => ?_) (fun h1 => ?_)
  · refine zPs (pc1 := 49) (l1 := [(3, .int (i32 m)), (0, .ref 292), (1, .int (i32 c)), (2, .int (i32 k0))]) (st1 := [.ref 292]) 1 rfl rfl rfl ?_
    refine zGetR (r := 296) rfl rfl ⟨by decide, rfl, by decide, rfl⟩ ?_
    refine zPs (pc1 := 53) (l1 := [(3, .int (i32 m)), (0, .ref 292), (1, .int (i32 c)), (2, .int (i32 k0))]) (st1 := [.int (i32 m), .ref 296]) 1 rfl rfl rfl ?_
    refine zIal (n := m) (v := z 296 m) rfl (icM (k := 296) (L := 30) rfl hm) rfl ?_
    refine zPs (pc1 := 55) (l1 := [(3, .int (i32 m)), (0, .ref 292), (1, .int (i32 c)), (2, .int (i32 k0))]) (st1 := [.int (2 : Int32), .int (z 296 m)]) 1 rfl rfl rfl ?_
    refine zCe rfl (fun h2 => ?_) (fun h2 => ?_)
    · refine zPs (pc1 := 71) (l1 := [(3, .int (i32 m)), (0, .ref 292), (1, .int (i32 c)), (2, .int (i32 k0))]) (st1 := [.int (10 : Int32), .int (i32 k0)]) 2 rfl rfl rfl ?_
      refine nCn (a := k0) (b := 10) (by omega) (by omega) rfl (fun h3 => ?_) (fun h3 => ?_)
      · refine zPs (pc1 := 85) (l1 := [(3, .int (i32 m)), (0, .ref 292), (1, .int (i32 c)), (2, .int (i32 k0))]) (st1 := [.int (11 : Int32), .int (i32 k0)]) 2 rfl rfl rfl ?_
        refine nCn (a := k0) (b := 11) (by omega) (by omega) rfl (fun h4 => ?_) (fun h4 => ?_)
        · refine zPs (pc1 := 99) (l1 := [(3, .int (i32 m)), (0, .ref 292), (1, .int (i32 c)), (2, .int (i32 k0))]) (st1 := [.int (i32 k0), .int (i32 c), .ref 292]) 3 rfl rfl rfl ?_
          refine zCv (mj := 144) (k := 292) (n := 2) rfl rfl rfl rfl (by decide) rfl rfl rfl rfl rfl rfl ?_
          refine c_144a hl hn htl ht hc hm hnd hI hq10 hq (hs.resolve_left h1) ?_
          refine kV ?_
          refine zRv rfl rfl ?_
          refine cast (congrArg (P (.inl none)) ?_) k
          unfold sPress
          have n1 : (1 : Int32) = i32 1 := rfl
          have n10 : (10 : Int32) = i32 10 := rfl
          have n11 : (11 : Int32) = i32 11 := rfl
          have j1 := i32_inj (a := k0) (b := 1) (by omega) (by decide)
          have j10 := i32_inj (a := k0) (b := 10) (by omega) (by decide)
          have j11 := i32_inj (a := k0) (b := 11) (by omega) (by decide)
          grind
        · refine zPs (pc1 := 90) (l1 := [(3, .int (i32 m)), (0, .ref 292), (1, .int (i32 c)), (2, .int (i32 k0))]) (st1 := [.int (i32 c), .ref 292]) 2 rfl rfl rfl ?_
          refine zCv (mj := 142) (k := 292) (n := 1) rfl rfl rfl rfl (by decide) rfl rfl rfl rfl rfl rfl ?_
          refine c_142a hl hn htl ht hc hm hnd hI hq10 hq (dg := 0) (hs.resolve_left h1) ?_
          refine kV ?_
          refine zPs (pc1 := 102) (l1 := [(3, .int (i32 m)), (0, .ref 292), (1, .int (i32 c)), (2, .int (i32 k0))]) (st1 := []) 1 rfl rfl rfl ?_
          refine zRv rfl rfl ?_
          refine cast (congrArg (P (.inl none)) ?_) k
          unfold sPress
          have n1 : (1 : Int32) = i32 1 := rfl
          have n10 : (10 : Int32) = i32 10 := rfl
          have n11 : (11 : Int32) = i32 11 := rfl
          have j1 := i32_inj (a := k0) (b := 1) (by omega) (by decide)
          have j10 := i32_inj (a := k0) (b := 10) (by omega) (by decide)
          have j11 := i32_inj (a := k0) (b := 11) (by omega) (by decide)
          grind
      · refine zPs (pc1 := 76) (l1 := [(3, .int (i32 m)), (0, .ref 292), (1, .int (i32 c)), (2, .int (i32 k0))]) (st1 := [.int (i32 c), .ref 292]) 2 rfl rfl rfl ?_
        refine zCv (mj := 134) (k := 292) (n := 1) rfl rfl rfl rfl (by decide) rfl rfl rfl rfl rfl rfl ?_
        refine c_134 hc hm hnd ?_
        refine kV ?_
        refine zPs (pc1 := 102) (l1 := [(3, .int (i32 m)), (0, .ref 292), (1, .int (i32 c)), (2, .int (i32 k0))]) (st1 := []) 1 rfl rfl rfl ?_
        refine zRv rfl rfl ?_
        refine cast (congrArg (P (.inl none)) ?_) k
        unfold sPress
        have n1 : (1 : Int32) = i32 1 := rfl
        have n10 : (10 : Int32) = i32 10 := rfl
        have n11 : (11 : Int32) = i32 11 := rfl
        have j1 := i32_inj (a := k0) (b := 1) (by omega) (by decide)
        have j10 := i32_inj (a := k0) (b := 10) (by omega) (by decide)
        have j11 := i32_inj (a := k0) (b := 11) (by omega) (by decide)
        grind
    · refine zPs (pc1 := 59) (l1 := [(3, .int (i32 m)), (0, .ref 292), (1, .int (i32 c)), (2, .int (i32 k0))]) (st1 := [.ref 292]) 1 rfl rfl rfl ?_
      refine zGetR (r := 296) rfl rfl ⟨by decide, rfl, by decide, rfl⟩ ?_
      refine zPs (pc1 := 63) (l1 := [(3, .int (i32 m)), (0, .ref 292), (1, .int (i32 c)), (2, .int (i32 k0))]) (st1 := [.int (i32 m), .ref 296]) 1 rfl rfl rfl ?_
      refine zIal (n := m) (v := z 296 m) rfl (icM (k := 296) (L := 30) rfl hm) rfl ?_
      refine zPs (pc1 := 65) (l1 := [(3, .int (i32 m)), (0, .ref 292), (1, .int (i32 c)), (2, .int (i32 k0))]) (st1 := [.int (3 : Int32), .int (z 296 m)]) 1 rfl rfl rfl ?_
      refine zCn rfl (fun h5 => ?_) (fun h5 => absurd h5 (hs.resolve_left h1))
      refine zRv rfl rfl ?_
      refine cast (congrArg (P (.inl none)) ?_) k
      unfold sPress
      have n1 : (1 : Int32) = i32 1 := rfl
      have n10 : (10 : Int32) = i32 10 := rfl
      have n11 : (11 : Int32) = i32 11 := rfl
      have j1 := i32_inj (a := k0) (b := 1) (by omega) (by decide)
      have j10 := i32_inj (a := k0) (b := 10) (by omega) (by decide)
      have j11 := i32_inj (a := k0) (b := 11) (by omega) (by decide)
      grind
  · refine zPs (pc1 := 19) (l1 := [(3, .int (i32 m)), (0, .ref 292), (1, .int (i32 c)), (2, .int (i32 k0))]) (st1 := [.int (1 : Int32), .int (i32 k0)]) 2 rfl rfl rfl ?_
    refine nCn (a := k0) (b := 1) (by omega) (by omega) rfl (fun h6 => ?_) (fun h6 => ?_)
    · refine zRv rfl rfl ?_
      refine cast (congrArg (P (.inl none)) ?_) k
      unfold sPress
      have n1 : (1 : Int32) = i32 1 := rfl
      have n10 : (10 : Int32) = i32 10 := rfl
      have n11 : (11 : Int32) = i32 11 := rfl
      have j1 := i32_inj (a := k0) (b := 1) (by omega) (by decide)
      have j10 := i32_inj (a := k0) (b := 10) (by omega) (by decide)
      have j11 := i32_inj (a := k0) (b := 11) (by omega) (by decide)
      grind
    · refine zPs (pc1 := 23) (l1 := [(3, .int (i32 m)), (0, .ref 292), (1, .int (i32 c)), (2, .int (i32 k0))]) (st1 := [.ref 292]) 1 rfl rfl rfl ?_
      refine zGetR (r := 302) rfl rfl ⟨by decide, rfl, by decide, rfl⟩ ?_
      refine zPs (pc1 := 27) (l1 := [(3, .int (i32 m)), (0, .ref 292), (1, .int (i32 c)), (2, .int (i32 k0))]) (st1 := [.int (i32 m), .ref 302]) 1 rfl rfl rfl ?_
      refine zIal (n := m) (v := z 302 m) rfl (icM (k := 302) (L := 30) rfl hm) rfl ?_
      refine zPs (pc1 := 30) (l1 := [(3, .int (i32 m)), (0, .ref 292), (1, .int (i32 c)), (2, .int (i32 k0))]) (st1 := [.int (-2 : Int32), .int (z 302 m)]) 1 rfl rfl rfl ?_
      refine zCle rfl (fun h7 => ?_) (fun h7 => ?_)
      · refine zRv rfl rfl ?_
        refine cast (congrArg (P (.inl none)) ?_) k
        unfold sPress
        have n1 : (1 : Int32) = i32 1 := rfl
        have n10 : (10 : Int32) = i32 10 := rfl
        have n11 : (11 : Int32) = i32 11 := rfl
        have j1 := i32_inj (a := k0) (b := 1) (by omega) (by decide)
        have j10 := i32_inj (a := k0) (b := 10) (by omega) (by decide)
        have j11 := i32_inj (a := k0) (b := 11) (by omega) (by decide)
        grind
      · refine zPs (pc1 := 37) (l1 := [(3, .int (i32 m)), (0, .ref 292), (1, .int (i32 c)), (2, .int (i32 k0))]) (st1 := [.ref 292, .int (i32 m), .int (i32 c), .ref 292]) 4 rfl rfl rfl ?_
        refine zGetR (r := 302) rfl rfl ⟨by decide, rfl, by decide, rfl⟩ ?_
        refine zPs (pc1 := 41) (l1 := [(3, .int (i32 m)), (0, .ref 292), (1, .int (i32 c)), (2, .int (i32 k0))]) (st1 := [.int (i32 m), .ref 302, .int (i32 m), .int (i32 c), .ref 292]) 1 rfl rfl rfl ?_
        refine zIal (n := m) (v := z 302 m) rfl (icM (k := 302) (L := 30) rfl hm) rfl ?_
        refine zCv (mj := 137) (k := 292) (n := 3) rfl rfl rfl rfl (by decide) rfl rfl rfl rfl rfl rfl ?_
        refine c_137 hl htl hc (some m) hI hn ht (by show _ = i32 (0 + m); rw [Nat.zero_add]) (fun b q => by cases q; exact hm) (fun _ q => by cases q) (hI.1 m hm).2 ?_
        refine kV ?_
        refine zPs (pc1 := 102) (l1 := [(3, .int (i32 m)), (0, .ref 292), (1, .int (i32 c)), (2, .int (i32 k0))]) (st1 := []) 1 rfl rfl rfl ?_
        refine zRv rfl rfl ?_
        refine cast (congrArg (P (.inl none)) ?_) k
        unfold sPress
        have n1 : (1 : Int32) = i32 1 := rfl
        have n10 : (10 : Int32) = i32 10 := rfl
        have n11 : (11 : Int32) = i32 11 := rfl
        have j1 := i32_inj (a := k0) (b := 1) (by omega) (by decide)
        have j10 := i32_inj (a := k0) (b := 10) (by omega) (by decide)
        have j11 := i32_inj (a := k0) (b := 11) (by omega) (by decide)
        grind
theorem c_152b {z : Sg} {P : MO → Sg → Prop} {n : Nat} (hl : n ≤ 60) (hn : z 292 19 = i32 n) {t : Nat} (htl : t ≤ 20000) (ht : z 292 0 = i32 t) {c m : Nat} (hc : c < 60) (hm : m < 30) (hnd : z 313 c = i32 m) (hI : MI z) {q : Nat} (hq10 : q ≤ 10) (hq : z 306 m = i32 q) {r dg : Nat} (hk : z 296 m = 3) (hrow : z 314 c = i32 r) (hr1 : 10 ^ dg ≤ r) (hr2 : r < 10 ^ (dg + 1)) (hdg : dg ≤ 6) {k0 : Nat} (hk0 : k0 ≤ 11) (hs : ¬ z 311 c = 1) (k : P (.inl none) (sPress z n t c m q dg (i32 k0))) : Es true 152 [.ref 292, .int (i32 c), .int (i32 k0)] z P := by
  have hk2 : ¬ z 296 m = 2 := by rw [hk]; decide
  refine Es.of ?_
  refine zPs (pc1 := 1) (l1 := [(0, .ref 292), (1, .int (i32 c)), (2, .int (i32 k0))]) (st1 := [.ref 292]) 1 rfl rfl rfl ?_
  refine zGetR (r := 313) rfl rfl ⟨by decide, rfl, by decide, rfl⟩ ?_
  refine zPs (pc1 := 5) (l1 := [(0, .ref 292), (1, .int (i32 c)), (2, .int (i32 k0))]) (st1 := [.int (i32 c), .ref 313]) 1 rfl rfl rfl ?_
  refine zIal (n := c) (v := i32 m) rfl (icM (k := 313) (L := 60) rfl hc) hnd ?_
  refine zPs (pc1 := 8) (l1 := [(3, .int (i32 m)), (0, .ref 292), (1, .int (i32 c)), (2, .int (i32 k0))]) (st1 := [.ref 292]) 2 rfl rfl rfl ?_
  refine zGetR (r := 311) rfl rfl ⟨by decide, rfl, by decide, rfl⟩ ?_
  refine zPs (pc1 := 12) (l1 := [(3, .int (i32 m)), (0, .ref 292), (1, .int (i32 c)), (2, .int (i32 k0))]) (st1 := [.int (i32 c), .ref 311]) 1 rfl rfl rfl ?_
  refine zIal (n := c) (v := z 311 c) rfl (icM (k := 311) (L := 60) rfl hc) rfl ?_
  refine zPs (pc1 := 14) (l1 := [(3, .int (i32 m)), (0, .ref 292), (1, .int (i32 c)), (2, .int (i32 k0))]) (st1 := [.int (1 : Int32), .int (z 311 c)]) 1 rfl rfl rfl ?_
  refine zCn rfl (fun h1 => ?_) (fun h1 => absurd h1 hs)
  refine zPs (pc1 := 49) (l1 := [(3, .int (i32 m)), (0, .ref 292), (1, .int (i32 c)), (2, .int (i32 k0))]) (st1 := [.ref 292]) 1 rfl rfl rfl ?_
  refine zGetR (r := 296) rfl rfl ⟨by decide, rfl, by decide, rfl⟩ ?_
  refine zPs (pc1 := 53) (l1 := [(3, .int (i32 m)), (0, .ref 292), (1, .int (i32 c)), (2, .int (i32 k0))]) (st1 := [.int (i32 m), .ref 296]) 1 rfl rfl rfl ?_
  refine zIal (n := m) (v := z 296 m) rfl (icM (k := 296) (L := 30) rfl hm) rfl ?_
  refine zPs (pc1 := 55) (l1 := [(3, .int (i32 m)), (0, .ref 292), (1, .int (i32 c)), (2, .int (i32 k0))]) (st1 := [.int (2 : Int32), .int (z 296 m)]) 1 rfl rfl rfl ?_
  refine zCe rfl (fun h2 => absurd h2 hk2) (fun h2 => ?_)
  refine zPs (pc1 := 59) (l1 := [(3, .int (i32 m)), (0, .ref 292), (1, .int (i32 c)), (2, .int (i32 k0))]) (st1 := [.ref 292]) 1 rfl rfl rfl ?_
  refine zGetR (r := 296) rfl rfl ⟨by decide, rfl, by decide, rfl⟩ ?_
  refine zPs (pc1 := 63) (l1 := [(3, .int (i32 m)), (0, .ref 292), (1, .int (i32 c)), (2, .int (i32 k0))]) (st1 := [.int (i32 m), .ref 296]) 1 rfl rfl rfl ?_
  refine zIal (n := m) (v := z 296 m) rfl (icM (k := 296) (L := 30) rfl hm) rfl ?_
  refine zPs (pc1 := 65) (l1 := [(3, .int (i32 m)), (0, .ref 292), (1, .int (i32 c)), (2, .int (i32 k0))]) (st1 := [.int (3 : Int32), .int (z 296 m)]) 1 rfl rfl rfl ?_
  refine zCn rfl (fun h3 => absurd hk h3) (fun h3 => ?_)
  refine zPs (pc1 := 71) (l1 := [(3, .int (i32 m)), (0, .ref 292), (1, .int (i32 c)), (2, .int (i32 k0))]) (st1 := [.int (10 : Int32), .int (i32 k0)]) 2 rfl rfl rfl ?_
  refine nCn (a := k0) (b := 10) (by omega) (by omega) rfl (fun h4 => ?_) (fun h4 => ?_)
  · refine zPs (pc1 := 85) (l1 := [(3, .int (i32 m)), (0, .ref 292), (1, .int (i32 c)), (2, .int (i32 k0))]) (st1 := [.int (11 : Int32), .int (i32 k0)]) 2 rfl rfl rfl ?_
    refine nCn (a := k0) (b := 11) (by omega) (by omega) rfl (fun h5 => ?_) (fun h5 => ?_)
    · refine zPs (pc1 := 99) (l1 := [(3, .int (i32 m)), (0, .ref 292), (1, .int (i32 c)), (2, .int (i32 k0))]) (st1 := [.int (i32 k0), .int (i32 c), .ref 292]) 3 rfl rfl rfl ?_
      refine zCv (mj := 144) (k := 292) (n := 2) rfl rfl rfl rfl (by decide) rfl rfl rfl rfl rfl rfl ?_
      refine c_144b hl hn htl ht hc hm hnd hI hq10 hq hk hrow hr1 hr2 hdg (by omega) ?_
      refine kV ?_
      refine zRv rfl rfl ?_
      refine cast (congrArg (P (.inl none)) ?_) k
      unfold sPress
      have n1 : (1 : Int32) = i32 1 := rfl
      have n10 : (10 : Int32) = i32 10 := rfl
      have n11 : (11 : Int32) = i32 11 := rfl
      have j1 := i32_inj (a := k0) (b := 1) (by omega) (by decide)
      have j10 := i32_inj (a := k0) (b := 10) (by omega) (by decide)
      have j11 := i32_inj (a := k0) (b := 11) (by omega) (by decide)
      grind
    · refine zPs (pc1 := 90) (l1 := [(3, .int (i32 m)), (0, .ref 292), (1, .int (i32 c)), (2, .int (i32 k0))]) (st1 := [.int (i32 c), .ref 292]) 2 rfl rfl rfl ?_
      refine zCv (mj := 142) (k := 292) (n := 1) rfl rfl rfl rfl (by decide) rfl rfl rfl rfl rfl rfl ?_
      refine c_142b hl hn htl ht hc hm hnd hI hq10 hq hk hrow hr1 hr2 (by omega) ?_
      refine kV ?_
      refine zPs (pc1 := 102) (l1 := [(3, .int (i32 m)), (0, .ref 292), (1, .int (i32 c)), (2, .int (i32 k0))]) (st1 := []) 1 rfl rfl rfl ?_
      refine zRv rfl rfl ?_
      refine cast (congrArg (P (.inl none)) ?_) k
      unfold sPress
      have n1 : (1 : Int32) = i32 1 := rfl
      have n10 : (10 : Int32) = i32 10 := rfl
      have n11 : (11 : Int32) = i32 11 := rfl
      have j1 := i32_inj (a := k0) (b := 1) (by omega) (by decide)
      have j10 := i32_inj (a := k0) (b := 10) (by omega) (by decide)
      have j11 := i32_inj (a := k0) (b := 11) (by omega) (by decide)
      grind
  · refine zPs (pc1 := 76) (l1 := [(3, .int (i32 m)), (0, .ref 292), (1, .int (i32 c)), (2, .int (i32 k0))]) (st1 := [.int (i32 c), .ref 292]) 2 rfl rfl rfl ?_
    refine zCv (mj := 134) (k := 292) (n := 1) rfl rfl rfl rfl (by decide) rfl rfl rfl rfl rfl rfl ?_
    refine c_134 hc hm hnd ?_
    refine kV ?_
    refine zPs (pc1 := 102) (l1 := [(3, .int (i32 m)), (0, .ref 292), (1, .int (i32 c)), (2, .int (i32 k0))]) (st1 := []) 1 rfl rfl rfl ?_
    refine zRv rfl rfl ?_
    refine cast (congrArg (P (.inl none)) ?_) k
    unfold sPress
    have n1 : (1 : Int32) = i32 1 := rfl
    have n10 : (10 : Int32) = i32 10 := rfl
    have n11 : (11 : Int32) = i32 11 := rfl
    have j1 := i32_inj (a := k0) (b := 1) (by omega) (by decide)
    have j10 := i32_inj (a := k0) (b := 10) (by omega) (by decide)
    have j11 := i32_inj (a := k0) (b := 11) (by omega) (by decide)
    grind
def sMiss (z : Sg) (c a : Nat) : Sg := if z 323 c + 1 = 2 then sEnds (up2 (sReady z a) 323 c (z 323 c + 1)) c 5 else up2 (up2 (up2 (sReady z a) 323 c (z 323 c + 1)) 311 c 3) 324 c (z 292 0 + 30)
noncomputable def sUp (z : Sg) (n t c m q dg : Nat) : Sg := if z 311 c = 1 ∨ z 296 m = 1 then sGoes z n t c (some m) (z 301 m) else sDone z n t c m q dg
theorem c_163 {z : Sg} {P : MO → Sg → Prop} {c : Nat} (hc : c < 60) {a : Nat} (ha : a < 6) (hw : z 325 c = i32 a) (k : P (.inl none) (sMiss z c a)) : Es true 163 [.ref 292, .int (i32 c)] z P := by
  refine Es.of ?_
  refine zPs (pc1 := 2) (l1 := [(0, .ref 292), (1, .int (i32 c))]) (st1 := [.ref 292, .ref 292]) 2 rfl rfl rfl ?_
  refine zGetR (r := 325) rfl rfl ⟨by decide, rfl, by decide, rfl⟩ ?_
  refine zPs (pc1 := 6) (l1 := [(0, .ref 292), (1, .int (i32 c))]) (st1 := [.int (i32 c), .ref 325, .ref 292]) 1 rfl rfl rfl ?_
  refine zIal (n := c) (v := i32 a) rfl (icM (k := 325) (L := 60) rfl hc) hw ?_
  refine zCv (mj := 145) (k := 292) (n := 1) rfl rfl rfl rfl (by decide) rfl rfl rfl rfl rfl rfl ?_
  refine c_145 ha ?_
  refine kV ?_
  refine zPs (pc1 := 11) (l1 := [(0, .ref 292), (1, .int (i32 c))]) (st1 := [.ref 292]) 1 rfl rfl rfl ?_
  refine zGetR (r := 323) rfl rfl ⟨by decide, rfl, by decide, rfl⟩ ?_
  refine zPs (pc1 := 16) (l1 := [(0, .ref 292), (1, .int (i32 c))]) (st1 := [.int (i32 c), .ref 323, .int (i32 c), .ref 323]) 2 rfl rfl rfl ?_
  refine zIal (n := c) (v := z 323 c) rfl (icM (k := 323) (L := 60) rfl hc) rfl ?_
  refine zPs (pc1 := 19) (l1 := [(0, .ref 292), (1, .int (i32 c))]) (st1 := [.int (z 323 c + (1 : Int32)), .int (i32 c), .ref 323]) 2 rfl rfl rfl ?_
  refine zIas (n := c) rfl (icM (k := 323) (L := 60) rfl hc) ?_
  refine zPs (pc1 := 21) (l1 := [(0, .ref 292), (1, .int (i32 c))]) (st1 := [.ref 292]) 1 rfl rfl rfl ?_
  refine zGetR (r := 323) rfl rfl ⟨by decide, rfl, by decide, rfl⟩ ?_
  refine zPs (pc1 := 25) (l1 := [(0, .ref 292), (1, .int (i32 c))]) (st1 := [.int (i32 c), .ref 323]) 1 rfl rfl rfl ?_
  refine zIal (n := c) (v := (z 323 c + (1 : Int32))) rfl (icM (k := 323) (L := 60) rfl hc) (by simp [up2]) ?_
  refine zPs (pc1 := 27) (l1 := [(0, .ref 292), (1, .int (i32 c))]) (st1 := [.int (2 : Int32), .int (z 323 c + (1 : Int32))]) 1 rfl rfl rfl ?_
  refine zCn rfl (fun h1 => ?_) (fun h1 => ?_)
  · refine zPs (pc1 := 40) (l1 := [(0, .ref 292), (1, .int (i32 c))]) (st1 := [.ref 292]) 1 rfl rfl rfl ?_
    refine zGetR (r := 311) rfl rfl ⟨by decide, rfl, by decide, rfl⟩ ?_
    refine zPs (pc1 := 45) (l1 := [(0, .ref 292), (1, .int (i32 c))]) (st1 := [.int (3 : Int32), .int (i32 c), .ref 311]) 2 rfl rfl rfl ?_
    refine zIas (n := c) rfl (icM (k := 311) (L := 60) rfl hc) ?_
    refine zPs (pc1 := 47) (l1 := [(0, .ref 292), (1, .int (i32 c))]) (st1 := [.ref 292]) 1 rfl rfl rfl ?_
    refine zGetR (r := 324) rfl rfl ⟨by decide, rfl, by decide, rfl⟩ ?_
    refine zPs (pc1 := 52) (l1 := [(0, .ref 292), (1, .int (i32 c))]) (st1 := [.ref 292, .int (i32 c), .ref 324]) 2 rfl rfl rfl ?_
    refine zGetI (v := z 292 0) rfl rfl icTime rfl ?_
    refine zPs (pc1 := 58) (l1 := [(0, .ref 292), (1, .int (i32 c))]) (st1 := [.int (z 292 0 + (30 : Int32)), .int (i32 c), .ref 324]) 2 rfl rfl rfl ?_
    refine zIas (n := c) rfl (icM (k := 324) (L := 60) rfl hc) ?_
    refine zRv rfl rfl ?_
    first | (simpa [sMiss, h1] using k) | (simpa [sMiss, h1, ← Int32.not_lt] using k) | (simpa [sMiss, h1, ← Int32.not_le] using k)
  · refine zPs (pc1 := 33) (l1 := [(0, .ref 292), (1, .int (i32 c))]) (st1 := [.int (5 : Int32), .int (i32 c), .ref 292]) 3 rfl rfl rfl ?_
    refine zCv (mj := 132) (k := 292) (n := 2) rfl rfl rfl rfl (by decide) rfl rfl rfl rfl rfl rfl ?_
    refine c_132 hc ?_
    refine kV ?_
    refine zPs (pc1 := 59) (l1 := [(0, .ref 292), (1, .int (i32 c))]) (st1 := []) 1 rfl rfl rfl ?_
    refine zRv rfl rfl ?_
    first | (simpa [sMiss, h1] using k) | (simpa [sMiss, h1, ← Int32.not_lt] using k) | (simpa [sMiss, h1, ← Int32.not_le] using k)
theorem c_164a {z : Sg} {P : MO → Sg → Prop} {c : Nat} (hc : c < 60) {a : Nat} (ha : a < 6) (hs : z 311 c = 4) (hw : z 325 c = i32 a) (k : P (.inl none) (sMiss z c a)) : Es true 164 [.ref 292, .int (i32 c)] z P := by
  refine Es.of ?_
  refine zPs (pc1 := 1) (l1 := [(0, .ref 292), (1, .int (i32 c))]) (st1 := [.ref 292]) 1 rfl rfl rfl ?_
  refine zGetR (r := 313) rfl rfl ⟨by decide, rfl, by decide, rfl⟩ ?_
  refine zPs (pc1 := 5) (l1 := [(0, .ref 292), (1, .int (i32 c))]) (st1 := [.int (i32 c), .ref 313]) 1 rfl rfl rfl ?_
  refine zIal (n := c) (v := z 313 c) rfl (icM (k := 313) (L := 60) rfl hc) rfl ?_
  refine zPs (pc1 := 8) (l1 := [(2, .int (z 313 c)), (0, .ref 292), (1, .int (i32 c))]) (st1 := [.ref 292]) 2 rfl rfl rfl ?_
  refine zGetR (r := 311) rfl rfl ⟨by decide, rfl, by decide, rfl⟩ ?_
  refine zPs (pc1 := 12) (l1 := [(2, .int (z 313 c)), (0, .ref 292), (1, .int (i32 c))]) (st1 := [.int (i32 c), .ref 311]) 1 rfl rfl rfl ?_
  refine zIal (n := c) (v := z 311 c) rfl (icM (k := 311) (L := 60) rfl hc) rfl ?_
  refine zPs (pc1 := 14) (l1 := [(2, .int (z 313 c)), (0, .ref 292), (1, .int (i32 c))]) (st1 := [.int (4 : Int32), .int (z 311 c)]) 1 rfl rfl rfl ?_
  refine zCn rfl (fun h1 => absurd hs h1) (fun h1 => ?_)
  refine zPs (pc1 := 19) (l1 := [(2, .int (z 313 c)), (0, .ref 292), (1, .int (i32 c))]) (st1 := [.int (i32 c), .ref 292]) 2 rfl rfl rfl ?_
  refine zCv (mj := 163) (k := 292) (n := 1) rfl rfl rfl rfl (by decide) rfl rfl rfl rfl rfl rfl ?_
  refine c_163 hc ha hw ?_
  refine kV ?_
  refine zPs (pc1 := 65) (l1 := [(2, .int (z 313 c)), (0, .ref 292), (1, .int (i32 c))]) (st1 := []) 1 rfl rfl rfl ?_
  refine zRv rfl rfl ?_
  exact k
theorem c_164b {z : Sg} {P : MO → Sg → Prop} {n : Nat} (hl : n ≤ 60) (hn : z 292 19 = i32 n) {t : Nat} (htl : t ≤ 20000) (ht : z 292 0 = i32 t) {c m : Nat} (hc : c < 60) (hm : m < 30) (hnd : z 313 c = i32 m) (hI : MI z) {q : Nat} (hq10 : q ≤ 10) (hq : z 306 m = i32 q) (hs : ¬ z 311 c = 4) (hk : ¬ z 296 m = 3) (k : P (.inl none) (sUp z n t c m q 0)) : Es true 164 [.ref 292, .int (i32 c)] z P := by
  refine Es.of ?_
  refine zPs (pc1 := 1) (l1 := [(0, .ref 292), (1, .int (i32 c))]) (st1 := [.ref 292]) 1 rfl rfl rfl ?_
  refine zGetR (r := 313) rfl rfl ⟨by decide, rfl, by decide, rfl⟩ ?_
  refine zPs (pc1 := 5) (l1 := [(0, .ref 292), (1, .int (i32 c))]) (st1 := [.int (i32 c), .ref 313]) 1 rfl rfl rfl ?_
  refine zIal (n := c) (v := i32 m) rfl (icM (k := 313) (L := 60) rfl hc) hnd ?_
  refine zPs (pc1 := 8) (l1 := [(2, .int (i32 m)), (0, .ref 292), (1, .int (i32 c))]) (st1 := [.ref 292]) 2 rfl rfl rfl ?_
  refine zGetR (r := 311) rfl rfl ⟨by decide, rfl, by decide, rfl⟩ ?_
  refine zPs (pc1 := 12) (l1 := [(2, .int (i32 m)), (0, .ref 292), (1, .int (i32 c))]) (st1 := [.int (i32 c), .ref 311]) 1 rfl rfl rfl ?_
  refine zIal (n := c) (v := z 311 c) rfl (icM (k := 311) (L := 60) rfl hc) rfl ?_
  refine zPs (pc1 := 14) (l1 := [(2, .int (i32 m)), (0, .ref 292), (1, .int (i32 c))]) (st1 := [.int (4 : Int32), .int (z 311 c)]) 1 rfl rfl rfl ?_
  refine zCn rfl (fun h1 => ?_) (fun h1 => absurd h1 hs)
  refine zPs (pc1 := 26) (l1 := [(2, .int (i32 m)), (0, .ref 292), (1, .int (i32 c))]) (st1 := [.ref 292]) 1 rfl rfl rfl ?_
  refine zGetR (r := 311) rfl rfl ⟨by decide, rfl, by decide, rfl⟩ ?_
  refine zPs (pc1 := 30) (l1 := [(2, .int (i32 m)), (0, .ref 292), (1, .int (i32 c))]) (st1 := [.int (i32 c), .ref 311]) 1 rfl rfl rfl ?_
  refine zIal (n := c) (v := z 311 c) rfl (icM (k := 311) (L := 60) rfl hc) rfl ?_
  refine zPs (pc1 := 32) (l1 := [(2, .int (i32 m)), (0, .ref 292), (1, .int (i32 c))]) (st1 := [.int (1 : Int32), .int (z 311 c)]) 1 rfl rfl rfl ?_
  refine zCe rfl (fun h2 => ?_) (fun h2 => ?_)
  · refine zPs (pc1 := 49) (l1 := [(2, .int (i32 m)), (0, .ref 292), (1, .int (i32 c))]) (st1 := [.ref 292, .int (i32 m), .int (i32 c), .ref 292]) 4 rfl rfl rfl ?_
    refine zGetR (r := 301) rfl rfl ⟨by decide, rfl, by decide, rfl⟩ ?_
    refine zPs (pc1 := 53) (l1 := [(2, .int (i32 m)), (0, .ref 292), (1, .int (i32 c))]) (st1 := [.int (i32 m), .ref 301, .int (i32 m), .int (i32 c), .ref 292]) 1 rfl rfl rfl ?_
    refine zIal (n := m) (v := z 301 m) rfl (icM (k := 301) (L := 30) rfl hm) rfl ?_
    refine zCv (mj := 137) (k := 292) (n := 3) rfl rfl rfl rfl (by decide) rfl rfl rfl rfl rfl rfl ?_
    refine c_137 hl htl hc (some m) hI hn ht (by show _ = i32 (0 + m); rw [Nat.zero_add]) (fun b q => by cases q; exact hm) (fun _ q => by cases q) (hI.1 m hm).1 ?_
    refine kV ?_
    refine zPs (pc1 := 65) (l1 := [(2, .int (i32 m)), (0, .ref 292), (1, .int (i32 c))]) (st1 := []) 1 rfl rfl rfl ?_
    refine zRv rfl rfl ?_
    first | (simpa [sUp, h2] using k) | (simpa [sUp, h2, ← Int32.not_lt] using k) | (simpa [sUp, h2, ← Int32.not_le] using k)
  · refine zPs (pc1 := 36) (l1 := [(2, .int (i32 m)), (0, .ref 292), (1, .int (i32 c))]) (st1 := [.ref 292]) 1 rfl rfl rfl ?_
    refine zGetR (r := 296) rfl rfl ⟨by decide, rfl, by decide, rfl⟩ ?_
    refine zPs (pc1 := 40) (l1 := [(2, .int (i32 m)), (0, .ref 292), (1, .int (i32 c))]) (st1 := [.int (i32 m), .ref 296]) 1 rfl rfl rfl ?_
    refine zIal (n := m) (v := z 296 m) rfl (icM (k := 296) (L := 30) rfl hm) rfl ?_
    refine zPs (pc1 := 42) (l1 := [(2, .int (i32 m)), (0, .ref 292), (1, .int (i32 c))]) (st1 := [.int (1 : Int32), .int (z 296 m)]) 1 rfl rfl rfl ?_
    refine zCn rfl (fun h3 => ?_) (fun h3 => ?_)
    · refine zPs (pc1 := 62) (l1 := [(2, .int (i32 m)), (0, .ref 292), (1, .int (i32 c))]) (st1 := [.int (i32 c), .ref 292]) 2 rfl rfl rfl ?_
      refine zCv (mj := 142) (k := 292) (n := 1) rfl rfl rfl rfl (by decide) rfl rfl rfl rfl rfl rfl ?_
      refine c_142a hl hn htl ht hc hm hnd hI hq10 hq (dg := 0) hk ?_
      refine kV ?_
      refine zRv rfl rfl ?_
      first | (simpa [sUp, h2, h3] using k) | (simpa [sUp, h2, h3, ← Int32.not_lt] using k) | (simpa [sUp, h2, h3, ← Int32.not_le] using k)
    · refine zPs (pc1 := 49) (l1 := [(2, .int (i32 m)), (0, .ref 292), (1, .int (i32 c))]) (st1 := [.ref 292, .int (i32 m), .int (i32 c), .ref 292]) 4 rfl rfl rfl ?_
      refine zGetR (r := 301) rfl rfl ⟨by decide, rfl, by decide, rfl⟩ ?_
      refine zPs (pc1 := 53) (l1 := [(2, .int (i32 m)), (0, .ref 292), (1, .int (i32 c))]) (st1 := [.int (i32 m), .ref 301, .int (i32 m), .int (i32 c), .ref 292]) 1 rfl rfl rfl ?_
      refine zIal (n := m) (v := z 301 m) rfl (icM (k := 301) (L := 30) rfl hm) rfl ?_
      refine zCv (mj := 137) (k := 292) (n := 3) rfl rfl rfl rfl (by decide) rfl rfl rfl rfl rfl rfl ?_
      refine c_137 hl htl hc (some m) hI hn ht (by show _ = i32 (0 + m); rw [Nat.zero_add]) (fun b q => by cases q; exact hm) (fun _ q => by cases q) (hI.1 m hm).1 ?_
      refine kV ?_
      refine zPs (pc1 := 65) (l1 := [(2, .int (i32 m)), (0, .ref 292), (1, .int (i32 c))]) (st1 := []) 1 rfl rfl rfl ?_
      refine zRv rfl rfl ?_
      first | (simpa [sUp, h2, h3] using k) | (simpa [sUp, h2, h3, ← Int32.not_lt] using k) | (simpa [sUp, h2, h3, ← Int32.not_le] using k)
theorem c_164c {z : Sg} {P : MO → Sg → Prop} {n : Nat} (hl : n ≤ 60) (hn : z 292 19 = i32 n) {t : Nat} (htl : t ≤ 20000) (ht : z 292 0 = i32 t) {c m : Nat} (hc : c < 60) (hm : m < 30) (hnd : z 313 c = i32 m) (hI : MI z) {q : Nat} (hq10 : q ≤ 10) (hq : z 306 m = i32 q) {r dg : Nat} (hk : z 296 m = 3) (hrow : z 314 c = i32 r) (hr1 : 10 ^ dg ≤ r) (hr2 : r < 10 ^ (dg + 1)) (hdg : dg ≤ 7) (hs : ¬ z 311 c = 4) (k : P (.inl none) (sUp z n t c m q dg)) : Es true 164 [.ref 292, .int (i32 c)] z P := by
  have hk1 : ¬ z 296 m = 1 := by rw [hk]; decide
  refine Es.of ?_
  refine zPs (pc1 := 1) (l1 := [(0, .ref 292), (1, .int (i32 c))]) (st1 := [.ref 292]) 1 rfl rfl rfl ?_
  refine zGetR (r := 313) rfl rfl ⟨by decide, rfl, by decide, rfl⟩ ?_
  refine zPs (pc1 := 5) (l1 := [(0, .ref 292), (1, .int (i32 c))]) (st1 := [.int (i32 c), .ref 313]) 1 rfl rfl rfl ?_
  refine zIal (n := c) (v := i32 m) rfl (icM (k := 313) (L := 60) rfl hc) hnd ?_
  refine zPs (pc1 := 8) (l1 := [(2, .int (i32 m)), (0, .ref 292), (1, .int (i32 c))]) (st1 := [.ref 292]) 2 rfl rfl rfl ?_
  refine zGetR (r := 311) rfl rfl ⟨by decide, rfl, by decide, rfl⟩ ?_
  refine zPs (pc1 := 12) (l1 := [(2, .int (i32 m)), (0, .ref 292), (1, .int (i32 c))]) (st1 := [.int (i32 c), .ref 311]) 1 rfl rfl rfl ?_
  refine zIal (n := c) (v := z 311 c) rfl (icM (k := 311) (L := 60) rfl hc) rfl ?_
  refine zPs (pc1 := 14) (l1 := [(2, .int (i32 m)), (0, .ref 292), (1, .int (i32 c))]) (st1 := [.int (4 : Int32), .int (z 311 c)]) 1 rfl rfl rfl ?_
  refine zCn rfl (fun h1 => ?_) (fun h1 => absurd h1 hs)
  refine zPs (pc1 := 26) (l1 := [(2, .int (i32 m)), (0, .ref 292), (1, .int (i32 c))]) (st1 := [.ref 292]) 1 rfl rfl rfl ?_
  refine zGetR (r := 311) rfl rfl ⟨by decide, rfl, by decide, rfl⟩ ?_
  refine zPs (pc1 := 30) (l1 := [(2, .int (i32 m)), (0, .ref 292), (1, .int (i32 c))]) (st1 := [.int (i32 c), .ref 311]) 1 rfl rfl rfl ?_
  refine zIal (n := c) (v := z 311 c) rfl (icM (k := 311) (L := 60) rfl hc) rfl ?_
  refine zPs (pc1 := 32) (l1 := [(2, .int (i32 m)), (0, .ref 292), (1, .int (i32 c))]) (st1 := [.int (1 : Int32), .int (z 311 c)]) 1 rfl rfl rfl ?_
  refine zCe rfl (fun h2 => ?_) (fun h2 => ?_)
  · refine zPs (pc1 := 49) (l1 := [(2, .int (i32 m)), (0, .ref 292), (1, .int (i32 c))]) (st1 := [.ref 292, .int (i32 m), .int (i32 c), .ref 292]) 4 rfl rfl rfl ?_
    refine zGetR (r := 301) rfl rfl ⟨by decide, rfl, by decide, rfl⟩ ?_
    refine zPs (pc1 := 53) (l1 := [(2, .int (i32 m)), (0, .ref 292), (1, .int (i32 c))]) (st1 := [.int (i32 m), .ref 301, .int (i32 m), .int (i32 c), .ref 292]) 1 rfl rfl rfl ?_
    refine zIal (n := m) (v := z 301 m) rfl (icM (k := 301) (L := 30) rfl hm) rfl ?_
    refine zCv (mj := 137) (k := 292) (n := 3) rfl rfl rfl rfl (by decide) rfl rfl rfl rfl rfl rfl ?_
    refine c_137 hl htl hc (some m) hI hn ht (by show _ = i32 (0 + m); rw [Nat.zero_add]) (fun b q => by cases q; exact hm) (fun _ q => by cases q) (hI.1 m hm).1 ?_
    refine kV ?_
    refine zPs (pc1 := 65) (l1 := [(2, .int (i32 m)), (0, .ref 292), (1, .int (i32 c))]) (st1 := []) 1 rfl rfl rfl ?_
    refine zRv rfl rfl ?_
    first | (simpa [sUp, hk, hk1, h2] using k) | (simpa [sUp, hk, hk1, h2, ← Int32.not_lt] using k) | (simpa [sUp, hk, hk1, h2, ← Int32.not_le] using k)
  · refine zPs (pc1 := 36) (l1 := [(2, .int (i32 m)), (0, .ref 292), (1, .int (i32 c))]) (st1 := [.ref 292]) 1 rfl rfl rfl ?_
    refine zGetR (r := 296) rfl rfl ⟨by decide, rfl, by decide, rfl⟩ ?_
    refine zPs (pc1 := 40) (l1 := [(2, .int (i32 m)), (0, .ref 292), (1, .int (i32 c))]) (st1 := [.int (i32 m), .ref 296]) 1 rfl rfl rfl ?_
    refine zIal (n := m) (v := z 296 m) rfl (icM (k := 296) (L := 30) rfl hm) rfl ?_
    refine zPs (pc1 := 42) (l1 := [(2, .int (i32 m)), (0, .ref 292), (1, .int (i32 c))]) (st1 := [.int (1 : Int32), .int (z 296 m)]) 1 rfl rfl rfl ?_
    refine zCn rfl (fun h3 => ?_) (fun h3 => absurd h3 hk1)
    refine zPs (pc1 := 62) (l1 := [(2, .int (i32 m)), (0, .ref 292), (1, .int (i32 c))]) (st1 := [.int (i32 c), .ref 292]) 2 rfl rfl rfl ?_
    refine zCv (mj := 142) (k := 292) (n := 1) rfl rfl rfl rfl (by decide) rfl rfl rfl rfl rfl rfl ?_
    refine c_142b hl hn htl ht hc hm hnd hI hq10 hq hk hrow hr1 hr2 hdg ?_
    refine kV ?_
    refine zRv rfl rfl ?_
    first | (simpa [sUp, hk, hk1, h2] using k) | (simpa [sUp, hk, hk1, h2, ← Int32.not_lt] using k) | (simpa [sUp, hk, hk1, h2, ← Int32.not_le] using k)
