/-! ===== the model: ticks ===== -/
abbrev dueN (z : Sg) (j : Nat) : Prop := (z 311 j < 2 ∨ z 311 j = 4) ∧ z 316 j = z 292 0
noncomputable def mMove (n t : Nat) : Nat → Nat → Sg → Sg
  | 0, _, z => z
  | d + 1, j, z => if dueN z j then mMove n t d (j + 1) (mUp z n t j) else mMove n t d (j + 1) z
def okMove (n t : Nat) : Nat → Nat → Sg → Prop
  | 0, _, _ => True
  | d + 1, j, z => (dueN z j → UOK z j ∧ okMove n t d (j + 1) (mUp z n t j)) ∧ (¬ dueN z j → okMove n t d (j + 1) z)
theorem CZ_move {n t n' t' : Nat} : ∀ d j z, j + d ≤ 60 → okMove n' t' d j z → CZ z n t → CZ (mMove n' t' d j z) n t
  | 0, j, z, _, _, h => h
  | d + 1, j, z, hj, ho, h => by
    unfold mMove
    by_cases hd : dueN z j
    · rw [if_pos hd]
      have := ho.1 hd
      exact CZ_move d (j + 1) _ (by omega) this.2 (CZ_mUp (by omega) this.1 h)
    · rw [if_neg hd]
      exact CZ_move d (j + 1) _ (by omega) (ho.2 hd) h
noncomputable def mWrapped : Nat → Nat → Sg → Sg
  | 0, _, z => z
  | d + 1, j, z => if z 326 j = 4 ∧ z 330 j = z 292 0 then mWrapped d (j + 1) (sReady z j) else mWrapped d (j + 1) z
theorem CZ_wrapped {n t : Nat} : ∀ d j z, CZ z n t → CZ (mWrapped d j z) n t
  | 0, j, z, h => h
  | d + 1, j, z, h => by
    unfold mWrapped
    split
    · exact CZ_wrapped d _ _ (CZ_ready h)
    · exact CZ_wrapped d _ _ h
noncomputable def mTick (n t : Nat) (z : Sg) : Sg := sTakes (mWrapped 6 0 (mMove n (t + 1) n 0 (up2 z 292 0 (i32 (t + 1))))) n
def okTick (n t : Nat) (z : Sg) : Prop := okMove n (t + 1) n 0 (up2 z 292 0 (i32 (t + 1)))
theorem l_165a {P : MO → Sg → Prop} {rc rs n t : Nat} (hl : n ≤ 60) (htl : t ≤ 20000) : ∀ (d j : Nat) (l : Sg), j + d = n → CZ l n t → okMove n t d j l → (Ws true 165 rc rs 64 [(0, .ref 292)] [] (mMove n t d j l) P) → Ws true 165 rc rs 12 [(1, .int (i32 j)), (0, .ref 292)] [] l P := by
  intro d
  induction d with
  | zero =>
    intro j l hj hCI ho k
    obtain rfl : n = j := by omega
    refine zPs (pc1 := 14) (l1 := [(1, .int (i32 n)), (0, .ref 292)]) (st1 := [.ref 292, .int (i32 n)]) 2 rfl rfl rfl ?_
    refine zGetI (F := 292) (I := 19) (v := i32 n) rfl rfl icNum hCI.1 ?_
    refine nCge (a := n) (b := n) (by omega) (by omega) rfl (fun h1 => ?_) (fun h1 => absurd (Nat.le_refl _) h1)
    refine zMl (ml' := [(0, .ref 292)]) ⟨rfl, trivial⟩ rfl rfl ?_
    exact k
  | succ d ih =>
    intro j l hj hCI ho k
    have hjl : j < n := by omega
    have ht0 := hCI.2.1
    rw [okMove] at ho
    rw [mMove] at k
    refine zPs (pc1 := 14) (l1 := [(1, .int (i32 j)), (0, .ref 292)]) (st1 := [.ref 292, .int (i32 j)]) 2 rfl rfl rfl ?_
    refine zGetI (F := 292) (I := 19) (v := i32 n) rfl rfl icNum hCI.1 ?_
    refine nCge (a := j) (b := n) (by omega) (by omega) rfl (fun h1 => absurd h1 (by omega)) (fun h1 => ?_)
    refine zPs (pc1 := 21) (l1 := [(1, .int (i32 j)), (0, .ref 292)]) (st1 := [.ref 292]) 1 rfl rfl rfl ?_
    refine zGetR (r := 311) rfl rfl ⟨by decide, rfl, by decide, rfl⟩ ?_
    refine zPs (pc1 := 25) (l1 := [(1, .int (i32 j)), (0, .ref 292)]) (st1 := [.int (i32 j), .ref 311]) 1 rfl rfl rfl ?_
    refine zIal (n := j) (v := l 311 j) rfl (icM (k := 311) (L := 60) rfl (by omega)) rfl ?_
    refine zPs (pc1 := 27) (l1 := [(1, .int (i32 j)), (0, .ref 292)]) (st1 := [.int (2 : Int32), .int (l 311 j)]) 1 rfl rfl rfl ?_
    refine zClt rfl (fun h2 => ?_) (fun h2 => ?_)
    · skip
      refine zPs (pc1 := 41) (l1 := [(1, .int (i32 j)), (0, .ref 292)]) (st1 := [.ref 292]) 1 rfl rfl rfl ?_
      refine zGetR (r := 316) rfl rfl ⟨by decide, rfl, by decide, rfl⟩ ?_
      refine zPs (pc1 := 45) (l1 := [(1, .int (i32 j)), (0, .ref 292)]) (st1 := [.int (i32 j), .ref 316]) 1 rfl rfl rfl ?_
      refine zIal (n := j) (v := l 316 j) rfl (icM (k := 316) (L := 60) rfl (by omega)) rfl ?_
      refine zPs (pc1 := 47) (l1 := [(1, .int (i32 j)), (0, .ref 292)]) (st1 := [.ref 292, .int (l 316 j)]) 1 rfl rfl rfl ?_
      refine zGetI (F := 292) (I := 0) (v := i32 t) rfl rfl icTime hCI.2.1 ?_
      refine zCn rfl (fun h3 => ?_) (fun h3 => ?_)
      · skip
        refine zPs (pc1 := 61) (l1 := [(1, .int (i32 j + (1 : Int32))), (0, .ref 292)]) (st1 := []) 1 rfl rfl rfl ?_
        refine zTo (ml' := [(1, .int (i32 (j + 1))), (0, .ref 292)]) (st' := []) (by rw [show (i32 j + (1 : Int32)) = i32 (j + 1) from i32_add j 1]) rfl ?_
        refine zPs (pc1 := 12) (l1 := [(1, .int (i32 (j + 1))), (0, .ref 292)]) (st1 := []) 1 rfl rfl rfl ?_
        refine zMl (ml' := [(1, .int (i32 (j + 1))), (0, .ref 292)]) ⟨rfl, rfl, trivial⟩ rfl rfl ?_
        rw [if_neg (by grind)] at k
        exact ih (j + 1) _ (by omega) hCI (ho.2 (by grind)) k
      · skip
        refine zPs (pc1 := 55) (l1 := [(1, .int (i32 j)), (0, .ref 292)]) (st1 := [.int (i32 j), .ref 292]) 2 rfl rfl rfl ?_
        refine zCv (mj := 164) (k := 292) (n := 1) rfl rfl rfl rfl (by decide) rfl rfl rfl rfl rfl rfl ?_
        refine e_164 hl htl hCI (by omega) (ho.1 (by grind)).1 ?_
        refine kV ?_
        refine zZ (z' := (mUp l n t j)) rfl ?_
        refine zPs (pc1 := 61) (l1 := [(1, .int (i32 j + (1 : Int32))), (0, .ref 292)]) (st1 := []) 1 rfl rfl rfl ?_
        refine zTo (ml' := [(1, .int (i32 (j + 1))), (0, .ref 292)]) (st' := []) (by rw [show (i32 j + (1 : Int32)) = i32 (j + 1) from i32_add j 1]) rfl ?_
        refine zPs (pc1 := 12) (l1 := [(1, .int (i32 (j + 1))), (0, .ref 292)]) (st1 := []) 1 rfl rfl rfl ?_
        refine zMl (ml' := [(1, .int (i32 (j + 1))), (0, .ref 292)]) ⟨rfl, rfl, trivial⟩ rfl rfl ?_
        rw [if_pos (by grind)] at k
        exact ih (j + 1) _ (by omega) (CZ_mUp (by omega) (ho.1 (by grind)).1 hCI) (ho.1 (by grind)).2 k
    · skip
      refine zPs (pc1 := 31) (l1 := [(1, .int (i32 j)), (0, .ref 292)]) (st1 := [.ref 292]) 1 rfl rfl rfl ?_
      refine zGetR (r := 311) rfl rfl ⟨by decide, rfl, by decide, rfl⟩ ?_
      refine zPs (pc1 := 35) (l1 := [(1, .int (i32 j)), (0, .ref 292)]) (st1 := [.int (i32 j), .ref 311]) 1 rfl rfl rfl ?_
      refine zIal (n := j) (v := l 311 j) rfl (icM (k := 311) (L := 60) rfl (by omega)) rfl ?_
      refine zPs (pc1 := 37) (l1 := [(1, .int (i32 j)), (0, .ref 292)]) (st1 := [.int (4 : Int32), .int (l 311 j)]) 1 rfl rfl rfl ?_
      refine zCn rfl (fun h4 => ?_) (fun h4 => ?_)
      · skip
        refine zPs (pc1 := 61) (l1 := [(1, .int (i32 j + (1 : Int32))), (0, .ref 292)]) (st1 := []) 1 rfl rfl rfl ?_
        refine zTo (ml' := [(1, .int (i32 (j + 1))), (0, .ref 292)]) (st' := []) (by rw [show (i32 j + (1 : Int32)) = i32 (j + 1) from i32_add j 1]) rfl ?_
        refine zPs (pc1 := 12) (l1 := [(1, .int (i32 (j + 1))), (0, .ref 292)]) (st1 := []) 1 rfl rfl rfl ?_
        refine zMl (ml' := [(1, .int (i32 (j + 1))), (0, .ref 292)]) ⟨rfl, rfl, trivial⟩ rfl rfl ?_
        rw [if_neg (by grind)] at k
        exact ih (j + 1) _ (by omega) hCI (ho.2 (by grind)) k
      · skip
        refine zPs (pc1 := 41) (l1 := [(1, .int (i32 j)), (0, .ref 292)]) (st1 := [.ref 292]) 1 rfl rfl rfl ?_
        refine zGetR (r := 316) rfl rfl ⟨by decide, rfl, by decide, rfl⟩ ?_
        refine zPs (pc1 := 45) (l1 := [(1, .int (i32 j)), (0, .ref 292)]) (st1 := [.int (i32 j), .ref 316]) 1 rfl rfl rfl ?_
        refine zIal (n := j) (v := l 316 j) rfl (icM (k := 316) (L := 60) rfl (by omega)) rfl ?_
        refine zPs (pc1 := 47) (l1 := [(1, .int (i32 j)), (0, .ref 292)]) (st1 := [.ref 292, .int (l 316 j)]) 1 rfl rfl rfl ?_
        refine zGetI (F := 292) (I := 0) (v := i32 t) rfl rfl icTime hCI.2.1 ?_
        refine zCn rfl (fun h5 => ?_) (fun h5 => ?_)
        · skip
          refine zPs (pc1 := 61) (l1 := [(1, .int (i32 j + (1 : Int32))), (0, .ref 292)]) (st1 := []) 1 rfl rfl rfl ?_
          refine zTo (ml' := [(1, .int (i32 (j + 1))), (0, .ref 292)]) (st' := []) (by rw [show (i32 j + (1 : Int32)) = i32 (j + 1) from i32_add j 1]) rfl ?_
          refine zPs (pc1 := 12) (l1 := [(1, .int (i32 (j + 1))), (0, .ref 292)]) (st1 := []) 1 rfl rfl rfl ?_
          refine zMl (ml' := [(1, .int (i32 (j + 1))), (0, .ref 292)]) ⟨rfl, rfl, trivial⟩ rfl rfl ?_
          rw [if_neg (by grind)] at k
          exact ih (j + 1) _ (by omega) hCI (ho.2 (by grind)) k
        · skip
          refine zPs (pc1 := 55) (l1 := [(1, .int (i32 j)), (0, .ref 292)]) (st1 := [.int (i32 j), .ref 292]) 2 rfl rfl rfl ?_
          refine zCv (mj := 164) (k := 292) (n := 1) rfl rfl rfl rfl (by decide) rfl rfl rfl rfl rfl rfl ?_
          refine e_164 hl htl hCI (by omega) (ho.1 (by grind)).1 ?_
          refine kV ?_
          refine zZ (z' := (mUp l n t j)) rfl ?_
          refine zPs (pc1 := 61) (l1 := [(1, .int (i32 j + (1 : Int32))), (0, .ref 292)]) (st1 := []) 1 rfl rfl rfl ?_
          refine zTo (ml' := [(1, .int (i32 (j + 1))), (0, .ref 292)]) (st' := []) (by rw [show (i32 j + (1 : Int32)) = i32 (j + 1) from i32_add j 1]) rfl ?_
          refine zPs (pc1 := 12) (l1 := [(1, .int (i32 (j + 1))), (0, .ref 292)]) (st1 := []) 1 rfl rfl rfl ?_
          refine zMl (ml' := [(1, .int (i32 (j + 1))), (0, .ref 292)]) ⟨rfl, rfl, trivial⟩ rfl rfl ?_
          rw [if_pos (by grind)] at k
          exact ih (j + 1) _ (by omega) (CZ_mUp (by omega) (ho.1 (by grind)).1 hCI) (ho.1 (by grind)).2 k
theorem l_165b {P : MO → Sg → Prop} {rc rs : Nat} : ∀ (d j : Nat) (l : Sg), j + d = 6 → (Ws true 165 rc rs 106 [(0, .ref 292)] [] (mWrapped d j l) P) → Ws true 165 rc rs 66 [(1, .int (i32 j)), (0, .ref 292)] [] l P := by
  intro d
  induction d with
  | zero =>
    intro j l hj k
    obtain rfl : 6 = j := by omega
    refine zPs (pc1 := 69) (l1 := [(1, .int (i32 6)), (0, .ref 292)]) (st1 := [.int (6 : Int32), .int (i32 6)]) 2 rfl rfl rfl ?_
    refine nCge (a := 6) (b := 6) (by omega) (by omega) rfl (fun h1 => ?_) (fun h1 => absurd (Nat.le_refl _) h1)
    refine zMl (ml' := [(0, .ref 292)]) ⟨rfl, trivial⟩ rfl rfl ?_
    exact k
  | succ d ih =>
    intro j l hj k
    have hjl : j < 6 := by omega
    rw [mWrapped] at k
    refine zPs (pc1 := 69) (l1 := [(1, .int (i32 j)), (0, .ref 292)]) (st1 := [.int (6 : Int32), .int (i32 j)]) 2 rfl rfl rfl ?_
    refine nCge (a := j) (b := 6) (by omega) (by omega) rfl (fun h1 => absurd h1 (by omega)) (fun h1 => ?_)
    refine zPs (pc1 := 73) (l1 := [(1, .int (i32 j)), (0, .ref 292)]) (st1 := [.ref 292]) 1 rfl rfl rfl ?_
    refine zGetR (r := 326) rfl rfl ⟨by decide, rfl, by decide, rfl⟩ ?_
    refine zPs (pc1 := 77) (l1 := [(1, .int (i32 j)), (0, .ref 292)]) (st1 := [.int (i32 j), .ref 326]) 1 rfl rfl rfl ?_
    refine zIal (n := j) (v := l 326 j) rfl (icM (k := 326) (L := 6) rfl (by omega)) rfl ?_
    refine zPs (pc1 := 79) (l1 := [(1, .int (i32 j)), (0, .ref 292)]) (st1 := [.int (4 : Int32), .int (l 326 j)]) 1 rfl rfl rfl ?_
    refine zCn rfl (fun h2 => ?_) (fun h2 => ?_)
    · skip
      refine zPs (pc1 := 103) (l1 := [(1, .int (i32 j + (1 : Int32))), (0, .ref 292)]) (st1 := []) 1 rfl rfl rfl ?_
      refine zTo (ml' := [(1, .int (i32 (j + 1))), (0, .ref 292)]) (st' := []) (by rw [show (i32 j + (1 : Int32)) = i32 (j + 1) from i32_add j 1]) rfl ?_
      refine zPs (pc1 := 66) (l1 := [(1, .int (i32 (j + 1))), (0, .ref 292)]) (st1 := []) 1 rfl rfl rfl ?_
      refine zMl (ml' := [(1, .int (i32 (j + 1))), (0, .ref 292)]) ⟨rfl, rfl, trivial⟩ rfl rfl ?_
      rw [if_neg (by grind)] at k
      exact ih (j + 1) _ (by omega) k
    · skip
      refine zPs (pc1 := 83) (l1 := [(1, .int (i32 j)), (0, .ref 292)]) (st1 := [.ref 292]) 1 rfl rfl rfl ?_
      refine zGetR (r := 330) rfl rfl ⟨by decide, rfl, by decide, rfl⟩ ?_
      refine zPs (pc1 := 87) (l1 := [(1, .int (i32 j)), (0, .ref 292)]) (st1 := [.int (i32 j), .ref 330]) 1 rfl rfl rfl ?_
      refine zIal (n := j) (v := l 330 j) rfl (icM (k := 330) (L := 6) rfl (by omega)) rfl ?_
      refine zPs (pc1 := 89) (l1 := [(1, .int (i32 j)), (0, .ref 292)]) (st1 := [.ref 292, .int (l 330 j)]) 1 rfl rfl rfl ?_
      refine zGetI (F := 292) (I := 0) (v := l 292 0) rfl rfl icTime rfl ?_
      refine zCn rfl (fun h3 => ?_) (fun h3 => ?_)
      · skip
        refine zPs (pc1 := 103) (l1 := [(1, .int (i32 j + (1 : Int32))), (0, .ref 292)]) (st1 := []) 1 rfl rfl rfl ?_
        refine zTo (ml' := [(1, .int (i32 (j + 1))), (0, .ref 292)]) (st' := []) (by rw [show (i32 j + (1 : Int32)) = i32 (j + 1) from i32_add j 1]) rfl ?_
        refine zPs (pc1 := 66) (l1 := [(1, .int (i32 (j + 1))), (0, .ref 292)]) (st1 := []) 1 rfl rfl rfl ?_
        refine zMl (ml' := [(1, .int (i32 (j + 1))), (0, .ref 292)]) ⟨rfl, rfl, trivial⟩ rfl rfl ?_
        rw [if_neg (by grind)] at k
        exact ih (j + 1) _ (by omega) k
      · skip
        refine zPs (pc1 := 97) (l1 := [(1, .int (i32 j)), (0, .ref 292)]) (st1 := [.int (i32 j), .ref 292]) 2 rfl rfl rfl ?_
        refine zCv (mj := 145) (k := 292) (n := 1) rfl rfl rfl rfl (by decide) rfl rfl rfl rfl rfl rfl ?_
        refine c_145 (by omega) ?_
        refine kV ?_
        refine zZ (z' := (sReady l j)) rfl ?_
        refine zPs (pc1 := 103) (l1 := [(1, .int (i32 j + (1 : Int32))), (0, .ref 292)]) (st1 := []) 1 rfl rfl rfl ?_
        refine zTo (ml' := [(1, .int (i32 (j + 1))), (0, .ref 292)]) (st' := []) (by rw [show (i32 j + (1 : Int32)) = i32 (j + 1) from i32_add j 1]) rfl ?_
        refine zPs (pc1 := 66) (l1 := [(1, .int (i32 (j + 1))), (0, .ref 292)]) (st1 := []) 1 rfl rfl rfl ?_
        refine zMl (ml' := [(1, .int (i32 (j + 1))), (0, .ref 292)]) ⟨rfl, rfl, trivial⟩ rfl rfl ?_
        rw [if_pos (by grind)] at k
        exact ih (j + 1) _ (by omega) k
theorem e_165 {l : Sg} {P : MO → Sg → Prop} {n t : Nat} (hl : n ≤ 60) (htl : t + 1 ≤ 20000) (hCI : CZ l n t) (ho : okTick n t l) (k : P (.inl none) (mTick n t l)) : Es true 165 [.ref 292] l P := by
  refine Es.of ?_
  refine zPs (pc1 := 2) (l1 := [(0, .ref 292)]) (st1 := [.ref 292, .ref 292]) 2 rfl rfl rfl ?_
  refine zGetI (F := 292) (I := 0) (v := i32 t) rfl rfl icTime hCI.2.1 ?_
  refine zPs (pc1 := 7) (l1 := [(0, .ref 292)]) (st1 := [.int (i32 t + (1 : Int32)), .ref 292]) 2 rfl rfl rfl ?_
  refine zTo (ml' := [(0, .ref 292)]) (st' := [.int (i32 (t + 1)), .ref 292]) rfl (by rw [show (i32 t + (1 : Int32)) = i32 (t + 1) from i32_add t 1]) ?_
  refine zPutI (F := 292) (I := 0) rfl rfl icTime rfl ?_
  refine zPs (pc1 := 12) (l1 := [(1, .int (0 : Int32)), (0, .ref 292)]) (st1 := []) 2 rfl rfl rfl ?_
  refine zMl (ml' := [(1, .int (i32 0)), (0, .ref 292)]) ⟨rfl, rfl, trivial⟩ rfl rfl ?_
  refine l_165a hl htl n 0 _ (by omega) (CZ_now hCI) ho ?_
  have hm := CZ_move n 0 _ (by omega) ho (CZ_now hCI)
  unfold mTick at k
  generalize mMove n (t + 1) n 0 (up2 l 292 0 (i32 (t + 1))) = l1 at k hm ⊢
  refine zPs (pc1 := 66) (l1 := [(1, .int (0 : Int32)), (0, .ref 292)]) (st1 := []) 2 rfl rfl rfl ?_
  refine zMl (ml' := [(1, .int (i32 0)), (0, .ref 292)]) ⟨rfl, rfl, trivial⟩ rfl rfl ?_
  refine l_165b 6 0 _ (by omega) ?_
  have hm2 := CZ_wrapped 6 0 l1 hm
  generalize mWrapped 6 0 l1 = l2 at k hm2 ⊢
  refine zPs (pc1 := 107) (l1 := [(0, .ref 292)]) (st1 := [.ref 292]) 1 rfl rfl rfl ?_
  refine zCv (mj := 149) (k := 292) (n := 0) rfl rfl rfl rfl (by decide) rfl rfl rfl rfl rfl rfl ?_
  refine c_149 hl hm2.1 ?_
  refine kV ?_
  refine zRv rfl rfl ?_
  exact k
noncomputable def mTicks (n : Nat) : Nat → Nat → Sg → Sg
  | 0, _, z => z
  | d + 1, t, z => mTicks n d (t + 1) (mTick n t z)
/-- each tick's moves can be run; what was thrown stays 0 -/
def okTicks (n : Nat) : Nat → Nat → Sg → Prop
  | 0, _, z => z 292 41 = 0
  | d + 1, t, z => z 292 41 = 0 ∧ (okTick n t z ∧ okTicks n d (t + 1) (mTick n t z))
theorem CZ_tick {n t : Nat} {z : Sg} (hl : n ≤ 60) (ho : okTick n t z) (h : CZ z n t) : CZ (mTick n t z) n (t + 1) := CZ_takes (CZ_wrapped 6 0 _ (CZ_move n 0 _ (by omega) ho (CZ_now h)))
noncomputable def mPass (n t : Nat) (x : Int32) (z : Sg) : Int32 × Sg :=
  if 1 ≤ x ∧ x ≤ 100 then (if i32 t + x ≤ 20000 then ((mTicks n x.toNatClampNeg t (up2 z 292 41 0)) 292 0, mTicks n x.toNatClampNeg t (up2 z 292 41 0))
    else (0, up2 z 292 41 2))
  else (0, up2 z 292 41 1)
theorem l_166 {P : MO → Sg → Prop} {rc rs n u : Nat} (hl : n ≤ 60) : ∀ (d j t : Nat) (l : Sg), j + d = u → u ≤ 100 → t + d ≤ 20000 → CZ l n t → okTicks n d t l → P (.inl (some (.int ((mTicks n d t l) 292 0)))) (mTicks n d t l) → Ws true 166 rc rs 37 [(2, .int (i32 j)), (0, .ref 292), (1, .int (i32 u))] [] l P := by
  intro d
  induction d with
  | zero =>
    intro j t l hj hu ht hCI ho k
    obtain rfl : u = j := by omega
    rw [okTicks] at ho
    rw [mTicks] at k
    refine zPs (pc1 := 39) (l1 := [(2, .int (i32 u)), (0, .ref 292), (1, .int (i32 u))]) (st1 := [.int (i32 u), .int (i32 u)]) 2 rfl rfl rfl ?_
    refine nCge (a := u) (b := u) (by omega) (by omega) rfl (fun h1 => ?_) (fun h1 => absurd (Nat.le_refl _) h1)
    refine zPs (pc1 := 60) (l1 := [(2, .int (i32 u)), (0, .ref 292), (1, .int (i32 u))]) (st1 := [.ref 292]) 1 rfl rfl rfl ?_
    refine zGetI (F := 292) (I := 41) (v := (0 : Int32)) rfl rfl icThr ho ?_
    refine zPs (pc1 := 71) (l1 := [(2, .int (i32 u)), (0, .ref 292), (1, .int (i32 u))]) (st1 := [.ref 292]) 2 rfl rfl rfl ?_
    refine zGetI (F := 292) (I := 0) (v := l 292 0) rfl rfl icTime rfl ?_
    refine zRi rfl rfl ?_
    exact k
  | succ d ih =>
    intro j t l hj hu ht hCI ho k
    have hjl : j < u := by omega
    rw [okTicks] at ho
    rw [mTicks] at k
    refine zPs (pc1 := 39) (l1 := [(2, .int (i32 j)), (0, .ref 292), (1, .int (i32 u))]) (st1 := [.int (i32 u), .int (i32 j)]) 2 rfl rfl rfl ?_
    refine nCge (a := j) (b := u) (by omega) (by omega) rfl (fun h1 => absurd h1 (by omega)) (fun h1 => ?_)
    refine zPs (pc1 := 43) (l1 := [(2, .int (i32 j)), (0, .ref 292), (1, .int (i32 u))]) (st1 := [.ref 292]) 1 rfl rfl rfl ?_
    refine zGetI (F := 292) (I := 41) (v := (0 : Int32)) rfl rfl icThr ho.1 ?_
    refine zPs (pc1 := 50) (l1 := [(2, .int (i32 j)), (0, .ref 292), (1, .int (i32 u))]) (st1 := [.ref 292]) 2 rfl rfl rfl ?_
    refine zCv (mj := 165) (k := 292) (n := 0) rfl rfl rfl rfl (by decide) rfl rfl rfl rfl rfl rfl ?_
    refine e_165 hl (by omega) hCI ho.2.1 ?_
    refine kV ?_
    refine zZ (z' := (mTick n t l)) rfl ?_
    refine zPs (pc1 := 56) (l1 := [(2, .int (i32 j + (1 : Int32))), (0, .ref 292), (1, .int (i32 u))]) (st1 := []) 1 rfl rfl rfl ?_
    refine zTo (ml' := [(2, .int (i32 (j + 1))), (0, .ref 292), (1, .int (i32 u))]) (st' := []) (by rw [show (i32 j + (1 : Int32)) = i32 (j + 1) from i32_add j 1]) rfl ?_
    refine zPs (pc1 := 37) (l1 := [(2, .int (i32 (j + 1))), (0, .ref 292), (1, .int (i32 u))]) (st1 := []) 1 rfl rfl rfl ?_
    refine zMl (ml' := [(2, .int (i32 (j + 1))), (0, .ref 292), (1, .int (i32 u))]) ⟨rfl, rfl, rfl, trivial⟩ rfl rfl ?_
    exact ih (j + 1) (t + 1) _ (by omega) hu (by omega) (CZ_tick hl ho.2.1 hCI) ho.2.2 k
theorem l_166x {l : Sg} {P : MO → Sg → Prop} {rc rs : Nat} {x v : Int32} (hv : l 292 41 = v) (hv2 : 0 < v) (k : P (.inl (some (.int 0))) l) : Ws true 166 rc rs 37 [(2, .int 0), (0, .ref 292), (1, .int x)] [] l P := by
  have hv3 : ¬ v = 0 := by rintro rfl; exact absurd hv2 (by decide)
  have hv4 : ¬ v ≤ 0 := Int32.not_le.mpr hv2
  refine zPs (pc1 := 39) (l1 := [(2, .int (0 : Int32)), (0, .ref 292), (1, .int x)]) (st1 := [.int x, .int (0 : Int32)]) 2 rfl rfl rfl ?_
  refine zCge rfl (fun h1 => ?_) (fun h1 => ?_)
  · skip
    refine zPs (pc1 := 60) (l1 := [(2, .int (0 : Int32)), (0, .ref 292), (1, .int x)]) (st1 := [.ref 292]) 1 rfl rfl rfl ?_
    refine zGetI (F := 292) (I := 41) (v := v) rfl rfl icThr hv ?_
    refine zIfle rfl (fun h2 => absurd h2 hv4) (fun h2 => ?_)
    refine zPs (pc1 := 74) (l1 := [(2, .int (0 : Int32)), (0, .ref 292), (1, .int x)]) (st1 := [.int (0 : Int32)]) 2 rfl rfl rfl ?_
    refine zRi rfl rfl ?_
    exact k
  · skip
    refine zPs (pc1 := 43) (l1 := [(2, .int (0 : Int32)), (0, .ref 292), (1, .int x)]) (st1 := [.ref 292]) 1 rfl rfl rfl ?_
    refine zGetI (F := 292) (I := 41) (v := v) rfl rfl icThr hv ?_
    refine zIfn rfl (fun h3 => ?_) (fun h3 => absurd h3 hv3)
    refine zPs (pc1 := 60) (l1 := [(2, .int (0 : Int32)), (0, .ref 292), (1, .int x)]) (st1 := [.ref 292]) 1 rfl rfl rfl ?_
    refine zGetI (F := 292) (I := 41) (v := v) rfl rfl icThr hv ?_
    refine zIfle rfl (fun h4 => absurd h4 hv4) (fun h4 => ?_)
    refine zPs (pc1 := 74) (l1 := [(2, .int (0 : Int32)), (0, .ref 292), (1, .int x)]) (st1 := [.int (0 : Int32)]) 2 rfl rfl rfl ?_
    refine zRi rfl rfl ?_
    exact k
theorem e_166 {l : Sg} {P : MO → Sg → Prop} {n t : Nat} {x : Int32} (hl : n ≤ 60) (htl : t ≤ 20000) (hCI : CZ l n t) (ho : 1 ≤ x ∧ x ≤ 100 → i32 t + x ≤ 20000 → t + x.toNatClampNeg ≤ 20000 ∧ okTicks n x.toNatClampNeg t (up2 l 292 41 0)) (k : Rk (Qb P) (mPass n t x l)) : Es true 166 [.ref 292, .int x] l P := by
  unfold mPass at k
  refine Es.of ?_
  refine zPs (pc1 := 5) (l1 := [(0, .ref 292), (1, .int x)]) (st1 := [.int (100 : Int32), .int (1 : Int32), .int x, .ref 292]) 4 rfl rfl rfl ?_
  refine zCs (mj := 107) rfl rfl rfl rfl rfl rfl rfl rfl ?_
  refine d_107 (fun h1 => ?_) (fun h1 => ?_)
  · replace k := ite_t h1 k
    have h2 := rng_le (b := 100) (by decide) (Int32.le_trans (by decide) h1.1) h1.2
    refine kI ?_
    refine zPs (pc1 := 16) (l1 := [(0, .ref 292), (1, .int x)]) (st1 := [.ref 292, .ref 292]) 2 rfl rfl rfl ?_
    refine zGetI (F := 292) (I := 0) (v := i32 t) rfl rfl icTime hCI.2.1 ?_
    refine zPs (pc1 := 24) (l1 := [(0, .ref 292), (1, .int x)]) (st1 := [.int (20000 : Int32), .int (i32 t + x), .ref 292]) 3 rfl rfl rfl ?_
    refine zCle rfl (fun h3 => ?_) (fun h3 => ?_)
    · replace k := ite_t h3 k
      refine zPs (pc1 := 32) (l1 := [(0, .ref 292), (1, .int x)]) (st1 := [.int (0 : Int32), .ref 292]) 1 rfl rfl rfl ?_
      refine zPutI (F := 292) (I := 41) rfl rfl icThr rfl ?_
      refine zPs (pc1 := 37) (l1 := [(2, .int (0 : Int32)), (0, .ref 292), (1, .int x)]) (st1 := []) 2 rfl rfl rfl ?_
      refine zMl (ml' := [(2, .int (i32 0)), (0, .ref 292), (1, .int (i32 x.toNatClampNeg))]) ⟨rfl, rfl, (congrArg (fun v => some (Value.int v)) h2.2.symm), trivial⟩ rfl rfl ?_
      have hoo := ho h1 h3
      exact l_166 hl x.toNatClampNeg 0 t _ (by omega) (Nat.le_of_lt_succ h2.1) hoo.1 (CZ_thr hCI) hoo.2 k
    · replace k := ite_f h3 k
      refine zPs (pc1 := 32) (l1 := [(0, .ref 292), (1, .int x)]) (st1 := [.int (2 : Int32), .ref 292]) 2 rfl rfl rfl ?_
      refine zPutI (F := 292) (I := 41) rfl rfl icThr rfl ?_
      refine zPs (pc1 := 37) (l1 := [(2, .int (0 : Int32)), (0, .ref 292), (1, .int x)]) (st1 := []) 2 rfl rfl rfl ?_
      exact l_166x (v := 2) (by simp [up2]) (by decide) k
  · replace k := ite_f h1 k
    refine kI ?_
    refine zPs (pc1 := 32) (l1 := [(0, .ref 292), (1, .int x)]) (st1 := [.int (1 : Int32), .ref 292]) 3 rfl rfl rfl ?_
    refine zPutI (F := 292) (I := 41) rfl rfl icThr rfl ?_
    refine zPs (pc1 := 37) (l1 := [(2, .int (0 : Int32)), (0, .ref 292), (1, .int x)]) (st1 := []) 2 rfl rfl rfl ?_
    exact l_166x (v := 1) (by simp [up2]) (by decide) k
