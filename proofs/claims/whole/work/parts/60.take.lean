/-! ===== the model: who takes whom ===== -/
abbrev canT (z : Sg) (a k : Nat) : Prop := isW z k ∧ z 327 a >>> (z 320 k &&& 31) &&& 1 = 1 ∧ (z 311 k = 1 ∨ z 324 k ≤ z 292 0)
noncomputable def bestN (z : Sg) (a : Nat) : Nat → Option Nat
  | 0 => none
  | j + 1 => @ite _ (canT z a j ∧ (∀ b, bestN z a j = some b → ahead z j b)) (Classical.propDecidable _) (some j) (bestN z a j)
theorem bestN_yes {z : Sg} {a j : Nat} (h1 : canT z a j) (h2 : ∀ b, bestN z a j = some b → ahead z j b) : bestN z a (j + 1) = some j := by
  rw [bestN, if_pos ⟨h1, h2⟩]
theorem bestN_no1 {z : Sg} {a j : Nat} (h : ¬ canT z a j) : bestN z a (j + 1) = bestN z a j := by
  rw [bestN, if_neg (fun q => h q.1)]
theorem bestN_no2 {z : Sg} {a j b : Nat} (hb : bestN z a j = some b) (h : ¬ ahead z j b) : bestN z a (j + 1) = bestN z a j := by
  rw [bestN, if_neg (fun q => h (q.2 b hb))]
theorem bestN_lt {z : Sg} {a : Nat} : ∀ {j b : Nat}, bestN z a j = some b → b < j
  | j + 1, b, h => by
    unfold bestN at h
    split at h
    · cases h; exact Nat.lt_succ_self _
    · exact Nat.lt_succ_of_lt (bestN_lt h)
theorem l_147 {z : Sg} {P : MO → Sg → Prop} {rc rs : Nat} {n a : Nat} (hl : n ≤ 60) (hn : z 292 19 = i32 n) (ha : a < 6) (k : P (.inl (some (.int (oI 0 (bestN z a n))))) z) : ∀ d j, j + d = n → Ws true 147 rc rs 4 [(3, .int (i32 j)), (2, .int (oI 0 (bestN z a j))), (0, .ref 292), (1, .int (i32 a))] [] z P := by
  intro d
  induction d with
  | zero =>
    intro j hj
    obtain rfl : j = n := by omega
    refine zPs (pc1 := 6) (l1 := [(3, .int (i32 j)), (2, .int (oI 0 (bestN z a j))), (0, .ref 292), (1, .int (i32 a))]) (st1 := [.ref 292, .int (i32 j)]) 2 rfl rfl rfl ?_
    refine zGetI (v := i32 j) rfl rfl icNum hn ?_
    refine nCge (a := j) (b := j) (by omega) (by omega) rfl (fun h1 => ?_) (fun h1 => absurd (Nat.le_refl _) h1)
    refine zPs (pc1 := 100) (l1 := [(3, .int (i32 j)), (2, .int (oI 0 (bestN z a j))), (0, .ref 292), (1, .int (i32 a))]) (st1 := [.int (oI 0 (bestN z a j))]) 1 rfl rfl rfl ?_
    refine zRi rfl rfl ?_
    exact k
  | succ d ih =>
    intro j hj
    have hjl : j < n := by omega
    cases hb : bestN z a j with
    | none =>
      refine zMl (ml' := [(3, .int (i32 j)), (2, .int (-1 : Int32)), (0, .ref 292), (1, .int (i32 a))]) ⟨rfl, rfl, rfl, rfl, trivial⟩ rfl rfl ?_
      refine zPs (pc1 := 6) (l1 := [(3, .int (i32 j)), (2, .int (-1 : Int32)), (0, .ref 292), (1, .int (i32 a))]) (st1 := [.ref 292, .int (i32 j)]) 2 rfl rfl rfl ?_
      refine zGetI (v := i32 n) rfl rfl icNum hn ?_
      refine nCge (a := j) (b := n) (by omega) (by omega) rfl (fun h1 => absurd h1 (by omega)) (fun h1 => ?_)
      refine zPs (pc1 := 14) (l1 := [(3, .int (i32 j)), (2, .int (-1 : Int32)), (0, .ref 292), (1, .int (i32 a))]) (st1 := [.int (i32 j), .ref 292]) 2 rfl rfl rfl ?_
      refine zCv (mj := 128) (k := 292) (n := 1) rfl rfl rfl rfl (by decide) rfl rfl rfl rfl rfl rfl ?_
      refine c_128 (by omega) (fun h2 => ?_) (fun h3 => ?_)
      · refine kI ?_
        refine zPs (pc1 := 21) (l1 := [(3, .int (i32 j)), (2, .int (-1 : Int32)), (0, .ref 292), (1, .int (i32 a))]) (st1 := [.ref 292]) 2 rfl rfl rfl ?_
        refine zGetR (r := 327) rfl rfl ⟨by decide, rfl, by decide, rfl⟩ ?_
        refine zPs (pc1 := 25) (l1 := [(3, .int (i32 j)), (2, .int (-1 : Int32)), (0, .ref 292), (1, .int (i32 a))]) (st1 := [.int (i32 a), .ref 327]) 1 rfl rfl rfl ?_
        refine zIal (n := a) (v := z 327 a) rfl (icM (k := 327) (L := 6) rfl ha) rfl ?_
        refine zPs (pc1 := 27) (l1 := [(3, .int (i32 j)), (2, .int (-1 : Int32)), (0, .ref 292), (1, .int (i32 a))]) (st1 := [.ref 292, .int (z 327 a)]) 1 rfl rfl rfl ?_
        refine zGetR (r := 320) rfl rfl ⟨by decide, rfl, by decide, rfl⟩ ?_
        refine zPs (pc1 := 31) (l1 := [(3, .int (i32 j)), (2, .int (-1 : Int32)), (0, .ref 292), (1, .int (i32 a))]) (st1 := [.int (i32 j), .ref 320, .int (z 327 a)]) 1 rfl rfl rfl ?_
        refine zIal (n := j) (v := z 320 j) rfl (icM (k := 320) (L := 60) rfl (by omega)) rfl ?_
        refine zPs (pc1 := 36) (l1 := [(3, .int (i32 j)), (2, .int (-1 : Int32)), (0, .ref 292), (1, .int (i32 a))]) (st1 := [.int (1 : Int32), .int ((z 327 a >>> (z 320 j &&& 31)) &&& (1 : Int32))]) 4 rfl rfl rfl ?_
        refine zCn rfl (fun h4 => ?_) (fun h4 => ?_)
        · refine zPs (pc1 := 96) (l1 := [(3, .int (i32 j + (1 : Int32))), (2, .int (-1 : Int32)), (4, .int (0 : Int32)), (0, .ref 292), (1, .int (i32 a))]) (st1 := []) 7 rfl rfl rfl ?_
          refine zTo (ml' := [(3, .int (i32 (j + 1))), (2, .int (-1 : Int32)), (4, .int (0 : Int32)), (0, .ref 292), (1, .int (i32 a))]) (st' := []) (by rw [show (i32 j + (1 : Int32)) = i32 (j + 1) from i32_add j 1]) rfl ?_
          refine zPs (pc1 := 4) (l1 := [(3, .int (i32 (j + 1))), (2, .int (-1 : Int32)), (4, .int (0 : Int32)), (0, .ref 292), (1, .int (i32 a))]) (st1 := []) 1 rfl rfl rfl ?_
          refine zMl (ml' := [(3, .int (i32 (j + 1))), (2, .int (oI 0 (bestN z a (j + 1)))), (0, .ref 292), (1, .int (i32 a))]) ⟨rfl, (by first | (rw [bestN_no1 (by grind), hb]; rfl) | (rw [bestN_no2 hb (by assumption), hb]; show some (Value.int (i32 b)) = some (Value.int (i32 (0 + b))); rw [Nat.zero_add]) | (rw [bestN_no1 (by grind), hb]; show some (Value.int (i32 b)) = some (Value.int (i32 (0 + b))); rw [Nat.zero_add])), rfl, rfl, trivial⟩ rfl rfl ?_
          exact ih (j + 1) (by omega)
        · refine zPs (pc1 := 40) (l1 := [(3, .int (i32 j)), (2, .int (-1 : Int32)), (0, .ref 292), (1, .int (i32 a))]) (st1 := [.ref 292]) 1 rfl rfl rfl ?_
          refine zGetR (r := 311) rfl rfl ⟨by decide, rfl, by decide, rfl⟩ ?_
          refine zPs (pc1 := 44) (l1 := [(3, .int (i32 j)), (2, .int (-1 : Int32)), (0, .ref 292), (1, .int (i32 a))]) (st1 := [.int (i32 j), .ref 311]) 1 rfl rfl rfl ?_
          refine zIal (n := j) (v := z 311 j) rfl (icM (k := 311) (L := 60) rfl (by omega)) rfl ?_
          refine zPs (pc1 := 46) (l1 := [(3, .int (i32 j)), (2, .int (-1 : Int32)), (0, .ref 292), (1, .int (i32 a))]) (st1 := [.int (1 : Int32), .int (z 311 j)]) 1 rfl rfl rfl ?_
          refine zCe rfl (fun h5 => ?_) (fun h5 => ?_)
          · refine zPs (pc1 := 96) (l1 := [(3, .int (i32 j + (1 : Int32))), (2, .int (i32 j)), (4, .int (1 : Int32)), (0, .ref 292), (1, .int (i32 a))]) (st1 := []) 11 rfl rfl rfl ?_
            refine zTo (ml' := [(3, .int (i32 (j + 1))), (2, .int (i32 j)), (4, .int (1 : Int32)), (0, .ref 292), (1, .int (i32 a))]) (st' := []) (by rw [show (i32 j + (1 : Int32)) = i32 (j + 1) from i32_add j 1]) rfl ?_
            refine zPs (pc1 := 4) (l1 := [(3, .int (i32 (j + 1))), (2, .int (i32 j)), (4, .int (1 : Int32)), (0, .ref 292), (1, .int (i32 a))]) (st1 := []) 1 rfl rfl rfl ?_
            refine zMl (ml' := [(3, .int (i32 (j + 1))), (2, .int (oI 0 (bestN z a (j + 1)))), (0, .ref 292), (1, .int (i32 a))]) ⟨rfl, (by rw [bestN_yes (by grind) (by grind)]; show some (Value.int (i32 j)) = some (Value.int (i32 (0 + j))); rw [Nat.zero_add]), rfl, rfl, trivial⟩ rfl rfl ?_
            exact ih (j + 1) (by omega)
          · refine zPs (pc1 := 50) (l1 := [(3, .int (i32 j)), (2, .int (-1 : Int32)), (0, .ref 292), (1, .int (i32 a))]) (st1 := [.ref 292]) 1 rfl rfl rfl ?_
            refine zGetR (r := 324) rfl rfl ⟨by decide, rfl, by decide, rfl⟩ ?_
            refine zPs (pc1 := 54) (l1 := [(3, .int (i32 j)), (2, .int (-1 : Int32)), (0, .ref 292), (1, .int (i32 a))]) (st1 := [.int (i32 j), .ref 324]) 1 rfl rfl rfl ?_
            refine zIal (n := j) (v := z 324 j) rfl (icM (k := 324) (L := 60) rfl (by omega)) rfl ?_
            refine zPs (pc1 := 56) (l1 := [(3, .int (i32 j)), (2, .int (-1 : Int32)), (0, .ref 292), (1, .int (i32 a))]) (st1 := [.ref 292, .int (z 324 j)]) 1 rfl rfl rfl ?_
            refine zGetI (v := z 292 0) rfl rfl icTime rfl ?_
            refine zCgt rfl (fun h6 => ?_) (fun h6 => ?_)
            · refine zPs (pc1 := 96) (l1 := [(3, .int (i32 j + (1 : Int32))), (2, .int (-1 : Int32)), (4, .int (0 : Int32)), (0, .ref 292), (1, .int (i32 a))]) (st1 := []) 7 rfl rfl rfl ?_
              refine zTo (ml' := [(3, .int (i32 (j + 1))), (2, .int (-1 : Int32)), (4, .int (0 : Int32)), (0, .ref 292), (1, .int (i32 a))]) (st' := []) (by rw [show (i32 j + (1 : Int32)) = i32 (j + 1) from i32_add j 1]) rfl ?_
              refine zPs (pc1 := 4) (l1 := [(3, .int (i32 (j + 1))), (2, .int (-1 : Int32)), (4, .int (0 : Int32)), (0, .ref 292), (1, .int (i32 a))]) (st1 := []) 1 rfl rfl rfl ?_
              refine zMl (ml' := [(3, .int (i32 (j + 1))), (2, .int (oI 0 (bestN z a (j + 1)))), (0, .ref 292), (1, .int (i32 a))]) ⟨rfl, (by first | (rw [bestN_no1 (by grind), hb]; rfl) | (rw [bestN_no2 hb (by assumption), hb]; show some (Value.int (i32 b)) = some (Value.int (i32 (0 + b))); rw [Nat.zero_add]) | (rw [bestN_no1 (by grind), hb]; show some (Value.int (i32 b)) = some (Value.int (i32 (0 + b))); rw [Nat.zero_add])), rfl, rfl, trivial⟩ rfl rfl ?_
              exact ih (j + 1) (by omega)
            · refine zPs (pc1 := 96) (l1 := [(3, .int (i32 j + (1 : Int32))), (2, .int (i32 j)), (4, .int (1 : Int32)), (0, .ref 292), (1, .int (i32 a))]) (st1 := []) 11 rfl rfl rfl ?_
              refine zTo (ml' := [(3, .int (i32 (j + 1))), (2, .int (i32 j)), (4, .int (1 : Int32)), (0, .ref 292), (1, .int (i32 a))]) (st' := []) (by rw [show (i32 j + (1 : Int32)) = i32 (j + 1) from i32_add j 1]) rfl ?_
              refine zPs (pc1 := 4) (l1 := [(3, .int (i32 (j + 1))), (2, .int (i32 j)), (4, .int (1 : Int32)), (0, .ref 292), (1, .int (i32 a))]) (st1 := []) 1 rfl rfl rfl ?_
              refine zMl (ml' := [(3, .int (i32 (j + 1))), (2, .int (oI 0 (bestN z a (j + 1)))), (0, .ref 292), (1, .int (i32 a))]) ⟨rfl, (by rw [bestN_yes (by grind) (by grind)]; show some (Value.int (i32 j)) = some (Value.int (i32 (0 + j))); rw [Nat.zero_add]), rfl, rfl, trivial⟩ rfl rfl ?_
              exact ih (j + 1) (by omega)
      · refine kI ?_
        refine zPs (pc1 := 96) (l1 := [(3, .int (i32 j + (1 : Int32))), (2, .int (-1 : Int32)), (4, .int (0 : Int32)), (0, .ref 292), (1, .int (i32 a))]) (st1 := []) 8 rfl rfl rfl ?_
        refine zTo (ml' := [(3, .int (i32 (j + 1))), (2, .int (-1 : Int32)), (4, .int (0 : Int32)), (0, .ref 292), (1, .int (i32 a))]) (st' := []) (by rw [show (i32 j + (1 : Int32)) = i32 (j + 1) from i32_add j 1]) rfl ?_
        refine zPs (pc1 := 4) (l1 := [(3, .int (i32 (j + 1))), (2, .int (-1 : Int32)), (4, .int (0 : Int32)), (0, .ref 292), (1, .int (i32 a))]) (st1 := []) 1 rfl rfl rfl ?_
        refine zMl (ml' := [(3, .int (i32 (j + 1))), (2, .int (oI 0 (bestN z a (j + 1)))), (0, .ref 292), (1, .int (i32 a))]) ⟨rfl, (by first | (rw [bestN_no1 (by grind), hb]; rfl) | (rw [bestN_no2 hb (by assumption), hb]; show some (Value.int (i32 b)) = some (Value.int (i32 (0 + b))); rw [Nat.zero_add]) | (rw [bestN_no1 (by grind), hb]; show some (Value.int (i32 b)) = some (Value.int (i32 (0 + b))); rw [Nat.zero_add])), rfl, rfl, trivial⟩ rfl rfl ?_
        exact ih (j + 1) (by omega)
    | some b =>
      have hbj := bestN_lt hb
      refine zMl (ml' := [(3, .int (i32 j)), (2, .int (i32 b)), (0, .ref 292), (1, .int (i32 a))]) ⟨rfl, (by show some (Value.int (i32 (0 + b))) = _; rw [Nat.zero_add]), rfl, rfl, trivial⟩ rfl rfl ?_
      refine zPs (pc1 := 6) (l1 := [(3, .int (i32 j)), (2, .int (i32 b)), (0, .ref 292), (1, .int (i32 a))]) (st1 := [.ref 292, .int (i32 j)]) 2 rfl rfl rfl ?_
      refine zGetI (v := i32 n) rfl rfl icNum hn ?_
      refine nCge (a := j) (b := n) (by omega) (by omega) rfl (fun h1 => absurd h1 (by omega)) (fun h1 => ?_)
      refine zPs (pc1 := 14) (l1 := [(3, .int (i32 j)), (2, .int (i32 b)), (0, .ref 292), (1, .int (i32 a))]) (st1 := [.int (i32 j), .ref 292]) 2 rfl rfl rfl ?_
      refine zCv (mj := 128) (k := 292) (n := 1) rfl rfl rfl rfl (by decide) rfl rfl rfl rfl rfl rfl ?_
      refine c_128 (by omega) (fun h2 => ?_) (fun h3 => ?_)
      · refine kI ?_
        refine zPs (pc1 := 21) (l1 := [(3, .int (i32 j)), (2, .int (i32 b)), (0, .ref 292), (1, .int (i32 a))]) (st1 := [.ref 292]) 2 rfl rfl rfl ?_
        refine zGetR (r := 327) rfl rfl ⟨by decide, rfl, by decide, rfl⟩ ?_
        refine zPs (pc1 := 25) (l1 := [(3, .int (i32 j)), (2, .int (i32 b)), (0, .ref 292), (1, .int (i32 a))]) (st1 := [.int (i32 a), .ref 327]) 1 rfl rfl rfl ?_
        refine zIal (n := a) (v := z 327 a) rfl (icM (k := 327) (L := 6) rfl ha) rfl ?_
        refine zPs (pc1 := 27) (l1 := [(3, .int (i32 j)), (2, .int (i32 b)), (0, .ref 292), (1, .int (i32 a))]) (st1 := [.ref 292, .int (z 327 a)]) 1 rfl rfl rfl ?_
        refine zGetR (r := 320) rfl rfl ⟨by decide, rfl, by decide, rfl⟩ ?_
        refine zPs (pc1 := 31) (l1 := [(3, .int (i32 j)), (2, .int (i32 b)), (0, .ref 292), (1, .int (i32 a))]) (st1 := [.int (i32 j), .ref 320, .int (z 327 a)]) 1 rfl rfl rfl ?_
        refine zIal (n := j) (v := z 320 j) rfl (icM (k := 320) (L := 60) rfl (by omega)) rfl ?_
        refine zPs (pc1 := 36) (l1 := [(3, .int (i32 j)), (2, .int (i32 b)), (0, .ref 292), (1, .int (i32 a))]) (st1 := [.int (1 : Int32), .int ((z 327 a >>> (z 320 j &&& 31)) &&& (1 : Int32))]) 4 rfl rfl rfl ?_
        refine zCn rfl (fun h4 => ?_) (fun h4 => ?_)
        · refine zPs (pc1 := 96) (l1 := [(3, .int (i32 j + (1 : Int32))), (2, .int (i32 b)), (4, .int (0 : Int32)), (0, .ref 292), (1, .int (i32 a))]) (st1 := []) 7 rfl rfl rfl ?_
          refine zTo (ml' := [(3, .int (i32 (j + 1))), (2, .int (i32 b)), (4, .int (0 : Int32)), (0, .ref 292), (1, .int (i32 a))]) (st' := []) (by rw [show (i32 j + (1 : Int32)) = i32 (j + 1) from i32_add j 1]) rfl ?_
          refine zPs (pc1 := 4) (l1 := [(3, .int (i32 (j + 1))), (2, .int (i32 b)), (4, .int (0 : Int32)), (0, .ref 292), (1, .int (i32 a))]) (st1 := []) 1 rfl rfl rfl ?_
          refine zMl (ml' := [(3, .int (i32 (j + 1))), (2, .int (oI 0 (bestN z a (j + 1)))), (0, .ref 292), (1, .int (i32 a))]) ⟨rfl, (by first | (rw [bestN_no1 (by grind), hb]; rfl) | (rw [bestN_no2 hb (by assumption), hb]; show some (Value.int (i32 b)) = some (Value.int (i32 (0 + b))); rw [Nat.zero_add]) | (rw [bestN_no1 (by grind), hb]; show some (Value.int (i32 b)) = some (Value.int (i32 (0 + b))); rw [Nat.zero_add])), rfl, rfl, trivial⟩ rfl rfl ?_
          exact ih (j + 1) (by omega)
        · refine zPs (pc1 := 40) (l1 := [(3, .int (i32 j)), (2, .int (i32 b)), (0, .ref 292), (1, .int (i32 a))]) (st1 := [.ref 292]) 1 rfl rfl rfl ?_
          refine zGetR (r := 311) rfl rfl ⟨by decide, rfl, by decide, rfl⟩ ?_
          refine zPs (pc1 := 44) (l1 := [(3, .int (i32 j)), (2, .int (i32 b)), (0, .ref 292), (1, .int (i32 a))]) (st1 := [.int (i32 j), .ref 311]) 1 rfl rfl rfl ?_
          refine zIal (n := j) (v := z 311 j) rfl (icM (k := 311) (L := 60) rfl (by omega)) rfl ?_
          refine zPs (pc1 := 46) (l1 := [(3, .int (i32 j)), (2, .int (i32 b)), (0, .ref 292), (1, .int (i32 a))]) (st1 := [.int (1 : Int32), .int (z 311 j)]) 1 rfl rfl rfl ?_
          refine zCe rfl (fun h5 => ?_) (fun h5 => ?_)
          · refine zPs (pc1 := 75) (l1 := [(4, .int (1 : Int32)), (3, .int (i32 j)), (2, .int (i32 b)), (0, .ref 292), (1, .int (i32 a))]) (st1 := [.int (i32 b)]) 6 rfl rfl rfl ?_
            refine nIlt (a := b) (by omega) rfl ?_
            refine zPs (pc1 := 81) (l1 := [(4, .int (1 : Int32)), (3, .int (i32 j)), (2, .int (i32 b)), (0, .ref 292), (1, .int (i32 a))]) (st1 := [.int (i32 b), .int (i32 j), .ref 292]) 3 rfl rfl rfl ?_
            refine zCv (mj := 131) (k := 292) (n := 2) rfl rfl rfl rfl (by decide) rfl rfl rfl rfl rfl rfl ?_
            refine c_131 (by omega) (by omega) (fun h7 => ?_) (fun h8 => ?_)
            · refine kI ?_
              refine zPs (pc1 := 96) (l1 := [(3, .int (i32 j + (1 : Int32))), (2, .int (i32 j)), (4, .int (1 : Int32)), (0, .ref 292), (1, .int (i32 a))]) (st1 := []) 5 rfl rfl rfl ?_
              refine zTo (ml' := [(3, .int (i32 (j + 1))), (2, .int (i32 j)), (4, .int (1 : Int32)), (0, .ref 292), (1, .int (i32 a))]) (st' := []) (by rw [show (i32 j + (1 : Int32)) = i32 (j + 1) from i32_add j 1]) rfl ?_
              refine zPs (pc1 := 4) (l1 := [(3, .int (i32 (j + 1))), (2, .int (i32 j)), (4, .int (1 : Int32)), (0, .ref 292), (1, .int (i32 a))]) (st1 := []) 1 rfl rfl rfl ?_
              refine zMl (ml' := [(3, .int (i32 (j + 1))), (2, .int (oI 0 (bestN z a (j + 1)))), (0, .ref 292), (1, .int (i32 a))]) ⟨rfl, (by rw [bestN_yes (by grind) (by grind)]; show some (Value.int (i32 j)) = some (Value.int (i32 (0 + j))); rw [Nat.zero_add]), rfl, rfl, trivial⟩ rfl rfl ?_
              exact ih (j + 1) (by omega)
            · refine kI ?_
              refine zPs (pc1 := 96) (l1 := [(3, .int (i32 j + (1 : Int32))), (2, .int (i32 b)), (4, .int (1 : Int32)), (0, .ref 292), (1, .int (i32 a))]) (st1 := []) 4 rfl rfl rfl ?_
              refine zTo (ml' := [(3, .int (i32 (j + 1))), (2, .int (i32 b)), (4, .int (1 : Int32)), (0, .ref 292), (1, .int (i32 a))]) (st' := []) (by rw [show (i32 j + (1 : Int32)) = i32 (j + 1) from i32_add j 1]) rfl ?_
              refine zPs (pc1 := 4) (l1 := [(3, .int (i32 (j + 1))), (2, .int (i32 b)), (4, .int (1 : Int32)), (0, .ref 292), (1, .int (i32 a))]) (st1 := []) 1 rfl rfl rfl ?_
              refine zMl (ml' := [(3, .int (i32 (j + 1))), (2, .int (oI 0 (bestN z a (j + 1)))), (0, .ref 292), (1, .int (i32 a))]) ⟨rfl, (by first | (rw [bestN_no1 (by grind), hb]; rfl) | (rw [bestN_no2 hb (by assumption), hb]; show some (Value.int (i32 b)) = some (Value.int (i32 (0 + b))); rw [Nat.zero_add]) | (rw [bestN_no1 (by grind), hb]; show some (Value.int (i32 b)) = some (Value.int (i32 (0 + b))); rw [Nat.zero_add])), rfl, rfl, trivial⟩ rfl rfl ?_
              exact ih (j + 1) (by omega)
          · refine zPs (pc1 := 50) (l1 := [(3, .int (i32 j)), (2, .int (i32 b)), (0, .ref 292), (1, .int (i32 a))]) (st1 := [.ref 292]) 1 rfl rfl rfl ?_
            refine zGetR (r := 324) rfl rfl ⟨by decide, rfl, by decide, rfl⟩ ?_
            refine zPs (pc1 := 54) (l1 := [(3, .int (i32 j)), (2, .int (i32 b)), (0, .ref 292), (1, .int (i32 a))]) (st1 := [.int (i32 j), .ref 324]) 1 rfl rfl rfl ?_
            refine zIal (n := j) (v := z 324 j) rfl (icM (k := 324) (L := 60) rfl (by omega)) rfl ?_
            refine zPs (pc1 := 56) (l1 := [(3, .int (i32 j)), (2, .int (i32 b)), (0, .ref 292), (1, .int (i32 a))]) (st1 := [.ref 292, .int (z 324 j)]) 1 rfl rfl rfl ?_
            refine zGetI (v := z 292 0) rfl rfl icTime rfl ?_
            refine zCgt rfl (fun h9 => ?_) (fun h9 => ?_)
            · refine zPs (pc1 := 96) (l1 := [(3, .int (i32 j + (1 : Int32))), (2, .int (i32 b)), (4, .int (0 : Int32)), (0, .ref 292), (1, .int (i32 a))]) (st1 := []) 7 rfl rfl rfl ?_
              refine zTo (ml' := [(3, .int (i32 (j + 1))), (2, .int (i32 b)), (4, .int (0 : Int32)), (0, .ref 292), (1, .int (i32 a))]) (st' := []) (by rw [show (i32 j + (1 : Int32)) = i32 (j + 1) from i32_add j 1]) rfl ?_
              refine zPs (pc1 := 4) (l1 := [(3, .int (i32 (j + 1))), (2, .int (i32 b)), (4, .int (0 : Int32)), (0, .ref 292), (1, .int (i32 a))]) (st1 := []) 1 rfl rfl rfl ?_
              refine zMl (ml' := [(3, .int (i32 (j + 1))), (2, .int (oI 0 (bestN z a (j + 1)))), (0, .ref 292), (1, .int (i32 a))]) ⟨rfl, (by first | (rw [bestN_no1 (by grind), hb]; rfl) | (rw [bestN_no2 hb (by assumption), hb]; show some (Value.int (i32 b)) = some (Value.int (i32 (0 + b))); rw [Nat.zero_add]) | (rw [bestN_no1 (by grind), hb]; show some (Value.int (i32 b)) = some (Value.int (i32 (0 + b))); rw [Nat.zero_add])), rfl, rfl, trivial⟩ rfl rfl ?_
              exact ih (j + 1) (by omega)
            · refine zPs (pc1 := 75) (l1 := [(4, .int (1 : Int32)), (3, .int (i32 j)), (2, .int (i32 b)), (0, .ref 292), (1, .int (i32 a))]) (st1 := [.int (i32 b)]) 6 rfl rfl rfl ?_
              refine nIlt (a := b) (by omega) rfl ?_
              refine zPs (pc1 := 81) (l1 := [(4, .int (1 : Int32)), (3, .int (i32 j)), (2, .int (i32 b)), (0, .ref 292), (1, .int (i32 a))]) (st1 := [.int (i32 b), .int (i32 j), .ref 292]) 3 rfl rfl rfl ?_
              refine zCv (mj := 131) (k := 292) (n := 2) rfl rfl rfl rfl (by decide) rfl rfl rfl rfl rfl rfl ?_
              refine c_131 (by omega) (by omega) (fun h11 => ?_) (fun h12 => ?_)
              · refine kI ?_
                refine zPs (pc1 := 96) (l1 := [(3, .int (i32 j + (1 : Int32))), (2, .int (i32 j)), (4, .int (1 : Int32)), (0, .ref 292), (1, .int (i32 a))]) (st1 := []) 5 rfl rfl rfl ?_
                refine zTo (ml' := [(3, .int (i32 (j + 1))), (2, .int (i32 j)), (4, .int (1 : Int32)), (0, .ref 292), (1, .int (i32 a))]) (st' := []) (by rw [show (i32 j + (1 : Int32)) = i32 (j + 1) from i32_add j 1]) rfl ?_
                refine zPs (pc1 := 4) (l1 := [(3, .int (i32 (j + 1))), (2, .int (i32 j)), (4, .int (1 : Int32)), (0, .ref 292), (1, .int (i32 a))]) (st1 := []) 1 rfl rfl rfl ?_
                refine zMl (ml' := [(3, .int (i32 (j + 1))), (2, .int (oI 0 (bestN z a (j + 1)))), (0, .ref 292), (1, .int (i32 a))]) ⟨rfl, (by rw [bestN_yes (by grind) (by grind)]; show some (Value.int (i32 j)) = some (Value.int (i32 (0 + j))); rw [Nat.zero_add]), rfl, rfl, trivial⟩ rfl rfl ?_
                exact ih (j + 1) (by omega)
              · refine kI ?_
                refine zPs (pc1 := 96) (l1 := [(3, .int (i32 j + (1 : Int32))), (2, .int (i32 b)), (4, .int (1 : Int32)), (0, .ref 292), (1, .int (i32 a))]) (st1 := []) 4 rfl rfl rfl ?_
                refine zTo (ml' := [(3, .int (i32 (j + 1))), (2, .int (i32 b)), (4, .int (1 : Int32)), (0, .ref 292), (1, .int (i32 a))]) (st' := []) (by rw [show (i32 j + (1 : Int32)) = i32 (j + 1) from i32_add j 1]) rfl ?_
                refine zPs (pc1 := 4) (l1 := [(3, .int (i32 (j + 1))), (2, .int (i32 b)), (4, .int (1 : Int32)), (0, .ref 292), (1, .int (i32 a))]) (st1 := []) 1 rfl rfl rfl ?_
                refine zMl (ml' := [(3, .int (i32 (j + 1))), (2, .int (oI 0 (bestN z a (j + 1)))), (0, .ref 292), (1, .int (i32 a))]) ⟨rfl, (by first | (rw [bestN_no1 (by grind), hb]; rfl) | (rw [bestN_no2 hb (by assumption), hb]; show some (Value.int (i32 b)) = some (Value.int (i32 (0 + b))); rw [Nat.zero_add]) | (rw [bestN_no1 (by grind), hb]; show some (Value.int (i32 b)) = some (Value.int (i32 (0 + b))); rw [Nat.zero_add])), rfl, rfl, trivial⟩ rfl rfl ?_
                exact ih (j + 1) (by omega)
      · refine kI ?_
        refine zPs (pc1 := 96) (l1 := [(3, .int (i32 j + (1 : Int32))), (2, .int (i32 b)), (4, .int (0 : Int32)), (0, .ref 292), (1, .int (i32 a))]) (st1 := []) 8 rfl rfl rfl ?_
        refine zTo (ml' := [(3, .int (i32 (j + 1))), (2, .int (i32 b)), (4, .int (0 : Int32)), (0, .ref 292), (1, .int (i32 a))]) (st' := []) (by rw [show (i32 j + (1 : Int32)) = i32 (j + 1) from i32_add j 1]) rfl ?_
        refine zPs (pc1 := 4) (l1 := [(3, .int (i32 (j + 1))), (2, .int (i32 b)), (4, .int (0 : Int32)), (0, .ref 292), (1, .int (i32 a))]) (st1 := []) 1 rfl rfl rfl ?_
        refine zMl (ml' := [(3, .int (i32 (j + 1))), (2, .int (oI 0 (bestN z a (j + 1)))), (0, .ref 292), (1, .int (i32 a))]) ⟨rfl, (by first | (rw [bestN_no1 (by grind), hb]; rfl) | (rw [bestN_no2 hb (by assumption), hb]; show some (Value.int (i32 b)) = some (Value.int (i32 (0 + b))); rw [Nat.zero_add]) | (rw [bestN_no1 (by grind), hb]; show some (Value.int (i32 b)) = some (Value.int (i32 (0 + b))); rw [Nat.zero_add])), rfl, rfl, trivial⟩ rfl rfl ?_
        exact ih (j + 1) (by omega)
theorem c_147 {z : Sg} {P : MO → Sg → Prop} {n a : Nat} (hl : n ≤ 60) (hn : z 292 19 = i32 n) (ha : a < 6) (k1 : ∀ b, bestN z a n = some b → b < n → P (.inl (some (.int (i32 b)))) z) (k0 : bestN z a n = none → P (.inl (some (.int (-1)))) z) : Es true 147 [.ref 292, .int (i32 a)] z P := by
  have k : P (.inl (some (.int (oI 0 (bestN z a n))))) z := by
    cases h : bestN z a n with
    | none => exact k0 h
    | some b =>
      have := k1 b h (bestN_lt h)
      rw [oI, Nat.zero_add]
      exact this
  refine Es.of ?_
  refine zPs (pc1 := 4) (l1 := [(3, .int (0 : Int32)), (2, .int (-1 : Int32)), (0, .ref 292), (1, .int (i32 a))]) (st1 := []) 4 rfl rfl rfl ?_
  refine zMl (ml' := [(3, .int (i32 0)), (2, .int (oI 0 (bestN z a 0))), (0, .ref 292), (1, .int (i32 a))]) ⟨rfl, rfl, rfl, rfl, trivial⟩ rfl rfl ?_
  exact l_147 hl hn ha k n 0 (by omega)
