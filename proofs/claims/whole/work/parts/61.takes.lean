/-! ===== the model: takes ===== -/
abbrev canA (z : Sg) (n k : Nat) : Prop := z 326 k = 1 ∧ ¬ bestN z k n = none
noncomputable def takerN (z : Sg) (n : Nat) : Nat → Option Nat
  | 0 => none
  | j + 1 => @ite _ (canA z n j ∧ (∀ b, takerN z n j = some b → z 328 j < z 328 b)) (Classical.propDecidable _) (some j) (takerN z n j)
theorem takerN_yes {z : Sg} {n j : Nat} (h1 : canA z n j) (h2 : ∀ b, takerN z n j = some b → z 328 j < z 328 b) : takerN z n (j + 1) = some j := by
  rw [takerN, if_pos ⟨h1, h2⟩]
theorem takerN_no1 {z : Sg} {n j : Nat} (h : ¬ canA z n j) : takerN z n (j + 1) = takerN z n j := by
  rw [takerN, if_neg (fun q => h q.1)]
theorem takerN_no2 {z : Sg} {n j b : Nat} (hb : takerN z n j = some b) (h : ¬ z 328 j < z 328 b) : takerN z n (j + 1) = takerN z n j := by
  rw [takerN, if_neg (fun q => h (q.2 b hb))]
theorem takerN_lt {z : Sg} {n : Nat} : ∀ {j b : Nat}, takerN z n j = some b → b < j ∧ canA z n b
  | j + 1, b, h => by
    unfold takerN at h
    split at h
    · rename_i h2; cases h; exact ⟨Nat.lt_succ_self _, h2.1⟩
    · have := takerN_lt h; exact ⟨Nat.lt_succ_of_lt this.1, this.2⟩
theorem l_148 {z : Sg} {P : MO → Sg → Prop} {rc rs : Nat} {n : Nat} (hl : n ≤ 60) (hn : z 292 19 = i32 n) (k : P (.inl (some (.int (oI 0 (takerN z n 6))))) z) : ∀ d j, j + d = 6 → Ws true 148 rc rs 4 [(2, .int (i32 j)), (1, .int (oI 0 (takerN z n j))), (0, .ref 292)] [] z P := by
  intro d
  induction d with
  | zero =>
    intro j hj
    obtain rfl : j = 6 := by omega
    refine zPs (pc1 := 7) (l1 := [(2, .int (i32 6)), (1, .int (oI 0 (takerN z n 6))), (0, .ref 292)]) (st1 := [.int (6 : Int32), .int (i32 6)]) 2 rfl rfl rfl ?_
    refine nCge (a := 6) (b := 6) (by omega) (by omega) rfl (fun h1 => ?_) (fun h1 => absurd (Nat.le_refl _) h1)
    refine zPs (pc1 := 70) (l1 := [(2, .int (i32 6)), (1, .int (oI 0 (takerN z n 6))), (0, .ref 292)]) (st1 := [.int (oI 0 (takerN z n 6))]) 1 rfl rfl rfl ?_
    refine zRi rfl rfl ?_
    exact k
  | succ d ih =>
    intro j hj
    have hjl : j < 6 := by omega
    cases hb : takerN z n j with
    | none =>
      refine zMl (ml' := [(2, .int (i32 j)), (1, .int (-1 : Int32)), (0, .ref 292)]) ⟨rfl, rfl, rfl, trivial⟩ rfl rfl ?_
      refine zPs (pc1 := 7) (l1 := [(2, .int (i32 j)), (1, .int (-1 : Int32)), (0, .ref 292)]) (st1 := [.int (6 : Int32), .int (i32 j)]) 2 rfl rfl rfl ?_
      refine nCge (a := j) (b := 6) (by omega) (by omega) rfl (fun h1 => absurd h1 (by omega)) (fun h1 => ?_)
      refine zPs (pc1 := 11) (l1 := [(2, .int (i32 j)), (1, .int (-1 : Int32)), (0, .ref 292)]) (st1 := [.ref 292]) 1 rfl rfl rfl ?_
      refine zGetR (r := 326) rfl rfl ⟨by decide, rfl, by decide, rfl⟩ ?_
      refine zPs (pc1 := 15) (l1 := [(2, .int (i32 j)), (1, .int (-1 : Int32)), (0, .ref 292)]) (st1 := [.int (i32 j), .ref 326]) 1 rfl rfl rfl ?_
      refine zIal (n := j) (v := z 326 j) rfl (icM (k := 326) (L := 6) rfl (by omega)) rfl ?_
      refine zPs (pc1 := 17) (l1 := [(2, .int (i32 j)), (1, .int (-1 : Int32)), (0, .ref 292)]) (st1 := [.int (1 : Int32), .int (z 326 j)]) 1 rfl rfl rfl ?_
      refine zCn rfl (fun h2 => ?_) (fun h2 => ?_)
      · refine zPs (pc1 := 66) (l1 := [(2, .int (i32 j + (1 : Int32))), (1, .int (-1 : Int32)), (3, .int (0 : Int32)), (0, .ref 292)]) (st1 := []) 7 rfl rfl rfl ?_
        refine zTo (ml' := [(2, .int (i32 (j + 1))), (1, .int (-1 : Int32)), (3, .int (0 : Int32)), (0, .ref 292)]) (st' := []) (by rw [show (i32 j + (1 : Int32)) = i32 (j + 1) from i32_add j 1]) rfl ?_
        refine zPs (pc1 := 4) (l1 := [(2, .int (i32 (j + 1))), (1, .int (-1 : Int32)), (3, .int (0 : Int32)), (0, .ref 292)]) (st1 := []) 1 rfl rfl rfl ?_
        refine zMl (ml' := [(2, .int (i32 (j + 1))), (1, .int (oI 0 (takerN z n (j + 1)))), (0, .ref 292)]) ⟨rfl, (by first | (rw [takerN_no1 (by grind), hb]; rfl) | (rw [takerN_no2 hb (by first | assumption | (rw [Int32.not_lt]; assumption)), hb]; show some (Value.int (i32 b)) = some (Value.int (i32 (0 + b))); rw [Nat.zero_add]) | (rw [takerN_no1 (by grind), hb]; show some (Value.int (i32 b)) = some (Value.int (i32 (0 + b))); rw [Nat.zero_add])), rfl, trivial⟩ rfl rfl ?_
        exact ih (j + 1) (by omega)
      · refine zPs (pc1 := 22) (l1 := [(2, .int (i32 j)), (1, .int (-1 : Int32)), (0, .ref 292)]) (st1 := [.int (i32 j), .ref 292]) 2 rfl rfl rfl ?_
        refine zCv (mj := 147) (k := 292) (n := 1) rfl rfl rfl rfl (by decide) rfl rfl rfl rfl rfl rfl ?_
        refine c_147 hl hn (by omega) (fun h3 h4 h5 => ?_) (fun h6 => ?_)
        · refine kI ?_
          refine nIlt (a := h3) (by omega) rfl ?_
          refine zPs (pc1 := 66) (l1 := [(2, .int (i32 j + (1 : Int32))), (1, .int (i32 j)), (3, .int (1 : Int32)), (0, .ref 292)]) (st1 := []) 11 rfl rfl rfl ?_
          refine zTo (ml' := [(2, .int (i32 (j + 1))), (1, .int (i32 j)), (3, .int (1 : Int32)), (0, .ref 292)]) (st' := []) (by rw [show (i32 j + (1 : Int32)) = i32 (j + 1) from i32_add j 1]) rfl ?_
          refine zPs (pc1 := 4) (l1 := [(2, .int (i32 (j + 1))), (1, .int (i32 j)), (3, .int (1 : Int32)), (0, .ref 292)]) (st1 := []) 1 rfl rfl rfl ?_
          refine zMl (ml' := [(2, .int (i32 (j + 1))), (1, .int (oI 0 (takerN z n (j + 1)))), (0, .ref 292)]) ⟨rfl, (by rw [takerN_yes (by grind) (by grind)]; show some (Value.int (i32 j)) = some (Value.int (i32 (0 + j))); rw [Nat.zero_add]), rfl, trivial⟩ rfl rfl ?_
          exact ih (j + 1) (by omega)
        · refine kI ?_
          refine zPs (pc1 := 66) (l1 := [(2, .int (i32 j + (1 : Int32))), (1, .int (-1 : Int32)), (3, .int (0 : Int32)), (0, .ref 292)]) (st1 := []) 8 rfl rfl rfl ?_
          refine zTo (ml' := [(2, .int (i32 (j + 1))), (1, .int (-1 : Int32)), (3, .int (0 : Int32)), (0, .ref 292)]) (st' := []) (by rw [show (i32 j + (1 : Int32)) = i32 (j + 1) from i32_add j 1]) rfl ?_
          refine zPs (pc1 := 4) (l1 := [(2, .int (i32 (j + 1))), (1, .int (-1 : Int32)), (3, .int (0 : Int32)), (0, .ref 292)]) (st1 := []) 1 rfl rfl rfl ?_
          refine zMl (ml' := [(2, .int (i32 (j + 1))), (1, .int (oI 0 (takerN z n (j + 1)))), (0, .ref 292)]) ⟨rfl, (by first | (rw [takerN_no1 (by grind), hb]; rfl) | (rw [takerN_no2 hb (by first | assumption | (rw [Int32.not_lt]; assumption)), hb]; show some (Value.int (i32 b)) = some (Value.int (i32 (0 + b))); rw [Nat.zero_add]) | (rw [takerN_no1 (by grind), hb]; show some (Value.int (i32 b)) = some (Value.int (i32 (0 + b))); rw [Nat.zero_add])), rfl, trivial⟩ rfl rfl ?_
          exact ih (j + 1) (by omega)
    | some b =>
      have hbj := (takerN_lt hb).1
      refine zMl (ml' := [(2, .int (i32 j)), (1, .int (i32 b)), (0, .ref 292)]) ⟨rfl, (by show some (Value.int (i32 (0 + b))) = _; rw [Nat.zero_add]), rfl, trivial⟩ rfl rfl ?_
      refine zPs (pc1 := 7) (l1 := [(2, .int (i32 j)), (1, .int (i32 b)), (0, .ref 292)]) (st1 := [.int (6 : Int32), .int (i32 j)]) 2 rfl rfl rfl ?_
      refine nCge (a := j) (b := 6) (by omega) (by omega) rfl (fun h1 => absurd h1 (by omega)) (fun h1 => ?_)
      refine zPs (pc1 := 11) (l1 := [(2, .int (i32 j)), (1, .int (i32 b)), (0, .ref 292)]) (st1 := [.ref 292]) 1 rfl rfl rfl ?_
      refine zGetR (r := 326) rfl rfl ⟨by decide, rfl, by decide, rfl⟩ ?_
      refine zPs (pc1 := 15) (l1 := [(2, .int (i32 j)), (1, .int (i32 b)), (0, .ref 292)]) (st1 := [.int (i32 j), .ref 326]) 1 rfl rfl rfl ?_
      refine zIal (n := j) (v := z 326 j) rfl (icM (k := 326) (L := 6) rfl (by omega)) rfl ?_
      refine zPs (pc1 := 17) (l1 := [(2, .int (i32 j)), (1, .int (i32 b)), (0, .ref 292)]) (st1 := [.int (1 : Int32), .int (z 326 j)]) 1 rfl rfl rfl ?_
      refine zCn rfl (fun h2 => ?_) (fun h2 => ?_)
      · refine zPs (pc1 := 66) (l1 := [(2, .int (i32 j + (1 : Int32))), (1, .int (i32 b)), (3, .int (0 : Int32)), (0, .ref 292)]) (st1 := []) 7 rfl rfl rfl ?_
        refine zTo (ml' := [(2, .int (i32 (j + 1))), (1, .int (i32 b)), (3, .int (0 : Int32)), (0, .ref 292)]) (st' := []) (by rw [show (i32 j + (1 : Int32)) = i32 (j + 1) from i32_add j 1]) rfl ?_
        refine zPs (pc1 := 4) (l1 := [(2, .int (i32 (j + 1))), (1, .int (i32 b)), (3, .int (0 : Int32)), (0, .ref 292)]) (st1 := []) 1 rfl rfl rfl ?_
        refine zMl (ml' := [(2, .int (i32 (j + 1))), (1, .int (oI 0 (takerN z n (j + 1)))), (0, .ref 292)]) ⟨rfl, (by first | (rw [takerN_no1 (by grind), hb]; rfl) | (rw [takerN_no2 hb (by first | assumption | (rw [Int32.not_lt]; assumption)), hb]; show some (Value.int (i32 b)) = some (Value.int (i32 (0 + b))); rw [Nat.zero_add]) | (rw [takerN_no1 (by grind), hb]; show some (Value.int (i32 b)) = some (Value.int (i32 (0 + b))); rw [Nat.zero_add])), rfl, trivial⟩ rfl rfl ?_
        exact ih (j + 1) (by omega)
      · refine zPs (pc1 := 22) (l1 := [(2, .int (i32 j)), (1, .int (i32 b)), (0, .ref 292)]) (st1 := [.int (i32 j), .ref 292]) 2 rfl rfl rfl ?_
        refine zCv (mj := 147) (k := 292) (n := 1) rfl rfl rfl rfl (by decide) rfl rfl rfl rfl rfl rfl ?_
        refine c_147 hl hn (by omega) (fun h3 h4 h5 => ?_) (fun h6 => ?_)
        · refine kI ?_
          refine nIlt (a := h3) (by omega) rfl ?_
          refine zPs (pc1 := 39) (l1 := [(3, .int (1 : Int32)), (2, .int (i32 j)), (1, .int (i32 b)), (0, .ref 292)]) (st1 := [.int (i32 b)]) 6 rfl rfl rfl ?_
          refine nIlt (a := b) (by omega) rfl ?_
          refine zPs (pc1 := 43) (l1 := [(3, .int (1 : Int32)), (2, .int (i32 j)), (1, .int (i32 b)), (0, .ref 292)]) (st1 := [.ref 292]) 1 rfl rfl rfl ?_
          refine zGetR (r := 328) rfl rfl ⟨by decide, rfl, by decide, rfl⟩ ?_
          refine zPs (pc1 := 47) (l1 := [(3, .int (1 : Int32)), (2, .int (i32 j)), (1, .int (i32 b)), (0, .ref 292)]) (st1 := [.int (i32 j), .ref 328]) 1 rfl rfl rfl ?_
          refine zIal (n := j) (v := z 328 j) rfl (icM (k := 328) (L := 6) rfl (by omega)) rfl ?_
          refine zPs (pc1 := 49) (l1 := [(3, .int (1 : Int32)), (2, .int (i32 j)), (1, .int (i32 b)), (0, .ref 292)]) (st1 := [.ref 292, .int (z 328 j)]) 1 rfl rfl rfl ?_
          refine zGetR (r := 328) rfl rfl ⟨by decide, rfl, by decide, rfl⟩ ?_
          refine zPs (pc1 := 53) (l1 := [(3, .int (1 : Int32)), (2, .int (i32 j)), (1, .int (i32 b)), (0, .ref 292)]) (st1 := [.int (i32 b), .ref 328, .int (z 328 j)]) 1 rfl rfl rfl ?_
          refine zIal (n := b) (v := z 328 b) rfl (icM (k := 328) (L := 6) rfl (by omega)) rfl ?_
          refine zCge rfl (fun h9 => ?_) (fun h9 => ?_)
          · refine zPs (pc1 := 66) (l1 := [(2, .int (i32 j + (1 : Int32))), (1, .int (i32 b)), (3, .int (1 : Int32)), (0, .ref 292)]) (st1 := []) 3 rfl rfl rfl ?_
            refine zTo (ml' := [(2, .int (i32 (j + 1))), (1, .int (i32 b)), (3, .int (1 : Int32)), (0, .ref 292)]) (st' := []) (by rw [show (i32 j + (1 : Int32)) = i32 (j + 1) from i32_add j 1]) rfl ?_
            refine zPs (pc1 := 4) (l1 := [(2, .int (i32 (j + 1))), (1, .int (i32 b)), (3, .int (1 : Int32)), (0, .ref 292)]) (st1 := []) 1 rfl rfl rfl ?_
            refine zMl (ml' := [(2, .int (i32 (j + 1))), (1, .int (oI 0 (takerN z n (j + 1)))), (0, .ref 292)]) ⟨rfl, (by first | (rw [takerN_no1 (by grind), hb]; rfl) | (rw [takerN_no2 hb (by first | assumption | (rw [Int32.not_lt]; assumption)), hb]; show some (Value.int (i32 b)) = some (Value.int (i32 (0 + b))); rw [Nat.zero_add]) | (rw [takerN_no1 (by grind), hb]; show some (Value.int (i32 b)) = some (Value.int (i32 (0 + b))); rw [Nat.zero_add])), rfl, trivial⟩ rfl rfl ?_
            exact ih (j + 1) (by omega)
          · refine zPs (pc1 := 66) (l1 := [(2, .int (i32 j + (1 : Int32))), (1, .int (i32 j)), (3, .int (1 : Int32)), (0, .ref 292)]) (st1 := []) 4 rfl rfl rfl ?_
            refine zTo (ml' := [(2, .int (i32 (j + 1))), (1, .int (i32 j)), (3, .int (1 : Int32)), (0, .ref 292)]) (st' := []) (by rw [show (i32 j + (1 : Int32)) = i32 (j + 1) from i32_add j 1]) rfl ?_
            refine zPs (pc1 := 4) (l1 := [(2, .int (i32 (j + 1))), (1, .int (i32 j)), (3, .int (1 : Int32)), (0, .ref 292)]) (st1 := []) 1 rfl rfl rfl ?_
            refine zMl (ml' := [(2, .int (i32 (j + 1))), (1, .int (oI 0 (takerN z n (j + 1)))), (0, .ref 292)]) ⟨rfl, (by rw [takerN_yes (by grind) (by grind)]; show some (Value.int (i32 j)) = some (Value.int (i32 (0 + j))); rw [Nat.zero_add]), rfl, trivial⟩ rfl rfl ?_
            exact ih (j + 1) (by omega)
        · refine kI ?_
          refine zPs (pc1 := 66) (l1 := [(2, .int (i32 j + (1 : Int32))), (1, .int (i32 b)), (3, .int (0 : Int32)), (0, .ref 292)]) (st1 := []) 8 rfl rfl rfl ?_
          refine zTo (ml' := [(2, .int (i32 (j + 1))), (1, .int (i32 b)), (3, .int (0 : Int32)), (0, .ref 292)]) (st' := []) (by rw [show (i32 j + (1 : Int32)) = i32 (j + 1) from i32_add j 1]) rfl ?_
          refine zPs (pc1 := 4) (l1 := [(2, .int (i32 (j + 1))), (1, .int (i32 b)), (3, .int (0 : Int32)), (0, .ref 292)]) (st1 := []) 1 rfl rfl rfl ?_
          refine zMl (ml' := [(2, .int (i32 (j + 1))), (1, .int (oI 0 (takerN z n (j + 1)))), (0, .ref 292)]) ⟨rfl, (by first | (rw [takerN_no1 (by grind), hb]; rfl) | (rw [takerN_no2 hb (by first | assumption | (rw [Int32.not_lt]; assumption)), hb]; show some (Value.int (i32 b)) = some (Value.int (i32 (0 + b))); rw [Nat.zero_add]) | (rw [takerN_no1 (by grind), hb]; show some (Value.int (i32 b)) = some (Value.int (i32 (0 + b))); rw [Nat.zero_add])), rfl, trivial⟩ rfl rfl ?_
          exact ih (j + 1) (by omega)
theorem c_148 {z : Sg} {P : MO → Sg → Prop} {n : Nat} (hl : n ≤ 60) (hn : z 292 19 = i32 n) (k : P (.inl (some (.int (oI 0 (takerN z n 6))))) z) : Es true 148 [.ref 292] z P := by
  refine Es.of ?_
  refine zPs (pc1 := 4) (l1 := [(2, .int (0 : Int32)), (1, .int (-1 : Int32)), (0, .ref 292)]) (st1 := []) 4 rfl rfl rfl ?_
  refine zMl (ml' := [(2, .int (i32 0)), (1, .int (oI 0 (takerN z n 0))), (0, .ref 292)]) ⟨rfl, rfl, rfl, trivial⟩ rfl rfl ?_
  exact l_148 hl hn k 6 0 (by omega)
def takeOne (z : Sg) (c a : Nat) : Sg :=
  if z 311 c = 1 then up2 (up2 (up2 (up2 (up2 (up2 z 325 c (i32 a)) 331 a (i32 c)) 311 c 2) 313 c (-1)) 320 c (-1)) 326 a 2
  else up2 (up2 (up2 (up2 (up2 z 325 c (i32 a)) 331 a (i32 c)) 311 c 4) 316 c (z 292 0 + 6)) 326 a 3
noncomputable def takesN (n : Nat) : Nat → Sg → Sg
  | 0, z => z
  | r + 1, z => match takerN z n 6 with
    | none => z
    | some a => match bestN z a n with
      | none => z
      | some c => takesN n r (takeOne z c a)
def rdyN (z : Sg) : Nat → Nat
  | 0 => 0
  | j + 1 => rdyN z j + (if z 326 j = 1 then 1 else 0)
theorem rdyN_le (z : Sg) : ∀ j, rdyN z j ≤ j
  | 0 => Nat.le_refl 0
  | j + 1 => by
    have := rdyN_le z j
    unfold rdyN
    split <;> omega
theorem rdyN_pos {z : Sg} {a : Nat} (h : z 326 a = 1) : ∀ {j}, a < j → 0 < rdyN z j
  | j + 1, hj => by
    unfold rdyN
    rcases Nat.lt_succ_iff_lt_or_eq.mp hj with q | rfl
    · have := rdyN_pos h q
      omega
    · rw [if_pos h]; omega
theorem takeOne_does {z : Sg} {c a k : Nat} : takeOne z c a 326 k = if k = a then (if z 311 c = 1 then 2 else 3) else z 326 k := by
  unfold takeOne
  split <;> simp [up2]
theorem rdyN_take {z : Sg} {c a : Nat} (h : z 326 a = 1) : ∀ j, rdyN (takeOne z c a) j + (if a < j then 1 else 0) = rdyN z j
  | 0 => by simp [rdyN]
  | j + 1 => by
    have ih := rdyN_take (c := c) h j
    unfold rdyN
    rw [takeOne_does]
    by_cases hj : j = a
    · subst hj
      rw [if_pos rfl, h]
      have e : ¬ (if z 311 c = 1 then (2 : Int32) else 3) = 1 := by split <;> decide
      simp only [e, if_false, if_true] at ih ⊢
      simp at ih ⊢
      omega
    · rw [if_neg hj]
      by_cases h2 : a < j
      · simp only [h2, if_true] at ih
        have h3 : a < j + 1 := by omega
        simp only [h3, if_true]
        omega
      · simp only [h2, if_false] at ih
        have h3 : ¬ a < j + 1 := by omega
        simp only [h3, if_false]
        omega
theorem takeOne_292 {z : Sg} {c a : Nat} (j : Nat) : takeOne z c a 292 j = z 292 j := by
  unfold takeOne
  split <;> simp [up2]
theorem l_149 {P : MO → Sg → Prop} {rc rs : Nat} {n : Nat} (hl : n ≤ 60) : ∀ (r : Nat) (z : Sg), z 292 19 = i32 n → rdyN z 6 ≤ r → P (.inl none) (takesN n r z) → Ws true 149 rc rs 5 [(1, .int (oI 0 (takerN z n 6))), (0, .ref 292)] [] z P := by
  intro r
  induction r with
  | zero =>
    intro z hn hr k
    cases ht : takerN z n 6 with
    | some a =>
      have h := takerN_lt ht
      have := rdyN_pos h.2.1 h.1
      omega
    | none =>
      refine zMl (ml' := [(1, .int (-1 : Int32)), (0, .ref 292)]) ⟨rfl, rfl, trivial⟩ rfl rfl ?_
      refine zPs (pc1 := 105) (l1 := [(1, .int (-1 : Int32)), (0, .ref 292)]) (st1 := []) 2 rfl rfl rfl ?_
      refine zRv rfl rfl ?_
      exact k
  | succ r ih =>
    intro z hn hr k
    cases ht : takerN z n 6 with
    | none =>
      have k2 : P (.inl none) z := by simpa [takesN, ht] using k
      refine zMl (ml' := [(1, .int (-1 : Int32)), (0, .ref 292)]) ⟨rfl, rfl, trivial⟩ rfl rfl ?_
      refine zPs (pc1 := 105) (l1 := [(1, .int (-1 : Int32)), (0, .ref 292)]) (st1 := []) 2 rfl rfl rfl ?_
      refine zRv rfl rfl ?_
      exact k2
    | some a =>
      have h := takerN_lt ht
      have ha : a < 6 := h.1
      have hr2 : rdyN z 6 = rdyN z 6 := rfl
      refine zMl (ml' := [(1, .int (i32 a)), (0, .ref 292)]) ⟨(by show some (Value.int (i32 (0 + a))) = _; rw [Nat.zero_add]), rfl, trivial⟩ rfl rfl ?_
      refine zPs (pc1 := 6) (l1 := [(1, .int (i32 a)), (0, .ref 292)]) (st1 := [.int (i32 a)]) 1 rfl rfl rfl ?_
      refine nIlt (a := a) (by omega) rfl ?_
      refine zPs (pc1 := 11) (l1 := [(1, .int (i32 a)), (0, .ref 292)]) (st1 := [.int (i32 a), .ref 292]) 2 rfl rfl rfl ?_
      refine zCv (mj := 147) (k := 292) (n := 1) rfl rfl rfl rfl (by decide) rfl rfl rfl rfl rfl rfl ?_
      refine c_147 hl hn ha (fun h2 h3 h4 => ?_) (fun h5 => ?_)
      · refine kI ?_
        refine zPs (pc1 := 16) (l1 := [(2, .int (i32 h2)), (1, .int (i32 a)), (0, .ref 292)]) (st1 := [.ref 292]) 2 rfl rfl rfl ?_
        refine zGetR (r := 325) rfl rfl ⟨by decide, rfl, by decide, rfl⟩ ?_
        refine zPs (pc1 := 21) (l1 := [(2, .int (i32 h2)), (1, .int (i32 a)), (0, .ref 292)]) (st1 := [.int (i32 a), .int (i32 h2), .ref 325]) 2 rfl rfl rfl ?_
        refine zIas (n := h2) rfl (icM (k := 325) (L := 60) rfl (by omega)) ?_
        refine zPs (pc1 := 23) (l1 := [(2, .int (i32 h2)), (1, .int (i32 a)), (0, .ref 292)]) (st1 := [.ref 292]) 1 rfl rfl rfl ?_
        refine zGetR (r := 331) rfl rfl ⟨by decide, rfl, by decide, rfl⟩ ?_
        refine zPs (pc1 := 28) (l1 := [(2, .int (i32 h2)), (1, .int (i32 a)), (0, .ref 292)]) (st1 := [.int (i32 h2), .int (i32 a), .ref 331]) 2 rfl rfl rfl ?_
        refine zIas (n := a) rfl (icM (k := 331) (L := 6) rfl ha) ?_
        refine zPs (pc1 := 30) (l1 := [(2, .int (i32 h2)), (1, .int (i32 a)), (0, .ref 292)]) (st1 := [.ref 292]) 1 rfl rfl rfl ?_
        refine zGetR (r := 311) rfl rfl ⟨by decide, rfl, by decide, rfl⟩ ?_
        refine zPs (pc1 := 34) (l1 := [(2, .int (i32 h2)), (1, .int (i32 a)), (0, .ref 292)]) (st1 := [.int (i32 h2), .ref 311]) 1 rfl rfl rfl ?_
        refine zIal (n := h2) (v := z 311 h2) rfl (icM (k := 311) (L := 60) rfl (by omega)) (by simp [up2]) ?_
        refine zPs (pc1 := 36) (l1 := [(2, .int (i32 h2)), (1, .int (i32 a)), (0, .ref 292)]) (st1 := [.int (1 : Int32), .int (z 311 h2)]) 1 rfl rfl rfl ?_
        refine zCn rfl (fun h6 => ?_) (fun h6 => ?_)
        · refine zPs (pc1 := 71) (l1 := [(2, .int (i32 h2)), (1, .int (i32 a)), (0, .ref 292)]) (st1 := [.ref 292]) 1 rfl rfl rfl ?_
          refine zGetR (r := 311) rfl rfl ⟨by decide, rfl, by decide, rfl⟩ ?_
          refine zPs (pc1 := 76) (l1 := [(2, .int (i32 h2)), (1, .int (i32 a)), (0, .ref 292)]) (st1 := [.int (4 : Int32), .int (i32 h2), .ref 311]) 2 rfl rfl rfl ?_
          refine zIas (n := h2) rfl (icM (k := 311) (L := 60) rfl (by omega)) ?_
          refine zPs (pc1 := 78) (l1 := [(2, .int (i32 h2)), (1, .int (i32 a)), (0, .ref 292)]) (st1 := [.ref 292]) 1 rfl rfl rfl ?_
          refine zGetR (r := 316) rfl rfl ⟨by decide, rfl, by decide, rfl⟩ ?_
          refine zPs (pc1 := 83) (l1 := [(2, .int (i32 h2)), (1, .int (i32 a)), (0, .ref 292)]) (st1 := [.ref 292, .int (i32 h2), .ref 316]) 2 rfl rfl rfl ?_
          refine zGetI (v := z 292 0) rfl rfl icTime (by simp [up2]) ?_
          refine zPs (pc1 := 89) (l1 := [(2, .int (i32 h2)), (1, .int (i32 a)), (0, .ref 292)]) (st1 := [.int (z 292 0 + (6 : Int32)), .int (i32 h2), .ref 316]) 2 rfl rfl rfl ?_
          refine zIas (n := h2) rfl (icM (k := 316) (L := 60) rfl (by omega)) ?_
          refine zPs (pc1 := 91) (l1 := [(2, .int (i32 h2)), (1, .int (i32 a)), (0, .ref 292)]) (st1 := [.ref 292]) 1 rfl rfl rfl ?_
          refine zGetR (r := 326) rfl rfl ⟨by decide, rfl, by decide, rfl⟩ ?_
          refine zPs (pc1 := 96) (l1 := [(2, .int (i32 h2)), (1, .int (i32 a)), (0, .ref 292)]) (st1 := [.int (3 : Int32), .int (i32 a), .ref 326]) 2 rfl rfl rfl ?_
          refine zIas (n := a) rfl (icM (k := 326) (L := 6) rfl ha) ?_
          refine zPs (pc1 := 98) (l1 := [(2, .int (i32 h2)), (1, .int (i32 a)), (0, .ref 292)]) (st1 := [.ref 292]) 1 rfl rfl rfl ?_
          refine zCv (mj := 148) (k := 292) (n := 0) rfl rfl rfl rfl (by decide) rfl rfl rfl rfl rfl rfl ?_
          refine c_148 hl (by simp [up2, hn]) ?_
          refine kI ?_
          refine zPs (pc1 := 5) (l1 := [(1, .int (oI 0 (takerN (up2 (up2 (up2 (up2 (up2 z 325 h2 (i32 a)) 331 a (i32 h2)) 311 h2 (4 : Int32)) 316 h2 (z 292 0 + (6 : Int32))) 326 a (3 : Int32)) n 6))), (2, .int (i32 h2)), (0, .ref 292)]) (st1 := []) 2 rfl rfl rfl ?_
          refine zMl (ml' := [(1, .int (oI 0 (takerN (takeOne z h2 a) n 6))), (0, .ref 292)]) ⟨(by rw [show takeOne z h2 a = _ from by unfold takeOne; first | rw [if_pos h6] | rw [if_neg h6]]; rfl), rfl, trivial⟩ rfl rfl ?_
          have e0 : takeOne z h2 a = (up2 (up2 (up2 (up2 (up2 z 325 h2 (i32 a)) 331 a (i32 h2)) 311 h2 (4 : Int32)) 316 h2 (z 292 0 + (6 : Int32))) 326 a (3 : Int32)) := by unfold takeOne; first | rw [if_pos h6] | rw [if_neg h6]
          have hq := rdyN_take (c := h2) h.2.1 6
          rw [if_pos ha] at hq
          have k2 : P (.inl none) (takesN n r (takeOne z h2 a)) := by simpa [takesN, ht, h3] using k
          rw [← e0]
          exact ih _ ((takeOne_292 19).trans hn) (by omega) k2
        · refine zPs (pc1 := 40) (l1 := [(2, .int (i32 h2)), (1, .int (i32 a)), (0, .ref 292)]) (st1 := [.ref 292]) 1 rfl rfl rfl ?_
          refine zGetR (r := 311) rfl rfl ⟨by decide, rfl, by decide, rfl⟩ ?_
          refine zPs (pc1 := 45) (l1 := [(2, .int (i32 h2)), (1, .int (i32 a)), (0, .ref 292)]) (st1 := [.int (2 : Int32), .int (i32 h2), .ref 311]) 2 rfl rfl rfl ?_
          refine zIas (n := h2) rfl (icM (k := 311) (L := 60) rfl (by omega)) ?_
          refine zPs (pc1 := 47) (l1 := [(2, .int (i32 h2)), (1, .int (i32 a)), (0, .ref 292)]) (st1 := [.ref 292]) 1 rfl rfl rfl ?_
          refine zGetR (r := 313) rfl rfl ⟨by decide, rfl, by decide, rfl⟩ ?_
          refine zPs (pc1 := 52) (l1 := [(2, .int (i32 h2)), (1, .int (i32 a)), (0, .ref 292)]) (st1 := [.int (-1 : Int32), .int (i32 h2), .ref 313]) 2 rfl rfl rfl ?_
          refine zIas (n := h2) rfl (icM (k := 313) (L := 60) rfl (by omega)) ?_
          refine zPs (pc1 := 54) (l1 := [(2, .int (i32 h2)), (1, .int (i32 a)), (0, .ref 292)]) (st1 := [.ref 292]) 1 rfl rfl rfl ?_
          refine zGetR (r := 320) rfl rfl ⟨by decide, rfl, by decide, rfl⟩ ?_
          refine zPs (pc1 := 59) (l1 := [(2, .int (i32 h2)), (1, .int (i32 a)), (0, .ref 292)]) (st1 := [.int (-1 : Int32), .int (i32 h2), .ref 320]) 2 rfl rfl rfl ?_
          refine zIas (n := h2) rfl (icM (k := 320) (L := 60) rfl (by omega)) ?_
          refine zPs (pc1 := 61) (l1 := [(2, .int (i32 h2)), (1, .int (i32 a)), (0, .ref 292)]) (st1 := [.ref 292]) 1 rfl rfl rfl ?_
          refine zGetR (r := 326) rfl rfl ⟨by decide, rfl, by decide, rfl⟩ ?_
          refine zPs (pc1 := 66) (l1 := [(2, .int (i32 h2)), (1, .int (i32 a)), (0, .ref 292)]) (st1 := [.int (2 : Int32), .int (i32 a), .ref 326]) 2 rfl rfl rfl ?_
          refine zIas (n := a) rfl (icM (k := 326) (L := 6) rfl ha) ?_
          refine zPs (pc1 := 98) (l1 := [(2, .int (i32 h2)), (1, .int (i32 a)), (0, .ref 292)]) (st1 := [.ref 292]) 2 rfl rfl rfl ?_
          refine zCv (mj := 148) (k := 292) (n := 0) rfl rfl rfl rfl (by decide) rfl rfl rfl rfl rfl rfl ?_
          refine c_148 hl (by simp [up2, hn]) ?_
          refine kI ?_
          refine zPs (pc1 := 5) (l1 := [(1, .int (oI 0 (takerN (up2 (up2 (up2 (up2 (up2 (up2 z 325 h2 (i32 a)) 331 a (i32 h2)) 311 h2 (2 : Int32)) 313 h2 (-1 : Int32)) 320 h2 (-1 : Int32)) 326 a (2 : Int32)) n 6))), (2, .int (i32 h2)), (0, .ref 292)]) (st1 := []) 2 rfl rfl rfl ?_
          refine zMl (ml' := [(1, .int (oI 0 (takerN (takeOne z h2 a) n 6))), (0, .ref 292)]) ⟨(by rw [show takeOne z h2 a = _ from by unfold takeOne; first | rw [if_pos h6] | rw [if_neg h6]]; rfl), rfl, trivial⟩ rfl rfl ?_
          have e0 : takeOne z h2 a = (up2 (up2 (up2 (up2 (up2 (up2 z 325 h2 (i32 a)) 331 a (i32 h2)) 311 h2 (2 : Int32)) 313 h2 (-1 : Int32)) 320 h2 (-1 : Int32)) 326 a (2 : Int32)) := by unfold takeOne; first | rw [if_pos h6] | rw [if_neg h6]
          have hq := rdyN_take (c := h2) h.2.1 6
          rw [if_pos ha] at hq
          have k2 : P (.inl none) (takesN n r (takeOne z h2 a)) := by simpa [takesN, ht, h3] using k
          rw [← e0]
          exact ih _ ((takeOne_292 19).trans hn) (by omega) k2
      · exact absurd h5 h.2.2
noncomputable def sTakes (z : Sg) (n : Nat) : Sg := takesN n 6 z
theorem c_149 {z : Sg} {P : MO → Sg → Prop} {n : Nat} (hl : n ≤ 60) (hn : z 292 19 = i32 n) (k : P (.inl none) (sTakes z n)) : Es true 149 [.ref 292] z P := by
  refine Es.of ?_
  refine zPs (pc1 := 1) (l1 := [(0, .ref 292)]) (st1 := [.ref 292]) 1 rfl rfl rfl ?_
  refine zCv (mj := 148) (k := 292) (n := 0) rfl rfl rfl rfl (by decide) rfl rfl rfl rfl rfl rfl ?_
  refine c_148 hl hn ?_
  refine kI ?_
  refine zPs (pc1 := 5) (l1 := [(1, .int (oI 0 (takerN z n 6))), (0, .ref 292)]) (st1 := []) 1 rfl rfl rfl ?_
  refine zMl (ml' := [(1, .int (oI 0 (takerN z n 6))), (0, .ref 292)]) ⟨rfl, rfl, trivial⟩ rfl rfl ?_
  exact l_149 hl 6 z hn (rdyN_le z 6) k
