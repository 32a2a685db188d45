/-! ===== the constructors, by evaluation in pieces ===== -/
/-- cells left, slots left, pc, locals, stack, heap -/
abbrev CF : Type := Nat × Nat × Nat × ML × List Value × MH
def runQ (n mi : Nat) (q : CF) : Option (MO × MH) := run n mi q.1 q.2.1 true q.2.2.1 q.2.2.2.1 q.2.2.2.2.1 q.2.2.2.2.2
def one (mi : Nat) (q : CF) : Option CF := match mEnt mi q.2.2.1 with
  | none => none
  | some E => match stepP (mNL mi) E q.2.2.2.1 q.2.2.2.2.1 with
    | some c => some (q.1, q.2.1, c.1, c.2.1, c.2.2, q.2.2.2.2.2)
    | none => match stepH mi true q.1 q.2.1 E q.2.2.2.2.1 q.2.2.2.2.2 with
      | some c => some (c.2.2.1, c.2.2.2, E.2.1, q.2.2.2.1, c.1, c.2.1)
      | none => match stepC (mCls mi) E q.2.2.2.2.1 q.2.2.2.2.2 with
        | some c => bif rmOk mi c.1 q.1 q.2.1 then match run 200 c.1 (mMc c.1) (mMs c.1) true 0 (lv_args 0 c.2.1) [] q.2.2.2.2.2 with
            | some (.inl v, h1) => some (q.1 - mMc c.1, q.2.1 - mMs c.1, E.2.1, q.2.2.2.1, v.toList ++ c.2.2, h1)
            | _ => none
          else none
        | none => none
def chunk (mi : Nat) : Nat → CF → Option CF
  | 0, q => some q
  | n + 1, q => match one mi q with
    | some q1 => chunk mi n q1
    | none => none
theorem one_run {mi n : Nat} {q q1 : CF} {r : MO × MH} (h : one mi q = some q1) (hn : 200 ≤ n) (hr : runQ n mi q1 = some r) : runQ (n + 1) mi q = some r := by
  unfold one at h
  unfold runQ at hr ⊢
  simp only [run]
  split at h
  · cases h
  · rename_i E hE
    rw [hE]
    dsimp only
    split at h
    · rename_i c hc
      cases h
      rw [hc]
      exact hr
    · rename_i hc
      rw [hc]
      dsimp only
      split at h
      · rename_i c hc2
        cases h
        rw [hc2]
        exact hr
      · rename_i hc2
        rw [hc2]
        dsimp only
        split at h
        · rename_i c hc3
          rw [hc3]
          dsimp only
          cases hrm : rmOk mi c.1 q.1 q.2.1
          · rw [hrm] at h; cases h
          · rw [hrm] at h
            simp only [cond_true] at h ⊢
            split at h
            · rename_i v h1 h9
              cases h
              rw [run_le h9 hn]
              exact hr
            · cases h
        · cases h
theorem chunk_run {mi : Nat} : ∀ {k n : Nat} {q q1 : CF} {r : MO × MH}, chunk mi k q = some q1 → 200 ≤ n → runQ n mi q1 = some r → runQ (n + k) mi q = some r
  | 0, n, q, q1, r, h, hn, hr => by cases h; exact hr
  | k + 1, n, q, q1, r, h, hn, hr => by
    simp only [chunk] at h
    split at h
    · rename_i q2 hq
      have := chunk_run h hn hr
      exact one_run hq (show 200 ≤ n + k by omega) this
    · cases h
def cNd (i : Nat) : MH := [(4, [.int 0, .int (-1), .int (-1), .int 0, .int 0, .int 0, .int 0, .int 0, .int 0, .int 0, .int 0, .int 0, .int 0, .int 0, .int 0, .ref (47 + 4 * i)]), (2, [.ref (48 + 4 * i), .ref (49 + 4 * i), .int 0]), (100, List.replicate 10 (.int 0)), (100, List.replicate 10 (.int 0))]
def cLn (i : Nat) : MH := [(3, [.int (Int32.ofNat i), .int 0, .int (-1), .int (-1), .int (-1), .int (-1), .int 0, .int 1, .int 0, .int 0, .int 0, .int 0, .int 0, .int 0, .int 0, .int 0, .ref (167 + 2 * i), .int 0]), (100, List.replicate 4 (.int 0))]
def cDk : MH := [(0, [.int 0, .int 0, .int (-1), .int 5, .int 0, .int 0])]
def cPre (a b c : Nat) : MH := [(6, [.ref 1, .ref 2, .ref 3, .ref 4, .ref 8, .ref 14, .ref 45, .int 0, .int 0]),
  (103, (List.range 30).map (fun i => if i < a then .ref (46 + 4 * i) else .null)), (104, (List.range 60).map (fun i => if i < b then .ref (166 + 2 * i) else .null)), (105, (List.range 6).map (fun i => if i < c then .ref (286 + i) else .null)),
  (5, [.ref 5, .ref 6, .ref 7]), (100, [.int 80, .int 80, .int 80, .int 80, .int 80, .int 0, .int 0]), (100, [.int 180, .int 180, .int 180, .int 180, .int 180, .int 0, .int 0]), (101, List.replicate 84 (.int 0)),
  (1, [.ref 9, .ref 10, .ref 11, .ref 12, .int 0, .ref 13]), (100, List.replicate 1024 (.int 0)), (100, List.replicate 1024 (.int 0)), (100, List.replicate 1024 (.int 0)), (100, List.replicate 1024 (.int 0)), (100, List.replicate 60 (.int 0))] ++ gridC 106 30 31 14 ++ [(100, List.replicate 30 (.int 0))]
def hX (a b c : Nat) : MH := cPre a b c ++ (List.range a).flatMap cNd ++ (List.range b).flatMap cLn ++ (List.range c).flatMap (fun _ => cDk)
def q0 : CF := (300, 8000, 0, lv_args 0 [.ref 0], [], [(6, dflt 6)])
def qA (i : Nat) : CF := (255 - 4 * i, 2651 - 39 * i, 75, [(1, .int (Int32.ofNat i)), (0, .ref 0)], [], hX i 0 0)
def qB (i : Nat) : CF := (135 - 2 * i, 1481 - 22 * i, 102, [(1, .int (Int32.ofNat i)), (0, .ref 0)], [], hX 30 i 0)
def qC (i : Nat) : CF := (15 - i, 161 - 6 * i, 130, [(1, .int (Int32.ofNat i)), (0, .ref 0)], [], hX 30 60 i)
def cfe (a : Option CF) (b : CF) : Bool := match a with
  | some a => (Nat.beq a.1 b.1 && (Nat.beq a.2.1 b.2.1 && Nat.beq a.2.2.1 b.2.2.1)) && decide (a.2.2.2 = b.2.2.2)
  | none => false
theorem cfe_eq {a : Option CF} {b : CF} (h : cfe a b = true) : a = some b := by
  unfold cfe at h
  split at h
  · rename_i a
    simp only [Bool.and_eq_true, Nat.beq_eq, decide_eq_true_eq] at h
    obtain ⟨⟨h1, h2, h3⟩, h4⟩ := h
    obtain ⟨a1, a2, a3, a4⟩ := a
    obtain ⟨b1, b2, b3, b4⟩ := b
    dsimp only at h1 h2 h3 h4
    rw [h1, h2, h3, h4]
  · cases h
theorem ini_0 : cfe (chunk 30 35 q0) (qA 0) = true := by decide +kernel
theorem ini_A0 : cfe (chunk 30 12 (qA 0)) (qA 1) = true := by decide +kernel
theorem ini_A1 : cfe (chunk 30 12 (qA 1)) (qA 2) = true := by decide +kernel
theorem ini_A2 : cfe (chunk 30 12 (qA 2)) (qA 3) = true := by decide +kernel
theorem ini_A3 : cfe (chunk 30 12 (qA 3)) (qA 4) = true := by decide +kernel
theorem ini_A4 : cfe (chunk 30 12 (qA 4)) (qA 5) = true := by decide +kernel
theorem ini_A5 : cfe (chunk 30 12 (qA 5)) (qA 6) = true := by decide +kernel
theorem ini_A6 : cfe (chunk 30 12 (qA 6)) (qA 7) = true := by decide +kernel
theorem ini_A7 : cfe (chunk 30 12 (qA 7)) (qA 8) = true := by decide +kernel
theorem ini_A8 : cfe (chunk 30 12 (qA 8)) (qA 9) = true := by decide +kernel
theorem ini_A9 : cfe (chunk 30 12 (qA 9)) (qA 10) = true := by decide +kernel
theorem ini_A10 : cfe (chunk 30 12 (qA 10)) (qA 11) = true := by decide +kernel
theorem ini_A11 : cfe (chunk 30 12 (qA 11)) (qA 12) = true := by decide +kernel
theorem ini_A12 : cfe (chunk 30 12 (qA 12)) (qA 13) = true := by decide +kernel
theorem ini_A13 : cfe (chunk 30 12 (qA 13)) (qA 14) = true := by decide +kernel
theorem ini_A14 : cfe (chunk 30 12 (qA 14)) (qA 15) = true := by decide +kernel
theorem ini_A15 : cfe (chunk 30 12 (qA 15)) (qA 16) = true := by decide +kernel
theorem ini_A16 : cfe (chunk 30 12 (qA 16)) (qA 17) = true := by decide +kernel
theorem ini_A17 : cfe (chunk 30 12 (qA 17)) (qA 18) = true := by decide +kernel
theorem ini_A18 : cfe (chunk 30 12 (qA 18)) (qA 19) = true := by decide +kernel
theorem ini_A19 : cfe (chunk 30 12 (qA 19)) (qA 20) = true := by decide +kernel
theorem ini_A20 : cfe (chunk 30 12 (qA 20)) (qA 21) = true := by decide +kernel
theorem ini_A21 : cfe (chunk 30 12 (qA 21)) (qA 22) = true := by decide +kernel
theorem ini_A22 : cfe (chunk 30 12 (qA 22)) (qA 23) = true := by decide +kernel
theorem ini_A23 : cfe (chunk 30 12 (qA 23)) (qA 24) = true := by decide +kernel
theorem ini_A24 : cfe (chunk 30 12 (qA 24)) (qA 25) = true := by decide +kernel
theorem ini_A25 : cfe (chunk 30 12 (qA 25)) (qA 26) = true := by decide +kernel
theorem ini_A26 : cfe (chunk 30 12 (qA 26)) (qA 27) = true := by decide +kernel
theorem ini_A27 : cfe (chunk 30 12 (qA 27)) (qA 28) = true := by decide +kernel
theorem ini_A28 : cfe (chunk 30 12 (qA 28)) (qA 29) = true := by decide +kernel
theorem ini_A29 : cfe (chunk 30 12 (qA 29)) (qA 30) = true := by decide +kernel
theorem ini_A (i : Nat) (h : i < 30) : cfe (chunk 30 12 (qA i)) (qA (i + 1)) = true := match i, h with
  | 0, _ => ini_A0
  | 1, _ => ini_A1
  | 2, _ => ini_A2
  | 3, _ => ini_A3
  | 4, _ => ini_A4
  | 5, _ => ini_A5
  | 6, _ => ini_A6
  | 7, _ => ini_A7
  | 8, _ => ini_A8
  | 9, _ => ini_A9
  | 10, _ => ini_A10
  | 11, _ => ini_A11
  | 12, _ => ini_A12
  | 13, _ => ini_A13
  | 14, _ => ini_A14
  | 15, _ => ini_A15
  | 16, _ => ini_A16
  | 17, _ => ini_A17
  | 18, _ => ini_A18
  | 19, _ => ini_A19
  | 20, _ => ini_A20
  | 21, _ => ini_A21
  | 22, _ => ini_A22
  | 23, _ => ini_A23
  | 24, _ => ini_A24
  | 25, _ => ini_A25
  | 26, _ => ini_A26
  | 27, _ => ini_A27
  | 28, _ => ini_A28
  | 29, _ => ini_A29
  | n + 30, h => absurd h (by omega)
theorem ini_B0 : cfe (chunk 30 13 (qB 0)) (qB 1) = true := by decide +kernel
theorem ini_B1 : cfe (chunk 30 13 (qB 1)) (qB 2) = true := by decide +kernel
theorem ini_B2 : cfe (chunk 30 13 (qB 2)) (qB 3) = true := by decide +kernel
theorem ini_B3 : cfe (chunk 30 13 (qB 3)) (qB 4) = true := by decide +kernel
theorem ini_B4 : cfe (chunk 30 13 (qB 4)) (qB 5) = true := by decide +kernel
theorem ini_B5 : cfe (chunk 30 13 (qB 5)) (qB 6) = true := by decide +kernel
theorem ini_B6 : cfe (chunk 30 13 (qB 6)) (qB 7) = true := by decide +kernel
theorem ini_B7 : cfe (chunk 30 13 (qB 7)) (qB 8) = true := by decide +kernel
theorem ini_B8 : cfe (chunk 30 13 (qB 8)) (qB 9) = true := by decide +kernel
theorem ini_B9 : cfe (chunk 30 13 (qB 9)) (qB 10) = true := by decide +kernel
theorem ini_B10 : cfe (chunk 30 13 (qB 10)) (qB 11) = true := by decide +kernel
theorem ini_B11 : cfe (chunk 30 13 (qB 11)) (qB 12) = true := by decide +kernel
theorem ini_B12 : cfe (chunk 30 13 (qB 12)) (qB 13) = true := by decide +kernel
theorem ini_B13 : cfe (chunk 30 13 (qB 13)) (qB 14) = true := by decide +kernel
theorem ini_B14 : cfe (chunk 30 13 (qB 14)) (qB 15) = true := by decide +kernel
theorem ini_B15 : cfe (chunk 30 13 (qB 15)) (qB 16) = true := by decide +kernel
theorem ini_B16 : cfe (chunk 30 13 (qB 16)) (qB 17) = true := by decide +kernel
theorem ini_B17 : cfe (chunk 30 13 (qB 17)) (qB 18) = true := by decide +kernel
theorem ini_B18 : cfe (chunk 30 13 (qB 18)) (qB 19) = true := by decide +kernel
theorem ini_B19 : cfe (chunk 30 13 (qB 19)) (qB 20) = true := by decide +kernel
theorem ini_B20 : cfe (chunk 30 13 (qB 20)) (qB 21) = true := by decide +kernel
theorem ini_B21 : cfe (chunk 30 13 (qB 21)) (qB 22) = true := by decide +kernel
theorem ini_B22 : cfe (chunk 30 13 (qB 22)) (qB 23) = true := by decide +kernel
theorem ini_B23 : cfe (chunk 30 13 (qB 23)) (qB 24) = true := by decide +kernel
theorem ini_B24 : cfe (chunk 30 13 (qB 24)) (qB 25) = true := by decide +kernel
theorem ini_B25 : cfe (chunk 30 13 (qB 25)) (qB 26) = true := by decide +kernel
theorem ini_B26 : cfe (chunk 30 13 (qB 26)) (qB 27) = true := by decide +kernel
theorem ini_B27 : cfe (chunk 30 13 (qB 27)) (qB 28) = true := by decide +kernel
theorem ini_B28 : cfe (chunk 30 13 (qB 28)) (qB 29) = true := by decide +kernel
theorem ini_B29 : cfe (chunk 30 13 (qB 29)) (qB 30) = true := by decide +kernel
theorem ini_B30 : cfe (chunk 30 13 (qB 30)) (qB 31) = true := by decide +kernel
theorem ini_B31 : cfe (chunk 30 13 (qB 31)) (qB 32) = true := by decide +kernel
theorem ini_B32 : cfe (chunk 30 13 (qB 32)) (qB 33) = true := by decide +kernel
theorem ini_B33 : cfe (chunk 30 13 (qB 33)) (qB 34) = true := by decide +kernel
theorem ini_B34 : cfe (chunk 30 13 (qB 34)) (qB 35) = true := by decide +kernel
theorem ini_B35 : cfe (chunk 30 13 (qB 35)) (qB 36) = true := by decide +kernel
theorem ini_B36 : cfe (chunk 30 13 (qB 36)) (qB 37) = true := by decide +kernel
theorem ini_B37 : cfe (chunk 30 13 (qB 37)) (qB 38) = true := by decide +kernel
theorem ini_B38 : cfe (chunk 30 13 (qB 38)) (qB 39) = true := by decide +kernel
theorem ini_B39 : cfe (chunk 30 13 (qB 39)) (qB 40) = true := by decide +kernel
theorem ini_B40 : cfe (chunk 30 13 (qB 40)) (qB 41) = true := by decide +kernel
theorem ini_B41 : cfe (chunk 30 13 (qB 41)) (qB 42) = true := by decide +kernel
theorem ini_B42 : cfe (chunk 30 13 (qB 42)) (qB 43) = true := by decide +kernel
theorem ini_B43 : cfe (chunk 30 13 (qB 43)) (qB 44) = true := by decide +kernel
theorem ini_B44 : cfe (chunk 30 13 (qB 44)) (qB 45) = true := by decide +kernel
theorem ini_B45 : cfe (chunk 30 13 (qB 45)) (qB 46) = true := by decide +kernel
theorem ini_B46 : cfe (chunk 30 13 (qB 46)) (qB 47) = true := by decide +kernel
theorem ini_B47 : cfe (chunk 30 13 (qB 47)) (qB 48) = true := by decide +kernel
theorem ini_B48 : cfe (chunk 30 13 (qB 48)) (qB 49) = true := by decide +kernel
theorem ini_B49 : cfe (chunk 30 13 (qB 49)) (qB 50) = true := by decide +kernel
theorem ini_B50 : cfe (chunk 30 13 (qB 50)) (qB 51) = true := by decide +kernel
theorem ini_B51 : cfe (chunk 30 13 (qB 51)) (qB 52) = true := by decide +kernel
theorem ini_B52 : cfe (chunk 30 13 (qB 52)) (qB 53) = true := by decide +kernel
theorem ini_B53 : cfe (chunk 30 13 (qB 53)) (qB 54) = true := by decide +kernel
theorem ini_B54 : cfe (chunk 30 13 (qB 54)) (qB 55) = true := by decide +kernel
theorem ini_B55 : cfe (chunk 30 13 (qB 55)) (qB 56) = true := by decide +kernel
theorem ini_B56 : cfe (chunk 30 13 (qB 56)) (qB 57) = true := by decide +kernel
theorem ini_B57 : cfe (chunk 30 13 (qB 57)) (qB 58) = true := by decide +kernel
theorem ini_B58 : cfe (chunk 30 13 (qB 58)) (qB 59) = true := by decide +kernel
theorem ini_B59 : cfe (chunk 30 13 (qB 59)) (qB 60) = true := by decide +kernel
theorem ini_B (i : Nat) (h : i < 60) : cfe (chunk 30 13 (qB i)) (qB (i + 1)) = true := match i, h with
  | 0, _ => ini_B0
  | 1, _ => ini_B1
  | 2, _ => ini_B2
  | 3, _ => ini_B3
  | 4, _ => ini_B4
  | 5, _ => ini_B5
  | 6, _ => ini_B6
  | 7, _ => ini_B7
  | 8, _ => ini_B8
  | 9, _ => ini_B9
  | 10, _ => ini_B10
  | 11, _ => ini_B11
  | 12, _ => ini_B12
  | 13, _ => ini_B13
  | 14, _ => ini_B14
  | 15, _ => ini_B15
  | 16, _ => ini_B16
  | 17, _ => ini_B17
  | 18, _ => ini_B18
  | 19, _ => ini_B19
  | 20, _ => ini_B20
  | 21, _ => ini_B21
  | 22, _ => ini_B22
  | 23, _ => ini_B23
  | 24, _ => ini_B24
  | 25, _ => ini_B25
  | 26, _ => ini_B26
  | 27, _ => ini_B27
  | 28, _ => ini_B28
  | 29, _ => ini_B29
  | 30, _ => ini_B30
  | 31, _ => ini_B31
  | 32, _ => ini_B32
  | 33, _ => ini_B33
  | 34, _ => ini_B34
  | 35, _ => ini_B35
  | 36, _ => ini_B36
  | 37, _ => ini_B37
  | 38, _ => ini_B38
  | 39, _ => ini_B39
  | 40, _ => ini_B40
  | 41, _ => ini_B41
  | 42, _ => ini_B42
  | 43, _ => ini_B43
  | 44, _ => ini_B44
  | 45, _ => ini_B45
  | 46, _ => ini_B46
  | 47, _ => ini_B47
  | 48, _ => ini_B48
  | 49, _ => ini_B49
  | 50, _ => ini_B50
  | 51, _ => ini_B51
  | 52, _ => ini_B52
  | 53, _ => ini_B53
  | 54, _ => ini_B54
  | 55, _ => ini_B55
  | 56, _ => ini_B56
  | 57, _ => ini_B57
  | 58, _ => ini_B58
  | 59, _ => ini_B59
  | n + 60, h => absurd h (by omega)
theorem ini_C0 : cfe (chunk 30 12 (qC 0)) (qC 1) = true := by decide +kernel
theorem ini_C1 : cfe (chunk 30 12 (qC 1)) (qC 2) = true := by decide +kernel
theorem ini_C2 : cfe (chunk 30 12 (qC 2)) (qC 3) = true := by decide +kernel
theorem ini_C3 : cfe (chunk 30 12 (qC 3)) (qC 4) = true := by decide +kernel
theorem ini_C4 : cfe (chunk 30 12 (qC 4)) (qC 5) = true := by decide +kernel
theorem ini_C5 : cfe (chunk 30 12 (qC 5)) (qC 6) = true := by decide +kernel
theorem ini_C (i : Nat) (h : i < 6) : cfe (chunk 30 12 (qC i)) (qC (i + 1)) = true := match i, h with
  | 0, _ => ini_C0
  | 1, _ => ini_C1
  | 2, _ => ini_C2
  | 3, _ => ini_C3
  | 4, _ => ini_C4
  | 5, _ => ini_C5
  | n + 6, h => absurd h (by omega)
theorem ini_AB : cfe (chunk 30 5 (qA 30)) (qB 0) = true := by decide +kernel
theorem ini_BC : cfe (chunk 30 5 (qB 60)) (qC 0) = true := by decide +kernel
theorem ini_Cz : cfe (chunk 30 3 (qC 6)) (9, 125, 155, [(1, .int 6), (0, .ref 0)], [], hX 30 60 6) = true := by decide +kernel
