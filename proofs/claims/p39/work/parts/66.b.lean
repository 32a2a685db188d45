/-! ===== the class: loops over agents and calls ===== -/
noncomputable def g_84 (s : Int32) : Nat → Nat → Sg → Int32
  | 0, _, l => (0 : Int32)
  | d + 1, j, l => (if ¬ l 326 j = (1 : Int32) then g_84 s d (j + 1)  l else (if (l 327 j &&& ((1 : Int32) <<< (s &&& 31))) = 0 then g_84 s d (j + 1)  l else (1 : Int32)))
theorem lg_84 {l : Sg} {P : MO → Sg → Prop} {rc rs : Nat} {s : Int32} : ∀ (d j : Nat), j + d = 6 → Rk (Qv P l) (g_84 s d j  l) → Ws false 84 rc rs 2 [(2, .int (i32 j)), (0, .ref 0), (1, .int s)] [] l P := by
  intro d
  induction d with
  | zero =>
    intro j hj k
    obtain rfl : 6 = j := by omega
    rw [g_84] at k
    refine zPs (pc1 := 5) (l1 := [(2, .int (i32 6)), (0, .ref 0), (1, .int s)]) (st1 := [.int (6 : Int32), .int (i32 6)]) 2 rfl rfl rfl ?_
    refine nCge (a := 6) (b := 6) (by omega) (by omega) rfl (fun h1 => ?_) (fun h1 => absurd (Nat.le_refl _) h1)
    refine zPs (pc1 := 43) (l1 := [(2, .int (i32 6)), (0, .ref 0), (1, .int s)]) (st1 := [.int (0 : Int32)]) 1 rfl rfl rfl ?_
    refine zRz rfl rfl (Or.inl rfl) ?_
    exact k
  | succ d ih =>
    intro j hj k
    have hjl : j < 6 := by omega
    rw [g_84] at k
    refine zPs (pc1 := 5) (l1 := [(2, .int (i32 j)), (0, .ref 0), (1, .int s)]) (st1 := [.int (6 : Int32), .int (i32 j)]) 2 rfl rfl rfl ?_
    refine nCge (a := j) (b := 6) (by omega) (by omega) rfl (fun h1 => absurd h1 (by omega)) (fun h1 => ?_)
    refine zPs (pc1 := 9) (l1 := [(2, .int (i32 j)), (0, .ref 0), (1, .int s)]) (st1 := [.ref 0]) 1 rfl rfl rfl ?_
    refine zGetR (r := 3) rfl rfl ⟨by decide, rfl, by decide, rfl⟩ ?_
    refine zPs (pc1 := 13) (l1 := [(2, .int (i32 j)), (0, .ref 0), (1, .int s)]) (st1 := [.int (i32 j), .ref 3]) 1 rfl rfl rfl ?_
    refine zAal (n := j) rfl rfl (irD (by omega)) ?_
    refine zPs (pc1 := 16) (l1 := [(3, .ref (286 + j)), (2, .int (i32 j)), (0, .ref 0), (1, .int s)]) (st1 := [.ref (286 + j)]) 2 rfl rfl rfl ?_
    refine zGetI (F := 326) (I := j) (v := l 326 j) rfl rfl (icD (j := 0) (by omega) rfl) rfl ?_
    refine zPs (pc1 := 20) (l1 := [(3, .ref (286 + j)), (2, .int (i32 j)), (0, .ref 0), (1, .int s)]) (st1 := [.int (1 : Int32), .int (l 326 j)]) 1 rfl rfl rfl ?_
    refine zCn rfl (fun h2 => ?_) (fun h2 => ?_)
    · replace k := ite_t h2 k
      refine zPs (pc1 := 39) (l1 := [(2, .int (i32 j + (1 : Int32))), (3, .ref (286 + j)), (0, .ref 0), (1, .int s)]) (st1 := []) 1 rfl rfl rfl ?_
      refine zTo (ml' := [(2, .int (i32 (j + 1))), (3, .ref (286 + j)), (0, .ref 0), (1, .int s)]) (st' := []) (by rw [show (i32 j + (1 : Int32)) = i32 (j + 1) from i32_add j 1]) rfl ?_
      refine zPs (pc1 := 2) (l1 := [(2, .int (i32 (j + 1))), (3, .ref (286 + j)), (0, .ref 0), (1, .int s)]) (st1 := []) 1 rfl rfl rfl ?_
      refine zMl (ml' := [(2, .int (i32 (j + 1))), (0, .ref 0), (1, .int s)]) ⟨rfl, rfl, rfl, trivial⟩ rfl rfl ?_
      exact ih (j + 1) (by omega) k
    · replace k := ite_f (not_not_intro h2) k
      refine zPs (pc1 := 24) (l1 := [(3, .ref (286 + j)), (2, .int (i32 j)), (0, .ref 0), (1, .int s)]) (st1 := [.ref (286 + j)]) 1 rfl rfl rfl ?_
      refine zGetI (F := 327) (I := j) (v := l 327 j) rfl rfl (icD (j := 1) (by omega) rfl) rfl ?_
      refine zPs (pc1 := 31) (l1 := [(3, .ref (286 + j)), (2, .int (i32 j)), (0, .ref 0), (1, .int s)]) (st1 := [.int (l 327 j &&& ((1 : Int32) <<< (s &&& 31)))]) 4 rfl rfl rfl ?_
      refine zIfe rfl (fun h3 => ?_) (fun h3 => ?_)
      · replace k := ite_t h3 k
        refine zPs (pc1 := 39) (l1 := [(2, .int (i32 j + (1 : Int32))), (3, .ref (286 + j)), (0, .ref 0), (1, .int s)]) (st1 := []) 1 rfl rfl rfl ?_
        refine zTo (ml' := [(2, .int (i32 (j + 1))), (3, .ref (286 + j)), (0, .ref 0), (1, .int s)]) (st' := []) (by rw [show (i32 j + (1 : Int32)) = i32 (j + 1) from i32_add j 1]) rfl ?_
        refine zPs (pc1 := 2) (l1 := [(2, .int (i32 (j + 1))), (3, .ref (286 + j)), (0, .ref 0), (1, .int s)]) (st1 := []) 1 rfl rfl rfl ?_
        refine zMl (ml' := [(2, .int (i32 (j + 1))), (0, .ref 0), (1, .int s)]) ⟨rfl, rfl, rfl, trivial⟩ rfl rfl ?_
        exact ih (j + 1) (by omega) k
      · replace k := ite_f h3 k
        refine zPs (pc1 := 35) (l1 := [(3, .ref (286 + j)), (2, .int (i32 j)), (0, .ref 0), (1, .int s)]) (st1 := [.int (1 : Int32)]) 1 rfl rfl rfl ?_
        refine zRz rfl rfl (Or.inr rfl) ?_
        exact k
noncomputable def f_84 (s : Int32) (l : Sg) : Int32 := g_84 s 6 0  l
theorem e_84 {l : Sg} {P : MO → Sg → Prop} {s : Int32}  (k : Rk (Qv P l) (f_84 s l)) : Es false 84 [.ref 0, .int s] l P := by
  unfold f_84 at k
  refine Es.of ?_
  refine zPs (pc1 := 2) (l1 := [(2, .int (0 : Int32)), (0, .ref 0), (1, .int s)]) (st1 := []) 2 rfl rfl rfl ?_
  refine zMl (ml' := [(2, .int (i32 0)), (0, .ref 0), (1, .int s)]) ⟨rfl, rfl, rfl, trivial⟩ rfl rfl ?_
  exact lg_84  6 0   (by omega) k
theorem g_84_01 {s : Int32} : ∀ d j l, g_84 s d j l = 0 ∨ g_84 s d j l = 1
  | 0, j, l => by rw [g_84]; exact Or.inl rfl
  | d + 1, j, l => by
    rw [g_84]
    repeat' split
    all_goals first | exact Or.inl rfl | exact Or.inr rfl | exact g_84_01 d (j + 1) l
theorem f_84_01 (s : Int32) (l : Sg) : f_84 s l = 0 ∨ f_84 s l = 1 := g_84_01 _ _ _
noncomputable def g_102 (n : Nat) (s : Int32) : Nat → Nat → Int32 → Sg → Int32
  | 0, _, a, l => a
  | d + 1, j, a, l => (if (f_14 j s l) = 0 then g_102 n s d (j + 1) a l else g_102 n s d (j + 1) (a + (1 : Int32)) l)
theorem lg_102 {l : Sg} {P : MO → Sg → Prop} {rc rs : Nat} {n : Nat} {s : Int32}(hl : n ≤ 60) (hCI : CI l n)  : ∀ (d j : Nat) (a : Int32), j + d = n → Rk (Qv P l) (g_102 n s d j a l) → Ws false 102 rc rs 4 [(3, .int (i32 j)), (2, .int a), (0, .ref 0), (1, .int s)] [] l P := by
  intro d
  induction d with
  | zero =>
    intro j a hj k
    obtain rfl : n = j := by omega
    rw [g_102] at k
    refine zPs (pc1 := 6) (l1 := [(3, .int (i32 n)), (2, .int a), (0, .ref 0), (1, .int s)]) (st1 := [.ref 0, .int (i32 n)]) 2 rfl rfl rfl ?_
    refine zGetI (F := 292) (I := 19) (v := i32 n) rfl rfl icCalls hCI.1 ?_
    refine nCge (a := n) (b := n) (by omega) (by omega) rfl (fun h1 => ?_) (fun h1 => absurd (Nat.le_refl _) h1)
    refine zPs (pc1 := 35) (l1 := [(3, .int (i32 n)), (2, .int a), (0, .ref 0), (1, .int s)]) (st1 := [.int a]) 1 rfl rfl rfl ?_
    refine zRi rfl rfl ?_
    exact k
  | succ d ih =>
    intro j a hj k
    have hjl : j < n := by omega
    rw [g_102] at k
    refine zPs (pc1 := 6) (l1 := [(3, .int (i32 j)), (2, .int a), (0, .ref 0), (1, .int s)]) (st1 := [.ref 0, .int (i32 j)]) 2 rfl rfl rfl ?_
    refine zGetI (F := 292) (I := 19) (v := i32 n) rfl rfl icCalls hCI.1 ?_
    refine nCge (a := j) (b := n) (by omega) (by omega) rfl (fun h1 => absurd h1 (by omega)) (fun h1 => ?_)
    refine zPs (pc1 := 13) (l1 := [(3, .int (i32 j)), (2, .int a), (0, .ref 0), (1, .int s)]) (st1 := [.ref 0]) 1 rfl rfl rfl ?_
    refine zGetR (r := 2) rfl rfl ⟨by decide, rfl, by decide, rfl⟩ ?_
    refine zPs (pc1 := 17) (l1 := [(3, .int (i32 j)), (2, .int a), (0, .ref 0), (1, .int s)]) (st1 := [.int (i32 j), .ref 2]) 1 rfl rfl rfl ?_
    refine zAal (n := j) rfl rfl (irL (by omega)) ?_
    refine zPs (pc1 := 19) (l1 := [(3, .int (i32 j)), (2, .int a), (0, .ref 0), (1, .int s)]) (st1 := [.int s, .ref (166 + 2 * j)]) 1 rfl rfl rfl ?_
    refine zCv (mj := 14) (k := (166 + 2 * j)) (n := 1) rfl rfl rfl rfl (by have := (by omega); omega) (tagK_line (by omega)) rfl rfl rfl rfl rfl ?_
    refine e_14 (by omega) ?_
    refine kI ?_
    refine zIfe rfl (fun h2 => ?_) (fun h2 => ?_)
    · replace k := ite_t h2 k
      refine zPs (pc1 := 31) (l1 := [(3, .int (i32 j + (1 : Int32))), (2, .int a), (0, .ref 0), (1, .int s)]) (st1 := []) 1 rfl rfl rfl ?_
      refine zTo (ml' := [(3, .int (i32 (j + 1))), (2, .int a), (0, .ref 0), (1, .int s)]) (st' := []) (by rw [show (i32 j + (1 : Int32)) = i32 (j + 1) from i32_add j 1]) rfl ?_
      refine zPs (pc1 := 4) (l1 := [(3, .int (i32 (j + 1))), (2, .int a), (0, .ref 0), (1, .int s)]) (st1 := []) 1 rfl rfl rfl ?_
      refine zMl (ml' := [(3, .int (i32 (j + 1))), (2, .int a), (0, .ref 0), (1, .int s)]) ⟨rfl, rfl, rfl, rfl, trivial⟩ rfl rfl ?_
      exact ih (j + 1) a (by omega) k
    · replace k := ite_f h2 k
      refine zPs (pc1 := 31) (l1 := [(3, .int (i32 j + (1 : Int32))), (2, .int (a + (1 : Int32))), (0, .ref 0), (1, .int s)]) (st1 := []) 2 rfl rfl rfl ?_
      refine zTo (ml' := [(3, .int (i32 (j + 1))), (2, .int (a + (1 : Int32))), (0, .ref 0), (1, .int s)]) (st' := []) (by rw [show (i32 j + (1 : Int32)) = i32 (j + 1) from i32_add j 1]) rfl ?_
      refine zPs (pc1 := 4) (l1 := [(3, .int (i32 (j + 1))), (2, .int (a + (1 : Int32))), (0, .ref 0), (1, .int s)]) (st1 := []) 1 rfl rfl rfl ?_
      refine zMl (ml' := [(3, .int (i32 (j + 1))), (2, .int (a + (1 : Int32))), (0, .ref 0), (1, .int s)]) ⟨rfl, rfl, rfl, rfl, trivial⟩ rfl rfl ?_
      exact ih (j + 1) (a + (1 : Int32)) (by omega) k
noncomputable def f_102 (n : Nat) (s : Int32) (l : Sg) : Int32 := g_102 n s n 0 (0 : Int32) l
theorem e_102 {l : Sg} {P : MO → Sg → Prop} {n : Nat} {s : Int32} (hl : n ≤ 60) (hCI : CI l n)  (k : Rk (Qv P l) (f_102 n s l)) : Es false 102 [.ref 0, .int s] l P := by
  unfold f_102 at k
  refine Es.of ?_
  refine zPs (pc1 := 4) (l1 := [(3, .int (0 : Int32)), (2, .int (0 : Int32)), (0, .ref 0), (1, .int s)]) (st1 := []) 4 rfl rfl rfl ?_
  refine zMl (ml' := [(3, .int (i32 0)), (2, .int (0 : Int32)), (0, .ref 0), (1, .int s)]) ⟨rfl, rfl, rfl, rfl, trivial⟩ rfl rfl ?_
  exact lg_102 hl hCI n 0 (0 : Int32)  (by omega) k
noncomputable def g_98 (n : Nat) : Nat → Nat → Int32 → Sg → Int32
  | 0, _, a, l => a
  | d + 1, j, a, l => (if (f_15 j (l 292 0) l) = 0 then g_98 n d (j + 1) a l else g_98 n d (j + 1) (a ||| ((1 : Int32) <<< (l 320 j &&& 31))) l)
theorem lg_98 {l : Sg} {P : MO → Sg → Prop} {rc rs : Nat} {n : Nat}(hl : n ≤ 60) (hCI : CI l n)  : ∀ (d j : Nat) (a : Int32), j + d = n → Rk (Qv P l) (g_98 n d j a l) → Ws false 98 rc rs 4 [(2, .int (i32 j)), (1, .int a), (0, .ref 0)] [] l P := by
  intro d
  induction d with
  | zero =>
    intro j a hj k
    obtain rfl : n = j := by omega
    rw [g_98] at k
    refine zPs (pc1 := 6) (l1 := [(2, .int (i32 n)), (1, .int a), (0, .ref 0)]) (st1 := [.ref 0, .int (i32 n)]) 2 rfl rfl rfl ?_
    refine zGetI (F := 292) (I := 19) (v := i32 n) rfl rfl icCalls hCI.1 ?_
    refine nCge (a := n) (b := n) (by omega) (by omega) rfl (fun h1 => ?_) (fun h1 => absurd (Nat.le_refl _) h1)
    refine zPs (pc1 := 46) (l1 := [(2, .int (i32 n)), (1, .int a), (0, .ref 0)]) (st1 := [.int a]) 1 rfl rfl rfl ?_
    refine zRi rfl rfl ?_
    exact k
  | succ d ih =>
    intro j a hj k
    have hjl : j < n := by omega
    rw [g_98] at k
    refine zPs (pc1 := 6) (l1 := [(2, .int (i32 j)), (1, .int a), (0, .ref 0)]) (st1 := [.ref 0, .int (i32 j)]) 2 rfl rfl rfl ?_
    refine zGetI (F := 292) (I := 19) (v := i32 n) rfl rfl icCalls hCI.1 ?_
    refine nCge (a := j) (b := n) (by omega) (by omega) rfl (fun h1 => absurd h1 (by omega)) (fun h1 => ?_)
    refine zPs (pc1 := 13) (l1 := [(2, .int (i32 j)), (1, .int a), (0, .ref 0)]) (st1 := [.ref 0]) 1 rfl rfl rfl ?_
    refine zGetR (r := 2) rfl rfl ⟨by decide, rfl, by decide, rfl⟩ ?_
    refine zPs (pc1 := 17) (l1 := [(2, .int (i32 j)), (1, .int a), (0, .ref 0)]) (st1 := [.int (i32 j), .ref 2]) 1 rfl rfl rfl ?_
    refine zAal (n := j) rfl rfl (irL (by omega)) ?_
    refine zPs (pc1 := 21) (l1 := [(3, .ref (166 + 2 * j)), (2, .int (i32 j)), (1, .int a), (0, .ref 0)]) (st1 := [.ref 0, .ref (166 + 2 * j)]) 3 rfl rfl rfl ?_
    refine zGetI (F := 292) (I := 0) (v := l 292 0) rfl rfl icNow rfl ?_
    refine zCv (mj := 15) (k := (166 + 2 * j)) (n := 1) rfl rfl rfl rfl (by have := (by omega); omega) (tagK_line (by omega)) rfl rfl rfl rfl rfl ?_
    refine e_15 (by omega) ?_
    refine kI ?_
    refine zIfe rfl (fun h2 => ?_) (fun h2 => ?_)
    · replace k := ite_t h2 k
      refine zPs (pc1 := 42) (l1 := [(2, .int (i32 j + (1 : Int32))), (3, .ref (166 + 2 * j)), (1, .int a), (0, .ref 0)]) (st1 := []) 1 rfl rfl rfl ?_
      refine zTo (ml' := [(2, .int (i32 (j + 1))), (3, .ref (166 + 2 * j)), (1, .int a), (0, .ref 0)]) (st' := []) (by rw [show (i32 j + (1 : Int32)) = i32 (j + 1) from i32_add j 1]) rfl ?_
      refine zPs (pc1 := 4) (l1 := [(2, .int (i32 (j + 1))), (3, .ref (166 + 2 * j)), (1, .int a), (0, .ref 0)]) (st1 := []) 1 rfl rfl rfl ?_
      refine zMl (ml' := [(2, .int (i32 (j + 1))), (1, .int a), (0, .ref 0)]) ⟨rfl, rfl, rfl, trivial⟩ rfl rfl ?_
      exact ih (j + 1) a (by omega) k
    · replace k := ite_f h2 k
      refine zPs (pc1 := 33) (l1 := [(3, .ref (166 + 2 * j)), (2, .int (i32 j)), (1, .int a), (0, .ref 0)]) (st1 := [.ref (166 + 2 * j), .int (1 : Int32), .int a]) 3 rfl rfl rfl ?_
      refine zGetI (F := 320) (I := j) (v := l 320 j) rfl rfl (icL (j := 11) (by omega) rfl) rfl ?_
      refine zPs (pc1 := 42) (l1 := [(2, .int (i32 j + (1 : Int32))), (1, .int (a ||| ((1 : Int32) <<< (l 320 j &&& 31)))), (3, .ref (166 + 2 * j)), (0, .ref 0)]) (st1 := []) 4 rfl rfl rfl ?_
      refine zTo (ml' := [(2, .int (i32 (j + 1))), (1, .int (a ||| ((1 : Int32) <<< (l 320 j &&& 31)))), (3, .ref (166 + 2 * j)), (0, .ref 0)]) (st' := []) (by rw [show (i32 j + (1 : Int32)) = i32 (j + 1) from i32_add j 1]) rfl ?_
      refine zPs (pc1 := 4) (l1 := [(2, .int (i32 (j + 1))), (1, .int (a ||| ((1 : Int32) <<< (l 320 j &&& 31)))), (3, .ref (166 + 2 * j)), (0, .ref 0)]) (st1 := []) 1 rfl rfl rfl ?_
      refine zMl (ml' := [(2, .int (i32 (j + 1))), (1, .int (a ||| ((1 : Int32) <<< (l 320 j &&& 31)))), (0, .ref 0)]) ⟨rfl, rfl, rfl, trivial⟩ rfl rfl ?_
      exact ih (j + 1) (a ||| ((1 : Int32) <<< (l 320 j &&& 31))) (by omega) k
noncomputable def f_98 (n : Nat) (l : Sg) : Int32 := g_98 n n 0 (0 : Int32) l
theorem e_98 {l : Sg} {P : MO → Sg → Prop} {n : Nat}  (hl : n ≤ 60) (hCI : CI l n)  (k : Rk (Qv P l) (f_98 n l)) : Es false 98 [.ref 0] l P := by
  unfold f_98 at k
  refine Es.of ?_
  refine zPs (pc1 := 4) (l1 := [(2, .int (0 : Int32)), (1, .int (0 : Int32)), (0, .ref 0)]) (st1 := []) 4 rfl rfl rfl ?_
  refine zMl (ml' := [(2, .int (i32 0)), (1, .int (0 : Int32)), (0, .ref 0)]) ⟨rfl, rfl, rfl, trivial⟩ rfl rfl ?_
  exact lg_98 hl hCI n 0 (0 : Int32)  (by omega) k
noncomputable def g_99 (n : Nat) (s : Int32) : Nat → Nat → Int32 → Int32 → Sg → Int32
  | 0, _, a, b, l => a
  | d + 1, j, a, b, l => (if (f_15 j (l 292 0) l) = 0 then g_99 n s d (j + 1) a b l else (if (s &&& ((1 : Int32) <<< (l 320 j &&& 31))) = 0 then g_99 n s d (j + 1) a b l else (if a = (-1 : Int32) then g_99 n s d (j + 1) (i32 j) (f_16 j (l 292 0) l) l else (if (f_103 (f_16 j (l 292 0) l) (i32 j) b a) = 0 then g_99 n s d (j + 1) a b l else g_99 n s d (j + 1) (i32 j) (f_16 j (l 292 0) l) l))))
theorem lg_99 {l : Sg} {P : MO → Sg → Prop} {rc rs : Nat} {n : Nat} {s : Int32}(hl : n ≤ 60) (hCI : CI l n)  : ∀ (d j : Nat) (a : Int32) (b : Int32), j + d = n → Rk (Qv P l) (g_99 n s d j a b l) → Ws false 99 rc rs 7 [(4, .int (i32 j)), (2, .int a), (3, .int b), (0, .ref 0), (1, .int s)] [] l P := by
  intro d
  induction d with
  | zero =>
    intro j a b hj k
    obtain rfl : n = j := by omega
    rw [g_99] at k
    refine zPs (pc1 := 10) (l1 := [(4, .int (i32 n)), (2, .int a), (3, .int b), (0, .ref 0), (1, .int s)]) (st1 := [.ref 0, .int (i32 n)]) 2 rfl rfl rfl ?_
    refine zGetI (F := 292) (I := 19) (v := i32 n) rfl rfl icCalls hCI.1 ?_
    refine nCge (a := n) (b := n) (by omega) (by omega) rfl (fun h1 => ?_) (fun h1 => absurd (Nat.le_refl _) h1)
    refine zPs (pc1 := 90) (l1 := [(4, .int (i32 n)), (2, .int a), (3, .int b), (0, .ref 0), (1, .int s)]) (st1 := [.int a]) 1 rfl rfl rfl ?_
    refine zRi rfl rfl ?_
    exact k
  | succ d ih =>
    intro j a b hj k
    have hjl : j < n := by omega
    rw [g_99] at k
    refine zPs (pc1 := 10) (l1 := [(4, .int (i32 j)), (2, .int a), (3, .int b), (0, .ref 0), (1, .int s)]) (st1 := [.ref 0, .int (i32 j)]) 2 rfl rfl rfl ?_
    refine zGetI (F := 292) (I := 19) (v := i32 n) rfl rfl icCalls hCI.1 ?_
    refine nCge (a := j) (b := n) (by omega) (by omega) rfl (fun h1 => absurd h1 (by omega)) (fun h1 => ?_)
    refine zPs (pc1 := 17) (l1 := [(4, .int (i32 j)), (2, .int a), (3, .int b), (0, .ref 0), (1, .int s)]) (st1 := [.ref 0]) 1 rfl rfl rfl ?_
    refine zGetR (r := 2) rfl rfl ⟨by decide, rfl, by decide, rfl⟩ ?_
    refine zPs (pc1 := 22) (l1 := [(4, .int (i32 j)), (2, .int a), (3, .int b), (0, .ref 0), (1, .int s)]) (st1 := [.int (i32 j), .ref 2]) 1 rfl rfl rfl ?_
    refine zAal (n := j) rfl rfl (irL (by omega)) ?_
    refine zPs (pc1 := 28) (l1 := [(5, .ref (166 + 2 * j)), (4, .int (i32 j)), (2, .int a), (3, .int b), (0, .ref 0), (1, .int s)]) (st1 := [.ref 0, .ref (166 + 2 * j)]) 3 rfl rfl rfl ?_
    refine zGetI (F := 292) (I := 0) (v := l 292 0) rfl rfl icNow rfl ?_
    refine zCv (mj := 15) (k := (166 + 2 * j)) (n := 1) rfl rfl rfl rfl (by have := (by omega); omega) (tagK_line (by omega)) rfl rfl rfl rfl rfl ?_
    refine e_15 (by omega) ?_
    refine kI ?_
    refine zIfe rfl (fun h2 => ?_) (fun h2 => ?_)
    · replace k := ite_t h2 k
      refine zPs (pc1 := 86) (l1 := [(4, .int (i32 j + (1 : Int32))), (5, .ref (166 + 2 * j)), (2, .int a), (3, .int b), (0, .ref 0), (1, .int s)]) (st1 := []) 1 rfl rfl rfl ?_
      refine zTo (ml' := [(4, .int (i32 (j + 1))), (5, .ref (166 + 2 * j)), (2, .int a), (3, .int b), (0, .ref 0), (1, .int s)]) (st' := []) (by rw [show (i32 j + (1 : Int32)) = i32 (j + 1) from i32_add j 1]) rfl ?_
      refine zPs (pc1 := 7) (l1 := [(4, .int (i32 (j + 1))), (5, .ref (166 + 2 * j)), (2, .int a), (3, .int b), (0, .ref 0), (1, .int s)]) (st1 := []) 1 rfl rfl rfl ?_
      refine zMl (ml' := [(4, .int (i32 (j + 1))), (2, .int a), (3, .int b), (0, .ref 0), (1, .int s)]) ⟨rfl, rfl, rfl, rfl, rfl, trivial⟩ rfl rfl ?_
      exact ih (j + 1) a b (by omega) k
    · replace k := ite_f h2 k
      refine zPs (pc1 := 41) (l1 := [(5, .ref (166 + 2 * j)), (4, .int (i32 j)), (2, .int a), (3, .int b), (0, .ref 0), (1, .int s)]) (st1 := [.ref (166 + 2 * j), .int (1 : Int32), .int s]) 3 rfl rfl rfl ?_
      refine zGetI (F := 320) (I := j) (v := l 320 j) rfl rfl (icL (j := 11) (by omega) rfl) rfl ?_
      refine zPs (pc1 := 46) (l1 := [(5, .ref (166 + 2 * j)), (4, .int (i32 j)), (2, .int a), (3, .int b), (0, .ref 0), (1, .int s)]) (st1 := [.int (s &&& ((1 : Int32) <<< (l 320 j &&& 31)))]) 2 rfl rfl rfl ?_
      refine zIfe rfl (fun h3 => ?_) (fun h3 => ?_)
      · replace k := ite_t h3 k
        refine zPs (pc1 := 86) (l1 := [(4, .int (i32 j + (1 : Int32))), (5, .ref (166 + 2 * j)), (2, .int a), (3, .int b), (0, .ref 0), (1, .int s)]) (st1 := []) 1 rfl rfl rfl ?_
        refine zTo (ml' := [(4, .int (i32 (j + 1))), (5, .ref (166 + 2 * j)), (2, .int a), (3, .int b), (0, .ref 0), (1, .int s)]) (st' := []) (by rw [show (i32 j + (1 : Int32)) = i32 (j + 1) from i32_add j 1]) rfl ?_
        refine zPs (pc1 := 7) (l1 := [(4, .int (i32 (j + 1))), (5, .ref (166 + 2 * j)), (2, .int a), (3, .int b), (0, .ref 0), (1, .int s)]) (st1 := []) 1 rfl rfl rfl ?_
        refine zMl (ml' := [(4, .int (i32 (j + 1))), (2, .int a), (3, .int b), (0, .ref 0), (1, .int s)]) ⟨rfl, rfl, rfl, rfl, rfl, trivial⟩ rfl rfl ?_
        exact ih (j + 1) a b (by omega) k
      · replace k := ite_f h3 k
        refine zPs (pc1 := 52) (l1 := [(5, .ref (166 + 2 * j)), (4, .int (i32 j)), (2, .int a), (3, .int b), (0, .ref 0), (1, .int s)]) (st1 := [.ref 0, .ref (166 + 2 * j)]) 2 rfl rfl rfl ?_
        refine zGetI (F := 292) (I := 0) (v := l 292 0) rfl rfl icNow rfl ?_
        refine zCv (mj := 16) (k := (166 + 2 * j)) (n := 1) rfl rfl rfl rfl (by have := (by omega); omega) (tagK_line (by omega)) rfl rfl rfl rfl rfl ?_
        refine e_16 (by omega) ?_
        refine kI ?_
        refine zPs (pc1 := 62) (l1 := [(6, .int (f_16 j (l 292 0) l)), (5, .ref (166 + 2 * j)), (4, .int (i32 j)), (2, .int a), (3, .int b), (0, .ref 0), (1, .int s)]) (st1 := [.int (-1 : Int32), .int a]) 3 rfl rfl rfl ?_
        refine zCe rfl (fun h4 => ?_) (fun h4 => ?_)
        · replace k := ite_t h4 k
          refine zPs (pc1 := 86) (l1 := [(4, .int (i32 j + (1 : Int32))), (3, .int (f_16 j (l 292 0) l)), (2, .int (i32 j)), (6, .int (f_16 j (l 292 0) l)), (5, .ref (166 + 2 * j)), (0, .ref 0), (1, .int s)]) (st1 := []) 5 rfl rfl rfl ?_
          refine zTo (ml' := [(4, .int (i32 (j + 1))), (3, .int (f_16 j (l 292 0) l)), (2, .int (i32 j)), (6, .int (f_16 j (l 292 0) l)), (5, .ref (166 + 2 * j)), (0, .ref 0), (1, .int s)]) (st' := []) (by rw [show (i32 j + (1 : Int32)) = i32 (j + 1) from i32_add j 1]) rfl ?_
          refine zPs (pc1 := 7) (l1 := [(4, .int (i32 (j + 1))), (3, .int (f_16 j (l 292 0) l)), (2, .int (i32 j)), (6, .int (f_16 j (l 292 0) l)), (5, .ref (166 + 2 * j)), (0, .ref 0), (1, .int s)]) (st1 := []) 1 rfl rfl rfl ?_
          refine zMl (ml' := [(4, .int (i32 (j + 1))), (2, .int (i32 j)), (3, .int (f_16 j (l 292 0) l)), (0, .ref 0), (1, .int s)]) ⟨rfl, rfl, rfl, rfl, rfl, trivial⟩ rfl rfl ?_
          exact ih (j + 1) (i32 j) (f_16 j (l 292 0) l) (by omega) k
        · replace k := ite_f h4 k
          refine zPs (pc1 := 71) (l1 := [(6, .int (f_16 j (l 292 0) l)), (5, .ref (166 + 2 * j)), (4, .int (i32 j)), (2, .int a), (3, .int b), (0, .ref 0), (1, .int s)]) (st1 := [.int a, .int b, .int (i32 j), .int (f_16 j (l 292 0) l)]) 4 rfl rfl rfl ?_
          refine zCs (mj := 103) rfl rfl rfl rfl rfl rfl rfl rfl ?_
          refine e_103 ?_
          refine kI ?_
          refine zIfe rfl (fun h5 => ?_) (fun h5 => ?_)
          · replace k := ite_t h5 k
            refine zPs (pc1 := 86) (l1 := [(4, .int (i32 j + (1 : Int32))), (6, .int (f_16 j (l 292 0) l)), (5, .ref (166 + 2 * j)), (2, .int a), (3, .int b), (0, .ref 0), (1, .int s)]) (st1 := []) 1 rfl rfl rfl ?_
            refine zTo (ml' := [(4, .int (i32 (j + 1))), (6, .int (f_16 j (l 292 0) l)), (5, .ref (166 + 2 * j)), (2, .int a), (3, .int b), (0, .ref 0), (1, .int s)]) (st' := []) (by rw [show (i32 j + (1 : Int32)) = i32 (j + 1) from i32_add j 1]) rfl ?_
            refine zPs (pc1 := 7) (l1 := [(4, .int (i32 (j + 1))), (6, .int (f_16 j (l 292 0) l)), (5, .ref (166 + 2 * j)), (2, .int a), (3, .int b), (0, .ref 0), (1, .int s)]) (st1 := []) 1 rfl rfl rfl ?_
            refine zMl (ml' := [(4, .int (i32 (j + 1))), (2, .int a), (3, .int b), (0, .ref 0), (1, .int s)]) ⟨rfl, rfl, rfl, rfl, rfl, trivial⟩ rfl rfl ?_
            exact ih (j + 1) a b (by omega) k
          · replace k := ite_f h5 k
            refine zPs (pc1 := 86) (l1 := [(4, .int (i32 j + (1 : Int32))), (3, .int (f_16 j (l 292 0) l)), (2, .int (i32 j)), (6, .int (f_16 j (l 292 0) l)), (5, .ref (166 + 2 * j)), (0, .ref 0), (1, .int s)]) (st1 := []) 5 rfl rfl rfl ?_
            refine zTo (ml' := [(4, .int (i32 (j + 1))), (3, .int (f_16 j (l 292 0) l)), (2, .int (i32 j)), (6, .int (f_16 j (l 292 0) l)), (5, .ref (166 + 2 * j)), (0, .ref 0), (1, .int s)]) (st' := []) (by rw [show (i32 j + (1 : Int32)) = i32 (j + 1) from i32_add j 1]) rfl ?_
            refine zPs (pc1 := 7) (l1 := [(4, .int (i32 (j + 1))), (3, .int (f_16 j (l 292 0) l)), (2, .int (i32 j)), (6, .int (f_16 j (l 292 0) l)), (5, .ref (166 + 2 * j)), (0, .ref 0), (1, .int s)]) (st1 := []) 1 rfl rfl rfl ?_
            refine zMl (ml' := [(4, .int (i32 (j + 1))), (2, .int (i32 j)), (3, .int (f_16 j (l 292 0) l)), (0, .ref 0), (1, .int s)]) ⟨rfl, rfl, rfl, rfl, rfl, trivial⟩ rfl rfl ?_
            exact ih (j + 1) (i32 j) (f_16 j (l 292 0) l) (by omega) k
noncomputable def f_99 (n : Nat) (s : Int32) (l : Sg) : Int32 := g_99 n s n 0 (-1 : Int32) (0 : Int32) l
theorem e_99 {l : Sg} {P : MO → Sg → Prop} {n : Nat} {s : Int32} (hl : n ≤ 60) (hCI : CI l n)  (k : Rk (Qv P l) (f_99 n s l)) : Es false 99 [.ref 0, .int s] l P := by
  unfold f_99 at k
  refine Es.of ?_
  refine zPs (pc1 := 7) (l1 := [(4, .int (0 : Int32)), (3, .int (0 : Int32)), (2, .int (-1 : Int32)), (0, .ref 0), (1, .int s)]) (st1 := []) 6 rfl rfl rfl ?_
  refine zMl (ml' := [(4, .int (i32 0)), (2, .int (-1 : Int32)), (3, .int (0 : Int32)), (0, .ref 0), (1, .int s)]) ⟨rfl, rfl, rfl, rfl, rfl, trivial⟩ rfl rfl ?_
  exact lg_99 hl hCI n 0 (-1 : Int32) (0 : Int32)  (by omega) k
noncomputable def g_97 (s : Int32) : Nat → Nat → Int32 → Int32 → Sg → Int32
  | 0, _, a, b, l => a
  | d + 1, j, a, b, l => (if ¬ l 326 j = (1 : Int32) then g_97 s d (j + 1) a b l else (if (l 327 j &&& s) = 0 then g_97 s d (j + 1) a b l else (if a = (-1 : Int32) then g_97 s d (j + 1) (i32 j) (l 328 j) l else (if b ≤ l 328 j then g_97 s d (j + 1) a b l else g_97 s d (j + 1) (i32 j) (l 328 j) l))))
theorem lg_97 {l : Sg} {P : MO → Sg → Prop} {rc rs : Nat} {s : Int32} : ∀ (d j : Nat) (a : Int32) (b : Int32), j + d = 6 → Rk (Qv P l) (g_97 s d j a b l) → Ws false 97 rc rs 12 [(4, .int (i32 j)), (2, .int a), (3, .int b), (0, .ref 0), (1, .int s)] [] l P := by
  intro d
  induction d with
  | zero =>
    intro j a b hj k
    obtain rfl : 6 = j := by omega
    rw [g_97] at k
    refine zPs (pc1 := 16) (l1 := [(4, .int (i32 6)), (2, .int a), (3, .int b), (0, .ref 0), (1, .int s)]) (st1 := [.int (6 : Int32), .int (i32 6)]) 2 rfl rfl rfl ?_
    refine nCge (a := 6) (b := 6) (by omega) (by omega) rfl (fun h1 => ?_) (fun h1 => absurd (Nat.le_refl _) h1)
    refine zPs (pc1 := 89) (l1 := [(4, .int (i32 6)), (2, .int a), (3, .int b), (0, .ref 0), (1, .int s)]) (st1 := [.int a]) 1 rfl rfl rfl ?_
    refine zRi rfl rfl ?_
    exact k
  | succ d ih =>
    intro j a b hj k
    have hjl : j < 6 := by omega
    rw [g_97] at k
    refine zPs (pc1 := 16) (l1 := [(4, .int (i32 j)), (2, .int a), (3, .int b), (0, .ref 0), (1, .int s)]) (st1 := [.int (6 : Int32), .int (i32 j)]) 2 rfl rfl rfl ?_
    refine nCge (a := j) (b := 6) (by omega) (by omega) rfl (fun h1 => absurd h1 (by omega)) (fun h1 => ?_)
    refine zPs (pc1 := 20) (l1 := [(4, .int (i32 j)), (2, .int a), (3, .int b), (0, .ref 0), (1, .int s)]) (st1 := [.ref 0]) 1 rfl rfl rfl ?_
    refine zGetR (r := 3) rfl rfl ⟨by decide, rfl, by decide, rfl⟩ ?_
    refine zPs (pc1 := 25) (l1 := [(4, .int (i32 j)), (2, .int a), (3, .int b), (0, .ref 0), (1, .int s)]) (st1 := [.int (i32 j), .ref 3]) 1 rfl rfl rfl ?_
    refine zAal (n := j) rfl rfl (irD (by omega)) ?_
    refine zPs (pc1 := 30) (l1 := [(5, .ref (286 + j)), (4, .int (i32 j)), (2, .int a), (3, .int b), (0, .ref 0), (1, .int s)]) (st1 := [.ref (286 + j)]) 2 rfl rfl rfl ?_
    refine zGetI (F := 326) (I := j) (v := l 326 j) rfl rfl (icD (j := 0) (by omega) rfl) rfl ?_
    refine zPs (pc1 := 34) (l1 := [(5, .ref (286 + j)), (4, .int (i32 j)), (2, .int a), (3, .int b), (0, .ref 0), (1, .int s)]) (st1 := [.int (1 : Int32), .int (l 326 j)]) 1 rfl rfl rfl ?_
    refine zCn rfl (fun h2 => ?_) (fun h2 => ?_)
    · replace k := ite_t h2 k
      refine zPs (pc1 := 85) (l1 := [(4, .int (i32 j + (1 : Int32))), (6, .int (0 : Int32)), (5, .ref (286 + j)), (2, .int a), (3, .int b), (0, .ref 0), (1, .int s)]) (st1 := []) 5 rfl rfl rfl ?_
      refine zTo (ml' := [(4, .int (i32 (j + 1))), (6, .int (0 : Int32)), (5, .ref (286 + j)), (2, .int a), (3, .int b), (0, .ref 0), (1, .int s)]) (st' := []) (by rw [show (i32 j + (1 : Int32)) = i32 (j + 1) from i32_add j 1]) rfl ?_
      refine zPs (pc1 := 12) (l1 := [(4, .int (i32 (j + 1))), (6, .int (0 : Int32)), (5, .ref (286 + j)), (2, .int a), (3, .int b), (0, .ref 0), (1, .int s)]) (st1 := []) 1 rfl rfl rfl ?_
      refine zMl (ml' := [(4, .int (i32 (j + 1))), (2, .int a), (3, .int b), (0, .ref 0), (1, .int s)]) ⟨rfl, rfl, rfl, rfl, rfl, trivial⟩ rfl rfl ?_
      exact ih (j + 1) a b (by omega) k
    · replace k := ite_f (not_not_intro h2) k
      refine zPs (pc1 := 39) (l1 := [(5, .ref (286 + j)), (4, .int (i32 j)), (2, .int a), (3, .int b), (0, .ref 0), (1, .int s)]) (st1 := [.ref (286 + j)]) 1 rfl rfl rfl ?_
      refine zGetI (F := 327) (I := j) (v := l 327 j) rfl rfl (icD (j := 1) (by omega) rfl) rfl ?_
      refine zPs (pc1 := 44) (l1 := [(5, .ref (286 + j)), (4, .int (i32 j)), (2, .int a), (3, .int b), (0, .ref 0), (1, .int s)]) (st1 := [.int (l 327 j &&& s)]) 2 rfl rfl rfl ?_
      refine zIfe rfl (fun h3 => ?_) (fun h3 => ?_)
      · replace k := ite_t h3 k
        refine zPs (pc1 := 85) (l1 := [(4, .int (i32 j + (1 : Int32))), (6, .int (0 : Int32)), (5, .ref (286 + j)), (2, .int a), (3, .int b), (0, .ref 0), (1, .int s)]) (st1 := []) 5 rfl rfl rfl ?_
        refine zTo (ml' := [(4, .int (i32 (j + 1))), (6, .int (0 : Int32)), (5, .ref (286 + j)), (2, .int a), (3, .int b), (0, .ref 0), (1, .int s)]) (st' := []) (by rw [show (i32 j + (1 : Int32)) = i32 (j + 1) from i32_add j 1]) rfl ?_
        refine zPs (pc1 := 12) (l1 := [(4, .int (i32 (j + 1))), (6, .int (0 : Int32)), (5, .ref (286 + j)), (2, .int a), (3, .int b), (0, .ref 0), (1, .int s)]) (st1 := []) 1 rfl rfl rfl ?_
        refine zMl (ml' := [(4, .int (i32 (j + 1))), (2, .int a), (3, .int b), (0, .ref 0), (1, .int s)]) ⟨rfl, rfl, rfl, rfl, rfl, trivial⟩ rfl rfl ?_
        exact ih (j + 1) a b (by omega) k
      · replace k := ite_f h3 k
        refine zPs (pc1 := 61) (l1 := [(6, .int (1 : Int32)), (5, .ref (286 + j)), (4, .int (i32 j)), (2, .int a), (3, .int b), (0, .ref 0), (1, .int s)]) (st1 := [.int (-1 : Int32), .int a]) 7 rfl rfl rfl ?_
        refine zCe rfl (fun h4 => ?_) (fun h4 => ?_)
        · replace k := ite_t h4 k
          refine zPs (pc1 := 78) (l1 := [(2, .int (i32 j)), (6, .int (1 : Int32)), (5, .ref (286 + j)), (4, .int (i32 j)), (3, .int b), (0, .ref 0), (1, .int s)]) (st1 := [.ref (286 + j)]) 3 rfl rfl rfl ?_
          refine zGetI (F := 328) (I := j) (v := l 328 j) rfl rfl (icD (j := 5) (by omega) rfl) rfl ?_
          refine zPs (pc1 := 85) (l1 := [(4, .int (i32 j + (1 : Int32))), (3, .int (l 328 j)), (2, .int (i32 j)), (6, .int (1 : Int32)), (5, .ref (286 + j)), (0, .ref 0), (1, .int s)]) (st1 := []) 2 rfl rfl rfl ?_
          refine zTo (ml' := [(4, .int (i32 (j + 1))), (3, .int (l 328 j)), (2, .int (i32 j)), (6, .int (1 : Int32)), (5, .ref (286 + j)), (0, .ref 0), (1, .int s)]) (st' := []) (by rw [show (i32 j + (1 : Int32)) = i32 (j + 1) from i32_add j 1]) rfl ?_
          refine zPs (pc1 := 12) (l1 := [(4, .int (i32 (j + 1))), (3, .int (l 328 j)), (2, .int (i32 j)), (6, .int (1 : Int32)), (5, .ref (286 + j)), (0, .ref 0), (1, .int s)]) (st1 := []) 1 rfl rfl rfl ?_
          refine zMl (ml' := [(4, .int (i32 (j + 1))), (2, .int (i32 j)), (3, .int (l 328 j)), (0, .ref 0), (1, .int s)]) ⟨rfl, rfl, rfl, rfl, rfl, trivial⟩ rfl rfl ?_
          exact ih (j + 1) (i32 j) (l 328 j) (by omega) k
        · replace k := ite_f h4 k
          refine zPs (pc1 := 66) (l1 := [(6, .int (1 : Int32)), (5, .ref (286 + j)), (4, .int (i32 j)), (2, .int a), (3, .int b), (0, .ref 0), (1, .int s)]) (st1 := [.ref (286 + j)]) 1 rfl rfl rfl ?_
          refine zGetI (F := 328) (I := j) (v := l 328 j) rfl rfl (icD (j := 5) (by omega) rfl) rfl ?_
          refine zPs (pc1 := 70) (l1 := [(6, .int (1 : Int32)), (5, .ref (286 + j)), (4, .int (i32 j)), (2, .int a), (3, .int b), (0, .ref 0), (1, .int s)]) (st1 := [.int b, .int (l 328 j)]) 1 rfl rfl rfl ?_
          refine zCge rfl (fun h5 => ?_) (fun h5 => ?_)
          · replace k := ite_t h5 k
            refine zPs (pc1 := 85) (l1 := [(4, .int (i32 j + (1 : Int32))), (6, .int (1 : Int32)), (5, .ref (286 + j)), (2, .int a), (3, .int b), (0, .ref 0), (1, .int s)]) (st1 := []) 1 rfl rfl rfl ?_
            refine zTo (ml' := [(4, .int (i32 (j + 1))), (6, .int (1 : Int32)), (5, .ref (286 + j)), (2, .int a), (3, .int b), (0, .ref 0), (1, .int s)]) (st' := []) (by rw [show (i32 j + (1 : Int32)) = i32 (j + 1) from i32_add j 1]) rfl ?_
            refine zPs (pc1 := 12) (l1 := [(4, .int (i32 (j + 1))), (6, .int (1 : Int32)), (5, .ref (286 + j)), (2, .int a), (3, .int b), (0, .ref 0), (1, .int s)]) (st1 := []) 1 rfl rfl rfl ?_
            refine zMl (ml' := [(4, .int (i32 (j + 1))), (2, .int a), (3, .int b), (0, .ref 0), (1, .int s)]) ⟨rfl, rfl, rfl, rfl, rfl, trivial⟩ rfl rfl ?_
            exact ih (j + 1) a b (by omega) k
          · replace k := ite_f h5 k
            refine zPs (pc1 := 78) (l1 := [(2, .int (i32 j)), (6, .int (1 : Int32)), (5, .ref (286 + j)), (4, .int (i32 j)), (3, .int b), (0, .ref 0), (1, .int s)]) (st1 := [.ref (286 + j)]) 3 rfl rfl rfl ?_
            refine zGetI (F := 328) (I := j) (v := l 328 j) rfl rfl (icD (j := 5) (by omega) rfl) rfl ?_
            refine zPs (pc1 := 85) (l1 := [(4, .int (i32 j + (1 : Int32))), (3, .int (l 328 j)), (2, .int (i32 j)), (6, .int (1 : Int32)), (5, .ref (286 + j)), (0, .ref 0), (1, .int s)]) (st1 := []) 2 rfl rfl rfl ?_
            refine zTo (ml' := [(4, .int (i32 (j + 1))), (3, .int (l 328 j)), (2, .int (i32 j)), (6, .int (1 : Int32)), (5, .ref (286 + j)), (0, .ref 0), (1, .int s)]) (st' := []) (by rw [show (i32 j + (1 : Int32)) = i32 (j + 1) from i32_add j 1]) rfl ?_
            refine zPs (pc1 := 12) (l1 := [(4, .int (i32 (j + 1))), (3, .int (l 328 j)), (2, .int (i32 j)), (6, .int (1 : Int32)), (5, .ref (286 + j)), (0, .ref 0), (1, .int s)]) (st1 := []) 1 rfl rfl rfl ?_
            refine zMl (ml' := [(4, .int (i32 (j + 1))), (2, .int (i32 j)), (3, .int (l 328 j)), (0, .ref 0), (1, .int s)]) ⟨rfl, rfl, rfl, rfl, rfl, trivial⟩ rfl rfl ?_
            exact ih (j + 1) (i32 j) (l 328 j) (by omega) k
noncomputable def f_97 (n : Nat) (l : Sg) : Int32 := g_97 (f_98 n l) 6 0 (-1) 0 l
theorem e_97 {l : Sg} {P : MO → Sg → Prop} {n : Nat}  (hl : n ≤ 60) (hCI : CI l n)  (k : Rk (Qv P l) (f_97 n l)) : Es false 97 [.ref 0] l P := by
  unfold f_97 at k
  refine Es.of ?_
  refine zPs (pc1 := 1) (l1 := [(0, .ref 0)]) (st1 := [.ref 0]) 1 rfl rfl rfl ?_
  refine zCv (mj := 98) (k := 0) (n := 0) rfl rfl rfl rfl (by decide) rfl rfl rfl rfl rfl rfl ?_
  refine e_98 hl hCI ?_
  refine kI ?_
  refine zPs (pc1 := 12) (l1 := [(4, .int (0 : Int32)), (3, .int (0 : Int32)), (2, .int (-1 : Int32)), (1, .int (f_98 n l)), (0, .ref 0)]) (st1 := []) 7 rfl rfl rfl ?_
  refine zMl (ml' := [(4, .int (i32 0)), (2, .int (-1 : Int32)), (3, .int (0 : Int32)), (0, .ref 0), (1, .int (f_98 n l))]) ⟨rfl, rfl, rfl, rfl, rfl, trivial⟩ rfl rfl ?_
  exact lg_97 6 0 (-1) 0 (by omega) k
