/-! ===== the class: the journal ===== -/
noncomputable def g_181 (v : Int32) : Nat → Nat → Sg → Sg
  | 0, _, l => l
  | d + 1, j, l => g_181 v d (j + 1)  (up2 l 475 j v)
theorem lg_181 {P : MO → Sg → Prop} {rc rs : Nat} {n : Nat} {v : Int32}(hl : n ≤ 60)  : ∀ (d j : Nat) (l : Sg), j + d = 60 → CI l n → Rk (Qm P) (g_181 v d j  l) → Ws false 181 rc rs 5 [(2, .int (i32 j)), (3, .int (i32 60)), (0, .ref 13), (1, .int v)] [] l P := by
  intro d
  induction d with
  | zero =>
    intro j l hj hCI k
    obtain rfl : 60 = j := by omega
    rw [g_181] at k
    refine zPs (pc1 := 7) (l1 := [(2, .int (i32 60)), (3, .int (i32 60)), (0, .ref 13), (1, .int v)]) (st1 := [.int (i32 60), .int (i32 60)]) 2 rfl rfl rfl ?_
    refine nCge (a := 60) (b := 60) (by omega) (by omega) rfl (fun h1 => ?_) (fun h1 => absurd (Nat.le_refl _) h1)
    refine zRv rfl rfl ?_
    exact k
  | succ d ih =>
    intro j l hj hCI k
    have hjl : j < 60 := by omega
    rw [g_181] at k
    refine zPs (pc1 := 7) (l1 := [(2, .int (i32 j)), (3, .int (i32 60)), (0, .ref 13), (1, .int v)]) (st1 := [.int (i32 60), .int (i32 j)]) 2 rfl rfl rfl ?_
    refine nCge (a := j) (b := 60) (by omega) (by omega) rfl (fun h1 => absurd h1 (by omega)) (fun h1 => ?_)
    refine zPs (pc1 := 13) (l1 := [(2, .int (i32 j)), (3, .int (i32 60)), (0, .ref 13), (1, .int v)]) (st1 := [.int v, .int (i32 j), .ref 13]) 3 rfl rfl rfl ?_
    refine zIas (n := j) (F := 475) (I := j) rfl (icOpen (by omega)) ?_
    refine zPs (pc1 := 17) (l1 := [(2, .int (i32 j + (1 : Int32))), (3, .int (i32 60)), (0, .ref 13), (1, .int v)]) (st1 := []) 1 rfl rfl rfl ?_
    refine zTo (ml' := [(2, .int (i32 (j + 1))), (3, .int (i32 60)), (0, .ref 13), (1, .int v)]) (st' := []) (by rw [show (i32 j + (1 : Int32)) = i32 (j + 1) from i32_add j 1]) rfl ?_
    refine zPs (pc1 := 5) (l1 := [(2, .int (i32 (j + 1))), (3, .int (i32 60)), (0, .ref 13), (1, .int v)]) (st1 := []) 1 rfl rfl rfl ?_
    refine zMl (ml' := [(2, .int (i32 (j + 1))), (3, .int (i32 60)), (0, .ref 13), (1, .int v)]) ⟨rfl, rfl, rfl, rfl, trivial⟩ rfl rfl ?_
    exact ih (j + 1) (up2 l 475 j v) (by omega) (CI_up hCI rfl) k
theorem ci_g_181 {n : Nat} {v : Int32} : ∀ (d j : Nat) (l : Sg), CI l n → CI (g_181 v d j  l) n := by
  intro d
  induction d with
  | zero =>
    intro j l h
    rw [g_181]
    (repeat' first | with_reducible exact h | with_reducible refine CI_ite ?_ ?_ | with_reducible refine CI_ite2 ?_ ?_ | with_reducible refine CI_ite3 ?_ ?_ | with_reducible refine CI_bnd ?_ | with_reducible refine CI_bnd' ?_ | with_reducible refine CI_bnd3 ?_ | with_reducible refine CI_bnd2 ?_ | with_reducible refine CI_bnd2' ?_ | with_reducible refine CI_bnd23 ?_ | with_reducible refine CI_up ?_ ?_ | with_reducible refine ci_1 ?_ | with_reducible refine ci_2 ?_ | with_reducible refine ci_17 ?_ | with_reducible refine ci_18 ?_ | with_reducible refine ci_19 ?_ | with_reducible refine ci_20 ?_ | with_reducible refine ci_25 ?_) <;> rfl
  | succ d ih =>
    intro j l h
    rw [g_181]
    (repeat' first | with_reducible exact h | with_reducible refine CI_ite ?_ ?_ | with_reducible refine CI_ite2 ?_ ?_ | with_reducible refine CI_ite3 ?_ ?_ | with_reducible refine CI_bnd ?_ | with_reducible refine CI_bnd' ?_ | with_reducible refine CI_bnd3 ?_ | with_reducible refine CI_bnd2 ?_ | with_reducible refine CI_bnd2' ?_ | with_reducible refine CI_bnd23 ?_ | with_reducible refine CI_up ?_ ?_ | with_reducible refine ci_1 ?_ | with_reducible refine ci_2 ?_ | with_reducible refine ci_17 ?_ | with_reducible refine ci_18 ?_ | with_reducible refine ci_19 ?_ | with_reducible refine ci_20 ?_ | with_reducible refine ci_25 ?_ | with_reducible refine ih _ _ ?_) <;> rfl
noncomputable def f_181 (v : Int32) (l : Sg) : Sg := g_181 v 60 0  l
theorem e_181 {l : Sg} {P : MO → Sg → Prop} {n : Nat} {v : Int32} (hl : n ≤ 60) (hCI : CI l n)  (k : Rk (Qm P) (f_181 v l)) : Es false 181 [.ref 13, .int v] l P := by
  unfold f_181 at k
  refine Es.of ?_
  refine zPs (pc1 := 3) (l1 := [(2, .int (0 : Int32)), (0, .ref 13), (1, .int v)]) (st1 := [.ref 13]) 3 rfl rfl rfl ?_
  refine zLen (L := 60) rfl (by decide) rfl rfl ?_
  refine zPs (pc1 := 5) (l1 := [(3, .int (i32 60)), (2, .int (0 : Int32)), (0, .ref 13), (1, .int v)]) (st1 := []) 1 rfl rfl rfl ?_
  refine zMl (ml' := [(2, .int (i32 0)), (3, .int (i32 60)), (0, .ref 13), (1, .int v)]) ⟨rfl, rfl, rfl, rfl, trivial⟩ rfl rfl ?_
  exact lg_181 hl 60 0  l (by omega) hCI k
theorem ci_181 {l : Sg} {n : Nat} {v : Int32} (h : CI l n) : CI (f_181 v l) n := by
  unfold f_181
  (repeat' first | with_reducible exact h | with_reducible refine CI_ite ?_ ?_ | with_reducible refine CI_ite2 ?_ ?_ | with_reducible refine CI_ite3 ?_ ?_ | with_reducible refine CI_bnd ?_ | with_reducible refine CI_bnd' ?_ | with_reducible refine CI_bnd3 ?_ | with_reducible refine CI_bnd2 ?_ | with_reducible refine CI_bnd2' ?_ | with_reducible refine CI_bnd23 ?_ | with_reducible refine CI_up ?_ ?_ | with_reducible refine ci_1 ?_ | with_reducible refine ci_2 ?_ | with_reducible refine ci_17 ?_ | with_reducible refine ci_18 ?_ | with_reducible refine ci_19 ?_ | with_reducible refine ci_20 ?_ | with_reducible refine ci_25 ?_ | with_reducible refine ci_g_181 _ _ _ ?_) <;> rfl
noncomputable def f_4 (a : Int32) (b : Int32) (e : Int32) (f : Int32) (l : Sg) : Sg := (if (1024 : Int32) ≤ l 470 0 then l else (up2 (up2 (up2 (up2 (up2 l 471 ((l 470 0).toNatClampNeg) a) 472 ((l 470 0).toNatClampNeg) b) 473 ((l 470 0).toNatClampNeg) e) 474 ((l 470 0).toNatClampNeg) f) 470 0 (l 470 0 + (1 : Int32))))
theorem e_4 {l : Sg} {P : MO → Sg → Prop} {n : Nat} {a : Int32} {b : Int32} {e : Int32} {f : Int32} (hl : n ≤ 60) (hCI : CI l n)  (k : Rk (Qm P) (f_4 a b e f l)) : Es false 4 [.ref 8, .int a, .int b, .int e, .int f] l P := by
  unfold f_4 at k
  refine Es.of ?_
  refine zPs (pc1 := 1) (l1 := [(0, .ref 8), (1, .int a), (2, .int b), (3, .int e), (4, .int f)]) (st1 := [.ref 8]) 1 rfl rfl rfl ?_
  refine zGetI (F := 470) (I := 0) (v := l 470 0) rfl rfl icSize rfl ?_
  refine zPs (pc1 := 7) (l1 := [(0, .ref 8), (1, .int a), (2, .int b), (3, .int e), (4, .int f)]) (st1 := [.int (1024 : Int32), .int (l 470 0)]) 1 rfl rfl rfl ?_
  refine zCge rfl (fun h1 => ?_) (fun h1 => ?_)
  · replace k := ite_t h1 k
    refine zRv rfl rfl ?_
    exact k
  · replace k := ite_f h1 k
    have h2 := CI_szn hCI h1
    refine zPs (pc1 := 11) (l1 := [(0, .ref 8), (1, .int a), (2, .int b), (3, .int e), (4, .int f)]) (st1 := [.ref 8]) 1 rfl rfl rfl ?_
    refine zGetR (r := 9) rfl rfl ⟨by decide, rfl, by decide, rfl⟩ ?_
    refine zPs (pc1 := 15) (l1 := [(0, .ref 8), (1, .int a), (2, .int b), (3, .int e), (4, .int f)]) (st1 := [.ref 8, .ref 9]) 1 rfl rfl rfl ?_
    refine zGetI (F := 470) (I := 0) (v := l 470 0) rfl rfl icSize rfl ?_
    refine zPs (pc1 := 19) (l1 := [(0, .ref 8), (1, .int a), (2, .int b), (3, .int e), (4, .int f)]) (st1 := [.int a, .int (l 470 0), .ref 9]) 1 rfl rfl rfl ?_
    refine zIasE (n := (l 470 0).toNatClampNeg) (F := 471) (I := (l 470 0).toNatClampNeg) h2.2 rfl (icWho h2.1) ?_
    refine zPs (pc1 := 21) (l1 := [(0, .ref 8), (1, .int a), (2, .int b), (3, .int e), (4, .int f)]) (st1 := [.ref 8]) 1 rfl rfl rfl ?_
    refine zGetR (r := 10) rfl rfl ⟨by decide, rfl, by decide, rfl⟩ ?_
    refine zPs (pc1 := 25) (l1 := [(0, .ref 8), (1, .int a), (2, .int b), (3, .int e), (4, .int f)]) (st1 := [.ref 8, .ref 10]) 1 rfl rfl rfl ?_
    refine zGetI (F := 470) (I := 0) (v := l 470 0) rfl rfl icSize rfl ?_
    refine zPs (pc1 := 29) (l1 := [(0, .ref 8), (1, .int a), (2, .int b), (3, .int e), (4, .int f)]) (st1 := [.int b, .int (l 470 0), .ref 10]) 1 rfl rfl rfl ?_
    refine zIasE (n := (l 470 0).toNatClampNeg) (F := 472) (I := (l 470 0).toNatClampNeg) h2.2 rfl (icSkl h2.1) ?_
    refine zPs (pc1 := 31) (l1 := [(0, .ref 8), (1, .int a), (2, .int b), (3, .int e), (4, .int f)]) (st1 := [.ref 8]) 1 rfl rfl rfl ?_
    refine zGetR (r := 11) rfl rfl ⟨by decide, rfl, by decide, rfl⟩ ?_
    refine zPs (pc1 := 35) (l1 := [(0, .ref 8), (1, .int a), (2, .int b), (3, .int e), (4, .int f)]) (st1 := [.ref 8, .ref 11]) 1 rfl rfl rfl ?_
    refine zGetI (F := 470) (I := 0) (v := l 470 0) rfl rfl icSize rfl ?_
    refine zPs (pc1 := 39) (l1 := [(0, .ref 8), (1, .int a), (2, .int b), (3, .int e), (4, .int f)]) (st1 := [.int e, .int (l 470 0), .ref 11]) 1 rfl rfl rfl ?_
    refine zIasE (n := (l 470 0).toNatClampNeg) (F := 473) (I := (l 470 0).toNatClampNeg) h2.2 rfl (icPri h2.1) ?_
    refine zPs (pc1 := 41) (l1 := [(0, .ref 8), (1, .int a), (2, .int b), (3, .int e), (4, .int f)]) (st1 := [.ref 8]) 1 rfl rfl rfl ?_
    refine zGetR (r := 12) rfl rfl ⟨by decide, rfl, by decide, rfl⟩ ?_
    refine zPs (pc1 := 45) (l1 := [(0, .ref 8), (1, .int a), (2, .int b), (3, .int e), (4, .int f)]) (st1 := [.ref 8, .ref 12]) 1 rfl rfl rfl ?_
    refine zGetI (F := 470) (I := 0) (v := l 470 0) rfl rfl icSize rfl ?_
    refine zPs (pc1 := 50) (l1 := [(0, .ref 8), (1, .int a), (2, .int b), (3, .int e), (4, .int f)]) (st1 := [.int f, .int (l 470 0), .ref 12]) 1 rfl rfl rfl ?_
    refine zIasE (n := (l 470 0).toNatClampNeg) (F := 474) (I := (l 470 0).toNatClampNeg) h2.2 rfl (icWhen h2.1) ?_
    refine zPs (pc1 := 53) (l1 := [(0, .ref 8), (1, .int a), (2, .int b), (3, .int e), (4, .int f)]) (st1 := [.ref 8, .ref 8]) 2 rfl rfl rfl ?_
    refine zGetI (F := 470) (I := 0) (v := l 470 0) rfl rfl icSize rfl ?_
    refine zPs (pc1 := 58) (l1 := [(0, .ref 8), (1, .int a), (2, .int b), (3, .int e), (4, .int f)]) (st1 := [.int (l 470 0 + (1 : Int32)), .ref 8]) 2 rfl rfl rfl ?_
    refine zPutI (F := 470) (I := 0) rfl rfl icSize rfl ?_
    refine zRv rfl rfl ?_
    exact k
theorem ci_4 {l : Sg} {n : Nat} {a : Int32} {b : Int32} {e : Int32} {f : Int32} (h : CI l n) : CI (f_4 a b e f l) n := by
  unfold f_4
  split
  · exact h
  · rename_i hz
    have hq := CI_szn h hz
    rw [← i32_s1 hq.2]
    exact CI_sz (CI_up (CI_up (CI_up (CI_up h rfl) rfl) rfl) rfl) (by omega)
noncomputable def g_6  : Nat → Nat → Sg → Sg
  | 0, _, l => (if l 470 0 ≤ i32 1024 then l else l)
  | d + 1, j, l => (if l 470 0 ≤ i32 j then l else (if l 471 j < 0 then g_6  d (j + 1)  l else (if (60 : Int32) ≤ l 471 j then g_6  d (j + 1)  l else (if ¬ l 472 j = (-1 : Int32) then g_6  d (j + 1)  (up2 l 475 ((l 471 j).toNatClampNeg) (i32 j)) else g_6  d (j + 1)  (up2 l 475 ((l 471 j).toNatClampNeg) (-1 : Int32))))))
theorem lg_6 {P : MO → Sg → Prop} {rc rs : Nat} {n : Nat} (hl : n ≤ 60)  : ∀ (d j : Nat) (l : Sg), j + d = 1024 → CI l n → Rk (Qm P) (g_6  d j  l) → Ws false 6 rc rs 10 [(1, .int (i32 j)), (0, .ref 8)] [] l P := by
  intro d
  induction d with
  | zero =>
    intro j l hj hCI k
    obtain rfl : 1024 = j := by omega
    rw [g_6] at k
    refine zPs (pc1 := 12) (l1 := [(1, .int (i32 1024)), (0, .ref 8)]) (st1 := [.ref 8, .int (i32 1024)]) 2 rfl rfl rfl ?_
    refine zGetI (F := 470) (I := 0) (v := l 470 0) rfl rfl icSize rfl ?_
    refine zCge rfl (fun h1 => ?_) (fun h1 => ?_)
    · replace k := ite_t h1 k
      refine zRv rfl rfl ?_
      exact k
    · replace k := ite_f h1 k
      refine zPs (pc1 := 22) (l1 := [(1, .int (i32 1024)), (0, .ref 8)]) (st1 := [.int (1024 : Int32), .int (i32 1024)]) 2 rfl rfl rfl ?_
      refine nCge (a := 1024) (b := 1024) (by omega) (by omega) rfl (fun h2 => ?_) (fun h2 => absurd (Nat.le_refl _) h2)
      refine zRv rfl rfl ?_
      exact k
  | succ d ih =>
    intro j l hj hCI k
    have hjl : j < 1024 := by omega
    rw [g_6] at k
    refine zPs (pc1 := 12) (l1 := [(1, .int (i32 j)), (0, .ref 8)]) (st1 := [.ref 8, .int (i32 j)]) 2 rfl rfl rfl ?_
    refine zGetI (F := 470) (I := 0) (v := l 470 0) rfl rfl icSize rfl ?_
    refine zCge rfl (fun h1 => ?_) (fun h1 => ?_)
    · replace k := ite_t h1 k
      refine zRv rfl rfl ?_
      exact k
    · replace k := ite_f h1 k
      refine zPs (pc1 := 22) (l1 := [(1, .int (i32 j)), (0, .ref 8)]) (st1 := [.int (1024 : Int32), .int (i32 j)]) 2 rfl rfl rfl ?_
      refine nCge (a := j) (b := 1024) (by omega) (by omega) rfl (fun h2 => absurd h2 (by omega)) (fun h2 => ?_)
      refine zPs (pc1 := 26) (l1 := [(1, .int (i32 j)), (0, .ref 8)]) (st1 := [.ref 8]) 1 rfl rfl rfl ?_
      refine zGetR (r := 9) rfl rfl ⟨by decide, rfl, by decide, rfl⟩ ?_
      refine zPs (pc1 := 30) (l1 := [(1, .int (i32 j)), (0, .ref 8)]) (st1 := [.int (i32 j), .ref 9]) 1 rfl rfl rfl ?_
      refine zIal (n := j) (v := l 471 j) rfl (icWho (by omega)) rfl ?_
      refine zPs (pc1 := 33) (l1 := [(2, .int (l 471 j)), (1, .int (i32 j)), (0, .ref 8)]) (st1 := [.int (l 471 j)]) 2 rfl rfl rfl ?_
      refine zIflt rfl (fun h3 => ?_) (fun h3 => ?_)
      · replace k := ite_t h3 k
        refine zPs (pc1 := 66) (l1 := [(1, .int (i32 j + (1 : Int32))), (2, .int (l 471 j)), (0, .ref 8)]) (st1 := []) 1 rfl rfl rfl ?_
        refine zTo (ml' := [(1, .int (i32 (j + 1))), (2, .int (l 471 j)), (0, .ref 8)]) (st' := []) (by rw [show (i32 j + (1 : Int32)) = i32 (j + 1) from i32_add j 1]) rfl ?_
        refine zPs (pc1 := 10) (l1 := [(1, .int (i32 (j + 1))), (2, .int (l 471 j)), (0, .ref 8)]) (st1 := []) 1 rfl rfl rfl ?_
        refine zMl (ml' := [(1, .int (i32 (j + 1))), (0, .ref 8)]) ⟨rfl, rfl, trivial⟩ rfl rfl ?_
        exact ih (j + 1) l (by omega) hCI k
      · replace k := ite_f h3 k
        refine zPs (pc1 := 39) (l1 := [(2, .int (l 471 j)), (1, .int (i32 j)), (0, .ref 8)]) (st1 := [.int (60 : Int32), .int (l 471 j)]) 2 rfl rfl rfl ?_
        refine zCge rfl (fun h4 => ?_) (fun h4 => ?_)
        · replace k := ite_t h4 k
          refine zPs (pc1 := 66) (l1 := [(1, .int (i32 j + (1 : Int32))), (2, .int (l 471 j)), (0, .ref 8)]) (st1 := []) 1 rfl rfl rfl ?_
          refine zTo (ml' := [(1, .int (i32 (j + 1))), (2, .int (l 471 j)), (0, .ref 8)]) (st' := []) (by rw [show (i32 j + (1 : Int32)) = i32 (j + 1) from i32_add j 1]) rfl ?_
          refine zPs (pc1 := 10) (l1 := [(1, .int (i32 (j + 1))), (2, .int (l 471 j)), (0, .ref 8)]) (st1 := []) 1 rfl rfl rfl ?_
          refine zMl (ml' := [(1, .int (i32 (j + 1))), (0, .ref 8)]) ⟨rfl, rfl, trivial⟩ rfl rfl ?_
          exact ih (j + 1) l (by omega) hCI k
        · replace k := ite_f h4 k
          have h5 := rng_i32 (x := l 471 j) (b := 60) (by decide) (Int32.not_lt.mp h3) (Int32.not_le.mp h4)
          refine zPs (pc1 := 43) (l1 := [(2, .int (l 471 j)), (1, .int (i32 j)), (0, .ref 8)]) (st1 := [.ref 8]) 1 rfl rfl rfl ?_
          refine zGetR (r := 13) rfl rfl ⟨by decide, rfl, by decide, rfl⟩ ?_
          refine zPs (pc1 := 48) (l1 := [(2, .int (l 471 j)), (1, .int (i32 j)), (0, .ref 8)]) (st1 := [.ref 8, .int (l 471 j), .ref 13]) 2 rfl rfl rfl ?_
          refine zGetR (r := 10) rfl rfl ⟨by decide, rfl, by decide, rfl⟩ ?_
          refine zPs (pc1 := 52) (l1 := [(2, .int (l 471 j)), (1, .int (i32 j)), (0, .ref 8)]) (st1 := [.int (i32 j), .ref 10, .int (l 471 j), .ref 13]) 1 rfl rfl rfl ?_
          refine zIal (n := j) (v := l 472 j) rfl (icSkl (by omega)) rfl ?_
          refine zPs (pc1 := 54) (l1 := [(2, .int (l 471 j)), (1, .int (i32 j)), (0, .ref 8)]) (st1 := [.int (-1 : Int32), .int (l 472 j), .int (l 471 j), .ref 13]) 1 rfl rfl rfl ?_
          refine zCn rfl (fun h6 => ?_) (fun h6 => ?_)
          · replace k := ite_t h6 k
            refine zPs (pc1 := 62) (l1 := [(2, .int (l 471 j)), (1, .int (i32 j)), (0, .ref 8)]) (st1 := [.int (i32 j), .int (l 471 j), .ref 13]) 1 rfl rfl rfl ?_
            refine zIasE (n := (l 471 j).toNatClampNeg) (F := 475) (I := (l 471 j).toNatClampNeg) h5.2 rfl (icOpen h5.1) ?_
            refine zPs (pc1 := 66) (l1 := [(1, .int (i32 j + (1 : Int32))), (2, .int (l 471 j)), (0, .ref 8)]) (st1 := []) 1 rfl rfl rfl ?_
            refine zTo (ml' := [(1, .int (i32 (j + 1))), (2, .int (l 471 j)), (0, .ref 8)]) (st' := []) (by rw [show (i32 j + (1 : Int32)) = i32 (j + 1) from i32_add j 1]) rfl ?_
            refine zPs (pc1 := 10) (l1 := [(1, .int (i32 (j + 1))), (2, .int (l 471 j)), (0, .ref 8)]) (st1 := []) 1 rfl rfl rfl ?_
            refine zMl (ml' := [(1, .int (i32 (j + 1))), (0, .ref 8)]) ⟨rfl, rfl, trivial⟩ rfl rfl ?_
            exact ih (j + 1) (up2 l 475 ((l 471 j).toNatClampNeg) (i32 j)) (by omega) (CI_up hCI rfl) k
          · replace k := ite_f (not_not_intro h6) k
            refine zPs (pc1 := 62) (l1 := [(2, .int (l 471 j)), (1, .int (i32 j)), (0, .ref 8)]) (st1 := [.int (-1 : Int32), .int (l 471 j), .ref 13]) 2 rfl rfl rfl ?_
            refine zIasE (n := (l 471 j).toNatClampNeg) (F := 475) (I := (l 471 j).toNatClampNeg) h5.2 rfl (icOpen h5.1) ?_
            refine zPs (pc1 := 66) (l1 := [(1, .int (i32 j + (1 : Int32))), (2, .int (l 471 j)), (0, .ref 8)]) (st1 := []) 1 rfl rfl rfl ?_
            refine zTo (ml' := [(1, .int (i32 (j + 1))), (2, .int (l 471 j)), (0, .ref 8)]) (st' := []) (by rw [show (i32 j + (1 : Int32)) = i32 (j + 1) from i32_add j 1]) rfl ?_
            refine zPs (pc1 := 10) (l1 := [(1, .int (i32 (j + 1))), (2, .int (l 471 j)), (0, .ref 8)]) (st1 := []) 1 rfl rfl rfl ?_
            refine zMl (ml' := [(1, .int (i32 (j + 1))), (0, .ref 8)]) ⟨rfl, rfl, trivial⟩ rfl rfl ?_
            exact ih (j + 1) (up2 l 475 ((l 471 j).toNatClampNeg) (-1 : Int32)) (by omega) (CI_up hCI rfl) k
theorem ci_g_6 {n : Nat}  : ∀ (d j : Nat) (l : Sg), CI l n → CI (g_6  d j  l) n := by
  intro d
  induction d with
  | zero =>
    intro j l h
    rw [g_6]
    (repeat' first | with_reducible exact h | with_reducible refine CI_ite ?_ ?_ | with_reducible refine CI_ite2 ?_ ?_ | with_reducible refine CI_ite3 ?_ ?_ | with_reducible refine CI_bnd ?_ | with_reducible refine CI_bnd' ?_ | with_reducible refine CI_bnd3 ?_ | with_reducible refine CI_bnd2 ?_ | with_reducible refine CI_bnd2' ?_ | with_reducible refine CI_bnd23 ?_ | with_reducible refine CI_up ?_ ?_ | with_reducible refine ci_1 ?_ | with_reducible refine ci_2 ?_ | with_reducible refine ci_17 ?_ | with_reducible refine ci_18 ?_ | with_reducible refine ci_19 ?_ | with_reducible refine ci_20 ?_ | with_reducible refine ci_25 ?_ | with_reducible refine ci_g_181 _ _ _ ?_ | with_reducible refine ci_181 ?_ | with_reducible refine ci_4 ?_) <;> rfl
  | succ d ih =>
    intro j l h
    rw [g_6]
    (repeat' first | with_reducible exact h | with_reducible refine CI_ite ?_ ?_ | with_reducible refine CI_ite2 ?_ ?_ | with_reducible refine CI_ite3 ?_ ?_ | with_reducible refine CI_bnd ?_ | with_reducible refine CI_bnd' ?_ | with_reducible refine CI_bnd3 ?_ | with_reducible refine CI_bnd2 ?_ | with_reducible refine CI_bnd2' ?_ | with_reducible refine CI_bnd23 ?_ | with_reducible refine CI_up ?_ ?_ | with_reducible refine ci_1 ?_ | with_reducible refine ci_2 ?_ | with_reducible refine ci_17 ?_ | with_reducible refine ci_18 ?_ | with_reducible refine ci_19 ?_ | with_reducible refine ci_20 ?_ | with_reducible refine ci_25 ?_ | with_reducible refine ci_g_181 _ _ _ ?_ | with_reducible refine ci_181 ?_ | with_reducible refine ci_4 ?_ | with_reducible refine ih _ _ ?_) <;> rfl
noncomputable def f_6  (l : Sg) : Sg := (bnd (f_181 (-1 : Int32) l) fun l1 => g_6  1024 0  l1)
theorem e_6 {l : Sg} {P : MO → Sg → Prop} {n : Nat}  (hl : n ≤ 60) (hCI : CI l n)  (k : Rk (Qm P) (f_6  l)) : Es false 6 [.ref 8] l P := by
  unfold f_6 at k
  refine Es.of ?_
  refine zPs (pc1 := 1) (l1 := [(0, .ref 8)]) (st1 := [.ref 8]) 1 rfl rfl rfl ?_
  refine zGetR (r := 13) rfl rfl ⟨by decide, rfl, by decide, rfl⟩ ?_
  refine zPs (pc1 := 5) (l1 := [(0, .ref 8)]) (st1 := [.int (-1 : Int32), .ref 13]) 1 rfl rfl rfl ?_
  refine zCs (mj := 181) rfl rfl rfl rfl rfl rfl rfl rfl ?_
  refine e_181 hl hCI ?_
  refine kV ?_
  have hCI1 : CI (f_181 (-1 : Int32) l) n := ci_181 hCI
  replace k := bnd_i k
  generalize f_181 (-1 : Int32) l = l1 at k hCI1 ⊢
  refine zPs (pc1 := 10) (l1 := [(1, .int (0 : Int32)), (0, .ref 8)]) (st1 := []) 2 rfl rfl rfl ?_
  refine zMl (ml' := [(1, .int (i32 0)), (0, .ref 8)]) ⟨rfl, rfl, trivial⟩ rfl rfl ?_
  exact lg_6 hl 1024 0  l1 (by omega) hCI1 k
theorem ci_6 {l : Sg} {n : Nat}  (h : CI l n) : CI (f_6  l) n := by
  unfold f_6
  (repeat' first | with_reducible exact h | with_reducible refine CI_ite ?_ ?_ | with_reducible refine CI_ite2 ?_ ?_ | with_reducible refine CI_ite3 ?_ ?_ | with_reducible refine CI_bnd ?_ | with_reducible refine CI_bnd' ?_ | with_reducible refine CI_bnd3 ?_ | with_reducible refine CI_bnd2 ?_ | with_reducible refine CI_bnd2' ?_ | with_reducible refine CI_bnd23 ?_ | with_reducible refine CI_up ?_ ?_ | with_reducible refine ci_1 ?_ | with_reducible refine ci_2 ?_ | with_reducible refine ci_17 ?_ | with_reducible refine ci_18 ?_ | with_reducible refine ci_19 ?_ | with_reducible refine ci_20 ?_ | with_reducible refine ci_25 ?_ | with_reducible refine ci_g_181 _ _ _ ?_ | with_reducible refine ci_181 ?_ | with_reducible refine ci_4 ?_ | with_reducible refine ci_g_6 _ _ _ ?_) <;> rfl
noncomputable def g_5  : Nat → Nat → Nat → Sg → Sg
  | 0, _, q, l => (if l 470 0 ≤ i32 1024 then (up2 l 470 0 (i32 q)) else (up2 l 470 0 (i32 q)))
  | d + 1, j, q, l => (if l 470 0 ≤ i32 j then (up2 l 470 0 (i32 q)) else (if l 471 j < 0 then g_5  d (j + 1) q l else (if (60 : Int32) ≤ l 471 j then g_5  d (j + 1) q l else (if ¬ l 475 ((l 471 j).toNatClampNeg) = i32 j then g_5  d (j + 1) q l else g_5  d (j + 1) (q + 1) (up2 (up2 (up2 (up2 l 471 q (l 471 j)) 472 q (l 472 j)) 473 q (l 473 j)) 474 q (l 474 j))))))
theorem lg_5 {P : MO → Sg → Prop} {rc rs : Nat} {n : Nat} (hl : n ≤ 60)  : ∀ (d j : Nat) (q : Nat) (l : Sg), j + d = 1024 → CI l n → q ≤ j → Rk (Qm P) (g_5  d j q l) → Ws false 5 rc rs 19 [(2, .int (i32 j)), (1, .int (i32 q)), (0, .ref 8)] [] l P := by
  intro d
  induction d with
  | zero =>
    intro j q l hj hCI hqj k
    obtain rfl : 1024 = j := by omega
    rw [g_5] at k
    refine zPs (pc1 := 21) (l1 := [(2, .int (i32 1024)), (1, .int (i32 q)), (0, .ref 8)]) (st1 := [.ref 8, .int (i32 1024)]) 2 rfl rfl rfl ?_
    refine zGetI (F := 470) (I := 0) (v := l 470 0) rfl rfl icSize rfl ?_
    refine zCge rfl (fun h1 => ?_) (fun h1 => ?_)
    · replace k := ite_t h1 k
      refine zPs (pc1 := 120) (l1 := [(2, .int (i32 1024)), (1, .int (i32 q)), (0, .ref 8)]) (st1 := [.int (i32 q), .ref 8]) 2 rfl rfl rfl ?_
      refine zPutI (F := 470) (I := 0) rfl rfl icSize rfl ?_
      refine zRv rfl rfl ?_
      exact k
    · replace k := ite_f h1 k
      refine zPs (pc1 := 31) (l1 := [(2, .int (i32 1024)), (1, .int (i32 q)), (0, .ref 8)]) (st1 := [.int (1024 : Int32), .int (i32 1024)]) 2 rfl rfl rfl ?_
      refine nCge (a := 1024) (b := 1024) (by omega) (by omega) rfl (fun h2 => ?_) (fun h2 => absurd (Nat.le_refl _) h2)
      refine zPs (pc1 := 120) (l1 := [(2, .int (i32 1024)), (1, .int (i32 q)), (0, .ref 8)]) (st1 := [.int (i32 q), .ref 8]) 2 rfl rfl rfl ?_
      refine zPutI (F := 470) (I := 0) rfl rfl icSize rfl ?_
      refine zRv rfl rfl ?_
      exact k
  | succ d ih =>
    intro j q l hj hCI hqj k
    have hjl : j < 1024 := by omega
    rw [g_5] at k
    refine zPs (pc1 := 21) (l1 := [(2, .int (i32 j)), (1, .int (i32 q)), (0, .ref 8)]) (st1 := [.ref 8, .int (i32 j)]) 2 rfl rfl rfl ?_
    refine zGetI (F := 470) (I := 0) (v := l 470 0) rfl rfl icSize rfl ?_
    refine zCge rfl (fun h1 => ?_) (fun h1 => ?_)
    · replace k := ite_t h1 k
      refine zPs (pc1 := 120) (l1 := [(2, .int (i32 j)), (1, .int (i32 q)), (0, .ref 8)]) (st1 := [.int (i32 q), .ref 8]) 2 rfl rfl rfl ?_
      refine zPutI (F := 470) (I := 0) rfl rfl icSize rfl ?_
      refine zRv rfl rfl ?_
      exact k
    · replace k := ite_f h1 k
      refine zPs (pc1 := 31) (l1 := [(2, .int (i32 j)), (1, .int (i32 q)), (0, .ref 8)]) (st1 := [.int (1024 : Int32), .int (i32 j)]) 2 rfl rfl rfl ?_
      refine nCge (a := j) (b := 1024) (by omega) (by omega) rfl (fun h2 => absurd h2 (by omega)) (fun h2 => ?_)
      refine zPs (pc1 := 35) (l1 := [(2, .int (i32 j)), (1, .int (i32 q)), (0, .ref 8)]) (st1 := [.ref 8]) 1 rfl rfl rfl ?_
      refine zGetR (r := 9) rfl rfl ⟨by decide, rfl, by decide, rfl⟩ ?_
      refine zPs (pc1 := 39) (l1 := [(2, .int (i32 j)), (1, .int (i32 q)), (0, .ref 8)]) (st1 := [.int (i32 j), .ref 9]) 1 rfl rfl rfl ?_
      refine zIal (n := j) (v := l 471 j) rfl (icWho (by omega)) rfl ?_
      refine zPs (pc1 := 42) (l1 := [(3, .int (l 471 j)), (2, .int (i32 j)), (1, .int (i32 q)), (0, .ref 8)]) (st1 := [.int (l 471 j)]) 2 rfl rfl rfl ?_
      refine zIflt rfl (fun h3 => ?_) (fun h3 => ?_)
      · replace k := ite_t h3 k
        refine zPs (pc1 := 115) (l1 := [(2, .int (i32 j + (1 : Int32))), (3, .int (l 471 j)), (1, .int (i32 q)), (0, .ref 8)]) (st1 := []) 1 rfl rfl rfl ?_
        refine zTo (ml' := [(2, .int (i32 (j + 1))), (3, .int (l 471 j)), (1, .int (i32 q)), (0, .ref 8)]) (st' := []) (by rw [show (i32 j + (1 : Int32)) = i32 (j + 1) from i32_add j 1]) rfl ?_
        refine zPs (pc1 := 19) (l1 := [(2, .int (i32 (j + 1))), (3, .int (l 471 j)), (1, .int (i32 q)), (0, .ref 8)]) (st1 := []) 1 rfl rfl rfl ?_
        refine zMl (ml' := [(2, .int (i32 (j + 1))), (1, .int (i32 q)), (0, .ref 8)]) ⟨rfl, rfl, rfl, trivial⟩ rfl rfl ?_
        exact ih (j + 1) q l (by omega) hCI (by omega) k
      · replace k := ite_f h3 k
        refine zPs (pc1 := 48) (l1 := [(3, .int (l 471 j)), (2, .int (i32 j)), (1, .int (i32 q)), (0, .ref 8)]) (st1 := [.int (60 : Int32), .int (l 471 j)]) 2 rfl rfl rfl ?_
        refine zCge rfl (fun h4 => ?_) (fun h4 => ?_)
        · replace k := ite_t h4 k
          refine zPs (pc1 := 115) (l1 := [(2, .int (i32 j + (1 : Int32))), (3, .int (l 471 j)), (1, .int (i32 q)), (0, .ref 8)]) (st1 := []) 1 rfl rfl rfl ?_
          refine zTo (ml' := [(2, .int (i32 (j + 1))), (3, .int (l 471 j)), (1, .int (i32 q)), (0, .ref 8)]) (st' := []) (by rw [show (i32 j + (1 : Int32)) = i32 (j + 1) from i32_add j 1]) rfl ?_
          refine zPs (pc1 := 19) (l1 := [(2, .int (i32 (j + 1))), (3, .int (l 471 j)), (1, .int (i32 q)), (0, .ref 8)]) (st1 := []) 1 rfl rfl rfl ?_
          refine zMl (ml' := [(2, .int (i32 (j + 1))), (1, .int (i32 q)), (0, .ref 8)]) ⟨rfl, rfl, rfl, trivial⟩ rfl rfl ?_
          exact ih (j + 1) q l (by omega) hCI (by omega) k
        · replace k := ite_f h4 k
          have h5 := rng_i32 (x := l 471 j) (b := 60) (by decide) (Int32.not_lt.mp h3) (Int32.not_le.mp h4)
          refine zPs (pc1 := 52) (l1 := [(3, .int (l 471 j)), (2, .int (i32 j)), (1, .int (i32 q)), (0, .ref 8)]) (st1 := [.ref 8]) 1 rfl rfl rfl ?_
          refine zGetR (r := 13) rfl rfl ⟨by decide, rfl, by decide, rfl⟩ ?_
          refine zPs (pc1 := 56) (l1 := [(3, .int (l 471 j)), (2, .int (i32 j)), (1, .int (i32 q)), (0, .ref 8)]) (st1 := [.int (l 471 j), .ref 13]) 1 rfl rfl rfl ?_
          refine zIalE (n := (l 471 j).toNatClampNeg) (v := l 475 ((l 471 j).toNatClampNeg)) h5.2 rfl (icOpen h5.1) rfl ?_
          refine zPs (pc1 := 58) (l1 := [(3, .int (l 471 j)), (2, .int (i32 j)), (1, .int (i32 q)), (0, .ref 8)]) (st1 := [.int (i32 j), .int (l 475 ((l 471 j).toNatClampNeg))]) 1 rfl rfl rfl ?_
          refine zCn rfl (fun h6 => ?_) (fun h6 => ?_)
          · replace k := ite_t h6 k
            refine zPs (pc1 := 115) (l1 := [(2, .int (i32 j + (1 : Int32))), (3, .int (l 471 j)), (1, .int (i32 q)), (0, .ref 8)]) (st1 := []) 1 rfl rfl rfl ?_
            refine zTo (ml' := [(2, .int (i32 (j + 1))), (3, .int (l 471 j)), (1, .int (i32 q)), (0, .ref 8)]) (st' := []) (by rw [show (i32 j + (1 : Int32)) = i32 (j + 1) from i32_add j 1]) rfl ?_
            refine zPs (pc1 := 19) (l1 := [(2, .int (i32 (j + 1))), (3, .int (l 471 j)), (1, .int (i32 q)), (0, .ref 8)]) (st1 := []) 1 rfl rfl rfl ?_
            refine zMl (ml' := [(2, .int (i32 (j + 1))), (1, .int (i32 q)), (0, .ref 8)]) ⟨rfl, rfl, rfl, trivial⟩ rfl rfl ?_
            exact ih (j + 1) q l (by omega) hCI (by omega) k
          · replace k := ite_f (not_not_intro h6) k
            refine zPs (pc1 := 63) (l1 := [(3, .int (l 471 j)), (2, .int (i32 j)), (1, .int (i32 q)), (0, .ref 8)]) (st1 := [.int (i32 j), .int (i32 q)]) 2 rfl rfl rfl ?_
            refine nCgt (a := q) (b := j) (by omega) (by omega) rfl (fun h7 => absurd h7 (by omega)) (fun h7 => ?_)
            refine zPs (pc1 := 67) (l1 := [(3, .int (l 471 j)), (2, .int (i32 j)), (1, .int (i32 q)), (0, .ref 8)]) (st1 := [.ref 8]) 1 rfl rfl rfl ?_
            refine zGetR (r := 9) rfl rfl ⟨by decide, rfl, by decide, rfl⟩ ?_
            refine zPs (pc1 := 72) (l1 := [(3, .int (l 471 j)), (2, .int (i32 j)), (1, .int (i32 q)), (0, .ref 8)]) (st1 := [.int (l 471 j), .int (i32 q), .ref 9]) 2 rfl rfl rfl ?_
            refine zIas (n := q) (F := 471) (I := q) rfl (icWho (by omega)) ?_
            refine zPs (pc1 := 74) (l1 := [(3, .int (l 471 j)), (2, .int (i32 j)), (1, .int (i32 q)), (0, .ref 8)]) (st1 := [.ref 8]) 1 rfl rfl rfl ?_
            refine zGetR (r := 10) rfl rfl ⟨by decide, rfl, by decide, rfl⟩ ?_
            refine zPs (pc1 := 79) (l1 := [(3, .int (l 471 j)), (2, .int (i32 j)), (1, .int (i32 q)), (0, .ref 8)]) (st1 := [.ref 8, .int (i32 q), .ref 10]) 2 rfl rfl rfl ?_
            refine zGetR (r := 10) rfl rfl ⟨by decide, rfl, by decide, rfl⟩ ?_
            refine zPs (pc1 := 83) (l1 := [(3, .int (l 471 j)), (2, .int (i32 j)), (1, .int (i32 q)), (0, .ref 8)]) (st1 := [.int (i32 j), .ref 10, .int (i32 q), .ref 10]) 1 rfl rfl rfl ?_
            refine zIal (n := j) (v := l 472 j) rfl (icSkl (by omega)) rfl ?_
            refine zIas (n := q) (F := 472) (I := q) rfl (icSkl (by omega)) ?_
            refine zPs (pc1 := 86) (l1 := [(3, .int (l 471 j)), (2, .int (i32 j)), (1, .int (i32 q)), (0, .ref 8)]) (st1 := [.ref 8]) 1 rfl rfl rfl ?_
            refine zGetR (r := 11) rfl rfl ⟨by decide, rfl, by decide, rfl⟩ ?_
            refine zPs (pc1 := 91) (l1 := [(3, .int (l 471 j)), (2, .int (i32 j)), (1, .int (i32 q)), (0, .ref 8)]) (st1 := [.ref 8, .int (i32 q), .ref 11]) 2 rfl rfl rfl ?_
            refine zGetR (r := 11) rfl rfl ⟨by decide, rfl, by decide, rfl⟩ ?_
            refine zPs (pc1 := 95) (l1 := [(3, .int (l 471 j)), (2, .int (i32 j)), (1, .int (i32 q)), (0, .ref 8)]) (st1 := [.int (i32 j), .ref 11, .int (i32 q), .ref 11]) 1 rfl rfl rfl ?_
            refine zIal (n := j) (v := l 473 j) rfl (icPri (by omega)) rfl ?_
            refine zIas (n := q) (F := 473) (I := q) rfl (icPri (by omega)) ?_
            refine zPs (pc1 := 98) (l1 := [(3, .int (l 471 j)), (2, .int (i32 j)), (1, .int (i32 q)), (0, .ref 8)]) (st1 := [.ref 8]) 1 rfl rfl rfl ?_
            refine zGetR (r := 12) rfl rfl ⟨by decide, rfl, by decide, rfl⟩ ?_
            refine zPs (pc1 := 103) (l1 := [(3, .int (l 471 j)), (2, .int (i32 j)), (1, .int (i32 q)), (0, .ref 8)]) (st1 := [.ref 8, .int (i32 q), .ref 12]) 2 rfl rfl rfl ?_
            refine zGetR (r := 12) rfl rfl ⟨by decide, rfl, by decide, rfl⟩ ?_
            refine zPs (pc1 := 107) (l1 := [(3, .int (l 471 j)), (2, .int (i32 j)), (1, .int (i32 q)), (0, .ref 8)]) (st1 := [.int (i32 j), .ref 12, .int (i32 q), .ref 12]) 1 rfl rfl rfl ?_
            refine zIal (n := j) (v := l 474 j) rfl (icWhen (by omega)) rfl ?_
            refine zIas (n := q) (F := 474) (I := q) rfl (icWhen (by omega)) ?_
            refine zPs (pc1 := 112) (l1 := [(1, .int (i32 q + (1 : Int32))), (3, .int (l 471 j)), (2, .int (i32 j)), (0, .ref 8)]) (st1 := []) 1 rfl rfl rfl ?_
            refine zTo (ml' := [(1, .int (i32 (q + 1))), (3, .int (l 471 j)), (2, .int (i32 j)), (0, .ref 8)]) (st' := []) (by rw [show (i32 q + (1 : Int32)) = i32 (q + 1) from i32_add q 1]) rfl ?_
            refine zPs (pc1 := 115) (l1 := [(2, .int (i32 j + (1 : Int32))), (1, .int (i32 (q + 1))), (3, .int (l 471 j)), (0, .ref 8)]) (st1 := []) 1 rfl rfl rfl ?_
            refine zTo (ml' := [(2, .int (i32 (j + 1))), (1, .int (i32 (q + 1))), (3, .int (l 471 j)), (0, .ref 8)]) (st' := []) (by rw [show (i32 j + (1 : Int32)) = i32 (j + 1) from i32_add j 1]) rfl ?_
            refine zPs (pc1 := 19) (l1 := [(2, .int (i32 (j + 1))), (1, .int (i32 (q + 1))), (3, .int (l 471 j)), (0, .ref 8)]) (st1 := []) 1 rfl rfl rfl ?_
            refine zMl (ml' := [(2, .int (i32 (j + 1))), (1, .int (i32 (q + 1))), (0, .ref 8)]) ⟨rfl, rfl, rfl, trivial⟩ rfl rfl ?_
            exact ih (j + 1) (q + 1) (up2 (up2 (up2 (up2 l 471 q (l 471 j)) 472 q (l 472 j)) 473 q (l 473 j)) 474 q (l 474 j)) (by omega) (CI_up (CI_up (CI_up (CI_up hCI rfl) rfl) rfl) rfl) (by omega) k
theorem ci_g_5 {n : Nat} : ∀ (d j q : Nat) (l : Sg), j + d = 1024 → q ≤ j → CI l n → CI (g_5 d j q l) n := by
  intro d
  induction d with
  | zero =>
    intro j q l hj hq h
    rw [g_5]
    (repeat' first | with_reducible exact h | with_reducible refine CI_ite ?_ ?_ | with_reducible refine CI_sz ?_ ?_ | with_reducible refine CI_up ?_ ?_) <;> first | rfl | omega
  | succ d ih =>
    intro j q l hj hq h
    rw [g_5]
    (repeat' first | with_reducible exact h | with_reducible refine CI_ite ?_ ?_ | with_reducible refine ih _ _ _ ?_ ?_ ?_ | with_reducible refine CI_sz ?_ ?_ | with_reducible refine CI_up ?_ ?_) <;> first | rfl | omega
noncomputable def f_5  (l : Sg) : Sg := (if (512 : Int32) ≤ l 470 0 then (bnd (f_6 l) fun l2 => g_5 1024 0 0 l2) else l)
theorem e_5 {l : Sg} {P : MO → Sg → Prop} {n : Nat}  (hl : n ≤ 60) (hCI : CI l n)  (k : Rk (Qm P) (f_5  l)) : Es false 5 [.ref 8] l P := by
  unfold f_5 at k
  refine Es.of ?_
  refine zPs (pc1 := 1) (l1 := [(0, .ref 8)]) (st1 := [.ref 8]) 1 rfl rfl rfl ?_
  refine zGetI (F := 470) (I := 0) (v := l 470 0) rfl rfl icSize rfl ?_
  refine zPs (pc1 := 7) (l1 := [(0, .ref 8)]) (st1 := [.int (512 : Int32), .int (l 470 0)]) 1 rfl rfl rfl ?_
  refine zCge rfl (fun h1 => ?_) (fun h1 => ?_)
  · replace k := ite_t h1 k
    refine zPs (pc1 := 12) (l1 := [(0, .ref 8)]) (st1 := [.ref 8]) 1 rfl rfl rfl ?_
    refine zCv (mj := 6) (k := 8) (n := 0) rfl rfl rfl rfl (by decide) rfl rfl rfl rfl rfl rfl ?_
    refine e_6 hl hCI ?_
    refine kV ?_
    have hCI2 : CI (f_6 l) n := ci_6 hCI
    replace k := bnd_i k
    generalize f_6 l = l2 at k hCI2 ⊢
    refine zPs (pc1 := 19) (l1 := [(2, .int (0 : Int32)), (1, .int (0 : Int32)), (0, .ref 8)]) (st1 := []) 4 rfl rfl rfl ?_
    refine zMl (ml' := [(2, .int (i32 0)), (1, .int (i32 0)), (0, .ref 8)]) ⟨rfl, rfl, rfl, trivial⟩ rfl rfl ?_
    exact lg_5 hl 1024 0 0 l2 (by omega) hCI2 (by omega) k
  · replace k := ite_f h1 k
    refine zRv rfl rfl ?_
    exact k
theorem ci_5 {l : Sg} {n : Nat}  (h : CI l n) : CI (f_5  l) n := by
  unfold f_5
  (repeat' first | with_reducible exact h | with_reducible refine CI_ite ?_ ?_ | with_reducible refine CI_ite2 ?_ ?_ | with_reducible refine CI_ite3 ?_ ?_ | with_reducible refine CI_bnd ?_ | with_reducible refine CI_bnd' ?_ | with_reducible refine CI_bnd3 ?_ | with_reducible refine CI_bnd2 ?_ | with_reducible refine CI_bnd2' ?_ | with_reducible refine CI_bnd23 ?_ | with_reducible refine CI_up ?_ ?_ | with_reducible refine ci_1 ?_ | with_reducible refine ci_2 ?_ | with_reducible refine ci_17 ?_ | with_reducible refine ci_18 ?_ | with_reducible refine ci_19 ?_ | with_reducible refine ci_20 ?_ | with_reducible refine ci_25 ?_ | with_reducible refine ci_g_181 _ _ _ ?_ | with_reducible refine ci_181 ?_ | with_reducible refine ci_4 ?_ | with_reducible refine ci_g_6 _ _ _ ?_ | with_reducible refine ci_6 ?_ | with_reducible refine ci_g_5 _ _ _ _ (by omega) (by omega) ?_) <;> rfl
noncomputable def g_7 (x : Int32) (t : Int32) (o : Int32) (sc : Int32) : Nat → Nat → Int32 → Sg → Int32 × Sg
  | 0, _, a, l => (a, l)
  | d + 1, j, a, l => (if l 475 j < 0 then g_7 x t o sc d (j + 1) a l else (if (1024 : Int32) ≤ l 475 j then g_7 x t o sc d (j + 1) a l else (if ¬ l 472 ((l 475 j).toNatClampNeg) = l 472 o.toNatClampNeg then g_7 x t o sc d (j + 1) a l else (if (f_103 (f_104 (l 473 ((l 475 j).toNatClampNeg)) (t - l 474 ((l 475 j).toNatClampNeg))) (i32 j) sc x) = 0 then g_7 x t o sc d (j + 1) a l else g_7 x t o sc d (j + 1) (a + (1 : Int32)) l))))
theorem lg_7 {l : Sg} {P : MO → Sg → Prop} {rc rs : Nat} {x : Int32} {t : Int32} {o : Int32} {sc : Int32} (ho : o.toNatClampNeg < 1024 ∧ i32 o.toNatClampNeg = o) : ∀ (d j : Nat) (a : Int32), j + d = 60 → Rk (Qb P) (g_7 x t o sc d j a l) → Ws false 7 rc rs 61 [(6, .int (i32 j)), (5, .int a), (4, .int sc), (3, .int o), (0, .ref 8), (1, .int x), (2, .int t)] [] l P := by
  intro d
  induction d with
  | zero =>
    intro j a hj k
    obtain rfl : 60 = j := by omega
    rw [g_7] at k
    refine zPs (pc1 := 65) (l1 := [(6, .int (i32 60)), (5, .int a), (4, .int sc), (3, .int o), (0, .ref 8), (1, .int x), (2, .int t)]) (st1 := [.int (60 : Int32), .int (i32 60)]) 2 rfl rfl rfl ?_
    refine nCge (a := 60) (b := 60) (by omega) (by omega) rfl (fun h1 => ?_) (fun h1 => absurd (Nat.le_refl _) h1)
    refine zPs (pc1 := 159) (l1 := [(6, .int (i32 60)), (5, .int a), (4, .int sc), (3, .int o), (0, .ref 8), (1, .int x), (2, .int t)]) (st1 := [.int a]) 1 rfl rfl rfl ?_
    refine zRi rfl rfl ?_
    exact k
  | succ d ih =>
    intro j a hj k
    have hjl : j < 60 := by omega
    rw [g_7] at k
    refine zPs (pc1 := 65) (l1 := [(6, .int (i32 j)), (5, .int a), (4, .int sc), (3, .int o), (0, .ref 8), (1, .int x), (2, .int t)]) (st1 := [.int (60 : Int32), .int (i32 j)]) 2 rfl rfl rfl ?_
    refine nCge (a := j) (b := 60) (by omega) (by omega) rfl (fun h1 => absurd h1 (by omega)) (fun h1 => ?_)
    refine zPs (pc1 := 69) (l1 := [(6, .int (i32 j)), (5, .int a), (4, .int sc), (3, .int o), (0, .ref 8), (1, .int x), (2, .int t)]) (st1 := [.ref 8]) 1 rfl rfl rfl ?_
    refine zGetR (r := 13) rfl rfl ⟨by decide, rfl, by decide, rfl⟩ ?_
    refine zPs (pc1 := 74) (l1 := [(6, .int (i32 j)), (5, .int a), (4, .int sc), (3, .int o), (0, .ref 8), (1, .int x), (2, .int t)]) (st1 := [.int (i32 j), .ref 13]) 1 rfl rfl rfl ?_
    refine zIal (n := j) (v := l 475 j) rfl (icOpen (by omega)) rfl ?_
    refine zPs (pc1 := 79) (l1 := [(7, .int (l 475 j)), (6, .int (i32 j)), (5, .int a), (4, .int sc), (3, .int o), (0, .ref 8), (1, .int x), (2, .int t)]) (st1 := [.int (l 475 j)]) 2 rfl rfl rfl ?_
    refine zIflt rfl (fun h2 => ?_) (fun h2 => ?_)
    · replace k := ite_t h2 k
      refine zPs (pc1 := 154) (l1 := [(6, .int (i32 j + (1 : Int32))), (8, .int (0 : Int32)), (7, .int (l 475 j)), (5, .int a), (4, .int sc), (3, .int o), (0, .ref 8), (1, .int x), (2, .int t)]) (st1 := []) 5 rfl rfl rfl ?_
      refine zTo (ml' := [(6, .int (i32 (j + 1))), (8, .int (0 : Int32)), (7, .int (l 475 j)), (5, .int a), (4, .int sc), (3, .int o), (0, .ref 8), (1, .int x), (2, .int t)]) (st' := []) (by rw [show (i32 j + (1 : Int32)) = i32 (j + 1) from i32_add j 1]) rfl ?_
      refine zPs (pc1 := 61) (l1 := [(6, .int (i32 (j + 1))), (8, .int (0 : Int32)), (7, .int (l 475 j)), (5, .int a), (4, .int sc), (3, .int o), (0, .ref 8), (1, .int x), (2, .int t)]) (st1 := []) 1 rfl rfl rfl ?_
      refine zMl (ml' := [(6, .int (i32 (j + 1))), (5, .int a), (4, .int sc), (3, .int o), (0, .ref 8), (1, .int x), (2, .int t)]) ⟨rfl, rfl, rfl, rfl, rfl, rfl, rfl, trivial⟩ rfl rfl ?_
      exact ih (j + 1) a (by omega) k
    · replace k := ite_f h2 k
      refine zPs (pc1 := 87) (l1 := [(7, .int (l 475 j)), (6, .int (i32 j)), (5, .int a), (4, .int sc), (3, .int o), (0, .ref 8), (1, .int x), (2, .int t)]) (st1 := [.int (1024 : Int32), .int (l 475 j)]) 2 rfl rfl rfl ?_
      refine zCge rfl (fun h3 => ?_) (fun h3 => ?_)
      · replace k := ite_t h3 k
        refine zPs (pc1 := 154) (l1 := [(6, .int (i32 j + (1 : Int32))), (8, .int (0 : Int32)), (7, .int (l 475 j)), (5, .int a), (4, .int sc), (3, .int o), (0, .ref 8), (1, .int x), (2, .int t)]) (st1 := []) 5 rfl rfl rfl ?_
        refine zTo (ml' := [(6, .int (i32 (j + 1))), (8, .int (0 : Int32)), (7, .int (l 475 j)), (5, .int a), (4, .int sc), (3, .int o), (0, .ref 8), (1, .int x), (2, .int t)]) (st' := []) (by rw [show (i32 j + (1 : Int32)) = i32 (j + 1) from i32_add j 1]) rfl ?_
        refine zPs (pc1 := 61) (l1 := [(6, .int (i32 (j + 1))), (8, .int (0 : Int32)), (7, .int (l 475 j)), (5, .int a), (4, .int sc), (3, .int o), (0, .ref 8), (1, .int x), (2, .int t)]) (st1 := []) 1 rfl rfl rfl ?_
        refine zMl (ml' := [(6, .int (i32 (j + 1))), (5, .int a), (4, .int sc), (3, .int o), (0, .ref 8), (1, .int x), (2, .int t)]) ⟨rfl, rfl, rfl, rfl, rfl, rfl, rfl, trivial⟩ rfl rfl ?_
        exact ih (j + 1) a (by omega) k
      · replace k := ite_f h3 k
        have h4 := rng_i32 (x := l 475 j) (b := 1024) (by decide) (Int32.not_lt.mp h2) (Int32.not_le.mp h3)
        refine zPs (pc1 := 91) (l1 := [(7, .int (l 475 j)), (6, .int (i32 j)), (5, .int a), (4, .int sc), (3, .int o), (0, .ref 8), (1, .int x), (2, .int t)]) (st1 := [.ref 8]) 1 rfl rfl rfl ?_
        refine zGetR (r := 10) rfl rfl ⟨by decide, rfl, by decide, rfl⟩ ?_
        refine zPs (pc1 := 96) (l1 := [(7, .int (l 475 j)), (6, .int (i32 j)), (5, .int a), (4, .int sc), (3, .int o), (0, .ref 8), (1, .int x), (2, .int t)]) (st1 := [.int (l 475 j), .ref 10]) 1 rfl rfl rfl ?_
        refine zIalE (n := (l 475 j).toNatClampNeg) (v := l 472 ((l 475 j).toNatClampNeg)) h4.2 rfl (icSkl h4.1) rfl ?_
        refine zPs (pc1 := 98) (l1 := [(7, .int (l 475 j)), (6, .int (i32 j)), (5, .int a), (4, .int sc), (3, .int o), (0, .ref 8), (1, .int x), (2, .int t)]) (st1 := [.ref 8, .int (l 472 ((l 475 j).toNatClampNeg))]) 1 rfl rfl rfl ?_
        refine zGetR (r := 10) rfl rfl ⟨by decide, rfl, by decide, rfl⟩ ?_
        refine zPs (pc1 := 102) (l1 := [(7, .int (l 475 j)), (6, .int (i32 j)), (5, .int a), (4, .int sc), (3, .int o), (0, .ref 8), (1, .int x), (2, .int t)]) (st1 := [.int o, .ref 10, .int (l 472 ((l 475 j).toNatClampNeg))]) 1 rfl rfl rfl ?_
        refine zIalE (n := o.toNatClampNeg) (v := l 472 o.toNatClampNeg) ho.2 rfl (icSkl ho.1) rfl ?_
        refine zCn rfl (fun h5 => ?_) (fun h5 => ?_)
        · replace k := ite_t h5 k
          refine zPs (pc1 := 154) (l1 := [(6, .int (i32 j + (1 : Int32))), (8, .int (0 : Int32)), (7, .int (l 475 j)), (5, .int a), (4, .int sc), (3, .int o), (0, .ref 8), (1, .int x), (2, .int t)]) (st1 := []) 5 rfl rfl rfl ?_
          refine zTo (ml' := [(6, .int (i32 (j + 1))), (8, .int (0 : Int32)), (7, .int (l 475 j)), (5, .int a), (4, .int sc), (3, .int o), (0, .ref 8), (1, .int x), (2, .int t)]) (st' := []) (by rw [show (i32 j + (1 : Int32)) = i32 (j + 1) from i32_add j 1]) rfl ?_
          refine zPs (pc1 := 61) (l1 := [(6, .int (i32 (j + 1))), (8, .int (0 : Int32)), (7, .int (l 475 j)), (5, .int a), (4, .int sc), (3, .int o), (0, .ref 8), (1, .int x), (2, .int t)]) (st1 := []) 1 rfl rfl rfl ?_
          refine zMl (ml' := [(6, .int (i32 (j + 1))), (5, .int a), (4, .int sc), (3, .int o), (0, .ref 8), (1, .int x), (2, .int t)]) ⟨rfl, rfl, rfl, rfl, rfl, rfl, rfl, trivial⟩ rfl rfl ?_
          exact ih (j + 1) a (by omega) k
        · replace k := ite_f (not_not_intro h5) k
          refine zPs (pc1 := 119) (l1 := [(8, .int (1 : Int32)), (7, .int (l 475 j)), (6, .int (i32 j)), (5, .int a), (4, .int sc), (3, .int o), (0, .ref 8), (1, .int x), (2, .int t)]) (st1 := [.ref 8]) 6 rfl rfl rfl ?_
          refine zGetR (r := 11) rfl rfl ⟨by decide, rfl, by decide, rfl⟩ ?_
          refine zPs (pc1 := 124) (l1 := [(8, .int (1 : Int32)), (7, .int (l 475 j)), (6, .int (i32 j)), (5, .int a), (4, .int sc), (3, .int o), (0, .ref 8), (1, .int x), (2, .int t)]) (st1 := [.int (l 475 j), .ref 11]) 1 rfl rfl rfl ?_
          refine zIalE (n := (l 475 j).toNatClampNeg) (v := l 473 ((l 475 j).toNatClampNeg)) h4.2 rfl (icPri h4.1) rfl ?_
          refine zPs (pc1 := 127) (l1 := [(8, .int (1 : Int32)), (7, .int (l 475 j)), (6, .int (i32 j)), (5, .int a), (4, .int sc), (3, .int o), (0, .ref 8), (1, .int x), (2, .int t)]) (st1 := [.ref 8, .int t, .int (l 473 ((l 475 j).toNatClampNeg))]) 2 rfl rfl rfl ?_
          refine zGetR (r := 12) rfl rfl ⟨by decide, rfl, by decide, rfl⟩ ?_
          refine zPs (pc1 := 132) (l1 := [(8, .int (1 : Int32)), (7, .int (l 475 j)), (6, .int (i32 j)), (5, .int a), (4, .int sc), (3, .int o), (0, .ref 8), (1, .int x), (2, .int t)]) (st1 := [.int (l 475 j), .ref 12, .int t, .int (l 473 ((l 475 j).toNatClampNeg))]) 1 rfl rfl rfl ?_
          refine zIalE (n := (l 475 j).toNatClampNeg) (v := l 474 ((l 475 j).toNatClampNeg)) h4.2 rfl (icWhen h4.1) rfl ?_
          refine zPs (pc1 := 134) (l1 := [(8, .int (1 : Int32)), (7, .int (l 475 j)), (6, .int (i32 j)), (5, .int a), (4, .int sc), (3, .int o), (0, .ref 8), (1, .int x), (2, .int t)]) (st1 := [.int (t - l 474 ((l 475 j).toNatClampNeg)), .int (l 473 ((l 475 j).toNatClampNeg))]) 1 rfl rfl rfl ?_
          refine zCs (mj := 104) rfl rfl rfl rfl rfl rfl rfl rfl ?_
          refine e_104 ?_
          refine kI ?_
          refine zPs (pc1 := 142) (l1 := [(8, .int (1 : Int32)), (7, .int (l 475 j)), (6, .int (i32 j)), (5, .int a), (4, .int sc), (3, .int o), (0, .ref 8), (1, .int x), (2, .int t)]) (st1 := [.int x, .int sc, .int (i32 j), .int (f_104 (l 473 ((l 475 j).toNatClampNeg)) (t - l 474 ((l 475 j).toNatClampNeg)))]) 3 rfl rfl rfl ?_
          refine zCs (mj := 103) rfl rfl rfl rfl rfl rfl rfl rfl ?_
          refine e_103 ?_
          refine kI ?_
          refine zIfe rfl (fun h6 => ?_) (fun h6 => ?_)
          · replace k := ite_t h6 k
            refine zPs (pc1 := 154) (l1 := [(6, .int (i32 j + (1 : Int32))), (8, .int (1 : Int32)), (7, .int (l 475 j)), (5, .int a), (4, .int sc), (3, .int o), (0, .ref 8), (1, .int x), (2, .int t)]) (st1 := []) 1 rfl rfl rfl ?_
            refine zTo (ml' := [(6, .int (i32 (j + 1))), (8, .int (1 : Int32)), (7, .int (l 475 j)), (5, .int a), (4, .int sc), (3, .int o), (0, .ref 8), (1, .int x), (2, .int t)]) (st' := []) (by rw [show (i32 j + (1 : Int32)) = i32 (j + 1) from i32_add j 1]) rfl ?_
            refine zPs (pc1 := 61) (l1 := [(6, .int (i32 (j + 1))), (8, .int (1 : Int32)), (7, .int (l 475 j)), (5, .int a), (4, .int sc), (3, .int o), (0, .ref 8), (1, .int x), (2, .int t)]) (st1 := []) 1 rfl rfl rfl ?_
            refine zMl (ml' := [(6, .int (i32 (j + 1))), (5, .int a), (4, .int sc), (3, .int o), (0, .ref 8), (1, .int x), (2, .int t)]) ⟨rfl, rfl, rfl, rfl, rfl, rfl, rfl, trivial⟩ rfl rfl ?_
            exact ih (j + 1) a (by omega) k
          · replace k := ite_f h6 k
            refine zPs (pc1 := 154) (l1 := [(6, .int (i32 j + (1 : Int32))), (5, .int (a + (1 : Int32))), (8, .int (1 : Int32)), (7, .int (l 475 j)), (4, .int sc), (3, .int o), (0, .ref 8), (1, .int x), (2, .int t)]) (st1 := []) 2 rfl rfl rfl ?_
            refine zTo (ml' := [(6, .int (i32 (j + 1))), (5, .int (a + (1 : Int32))), (8, .int (1 : Int32)), (7, .int (l 475 j)), (4, .int sc), (3, .int o), (0, .ref 8), (1, .int x), (2, .int t)]) (st' := []) (by rw [show (i32 j + (1 : Int32)) = i32 (j + 1) from i32_add j 1]) rfl ?_
            refine zPs (pc1 := 61) (l1 := [(6, .int (i32 (j + 1))), (5, .int (a + (1 : Int32))), (8, .int (1 : Int32)), (7, .int (l 475 j)), (4, .int sc), (3, .int o), (0, .ref 8), (1, .int x), (2, .int t)]) (st1 := []) 1 rfl rfl rfl ?_
            refine zMl (ml' := [(6, .int (i32 (j + 1))), (5, .int (a + (1 : Int32))), (4, .int sc), (3, .int o), (0, .ref 8), (1, .int x), (2, .int t)]) ⟨rfl, rfl, rfl, rfl, rfl, rfl, rfl, trivial⟩ rfl rfl ?_
            exact ih (j + 1) (a + (1 : Int32)) (by omega) k
noncomputable def f_7 (x : Int32) (t : Int32) (l : Sg) : Int32 × Sg := (if x < 0 then ((-1 : Int32), l) else (if x < (60 : Int32) then (bnd (f_6 l) fun l4 => (if l4 475 x.toNatClampNeg < 0 then ((-1 : Int32), l4) else (if l4 475 x.toNatClampNeg < (1024 : Int32) then g_7 x t (l4 475 x.toNatClampNeg) (f_104 (l4 473 ((l4 475 x.toNatClampNeg).toNatClampNeg)) (t - l4 474 ((l4 475 x.toNatClampNeg).toNatClampNeg))) 60 0 0 l4 else ((-1 : Int32), l4)))) else ((-1 : Int32), l)))
theorem e_7 {l : Sg} {P : MO → Sg → Prop} {n : Nat} {x : Int32} {t : Int32} (hl : n ≤ 60) (hCI : CI l n)  (k : Rk (Qb P) (f_7 x t l)) : Es false 7 [.ref 8, .int x, .int t] l P := by
  unfold f_7 at k
  refine Es.of ?_
  refine zPs (pc1 := 1) (l1 := [(0, .ref 8), (1, .int x), (2, .int t)]) (st1 := [.int x]) 1 rfl rfl rfl ?_
  refine zIflt rfl (fun h1 => ?_) (fun h1 => ?_)
  · replace k := ite_t h1 k
    refine zPs (pc1 := 11) (l1 := [(0, .ref 8), (1, .int x), (2, .int t)]) (st1 := [.int (-1 : Int32)]) 1 rfl rfl rfl ?_
    refine zRi rfl rfl ?_
    exact k
  · replace k := ite_f h1 k
    refine zPs (pc1 := 7) (l1 := [(0, .ref 8), (1, .int x), (2, .int t)]) (st1 := [.int (60 : Int32), .int x]) 2 rfl rfl rfl ?_
    refine zClt rfl (fun h2 => ?_) (fun h2 => ?_)
    · replace k := ite_t h2 k
      have h3 := rng_i32 (x := x) (b := 60) (by decide) (Int32.not_lt.mp h1) h2
      refine zPs (pc1 := 13) (l1 := [(0, .ref 8), (1, .int x), (2, .int t)]) (st1 := [.ref 8]) 1 rfl rfl rfl ?_
      refine zCv (mj := 6) (k := 8) (n := 0) rfl rfl rfl rfl (by decide) rfl rfl rfl rfl rfl rfl ?_
      refine e_6 hl hCI ?_
      refine kV ?_
      have hCI4 : CI (f_6 l) n := ci_6 hCI
      replace k := bnd_i k
      generalize f_6 l = l4 at k hCI4 ⊢
      refine zPs (pc1 := 17) (l1 := [(0, .ref 8), (1, .int x), (2, .int t)]) (st1 := [.ref 8]) 1 rfl rfl rfl ?_
      refine zGetR (r := 13) rfl rfl ⟨by decide, rfl, by decide, rfl⟩ ?_
      refine zPs (pc1 := 21) (l1 := [(0, .ref 8), (1, .int x), (2, .int t)]) (st1 := [.int x, .ref 13]) 1 rfl rfl rfl ?_
      refine zIalE (n := x.toNatClampNeg) (v := l4 475 x.toNatClampNeg) h3.2 rfl (icOpen h3.1) rfl ?_
      refine zPs (pc1 := 24) (l1 := [(3, .int (l4 475 x.toNatClampNeg)), (0, .ref 8), (1, .int x), (2, .int t)]) (st1 := [.int (l4 475 x.toNatClampNeg)]) 2 rfl rfl rfl ?_
      refine zIflt rfl (fun h5 => ?_) (fun h5 => ?_)
      · replace k := ite_t h5 k
        refine zPs (pc1 := 35) (l1 := [(3, .int (l4 475 x.toNatClampNeg)), (0, .ref 8), (1, .int x), (2, .int t)]) (st1 := [.int (-1 : Int32)]) 1 rfl rfl rfl ?_
        refine zRi rfl rfl ?_
        exact k
      · replace k := ite_f h5 k
        refine zPs (pc1 := 31) (l1 := [(3, .int (l4 475 x.toNatClampNeg)), (0, .ref 8), (1, .int x), (2, .int t)]) (st1 := [.int (1024 : Int32), .int (l4 475 x.toNatClampNeg)]) 2 rfl rfl rfl ?_
        refine zClt rfl (fun h6 => ?_) (fun h6 => ?_)
        · replace k := ite_t h6 k
          have h7 := rng_i32 (x := l4 475 x.toNatClampNeg) (b := 1024) (by decide) (Int32.not_lt.mp h5) h6
          refine zPs (pc1 := 37) (l1 := [(3, .int (l4 475 x.toNatClampNeg)), (0, .ref 8), (1, .int x), (2, .int t)]) (st1 := [.ref 8]) 1 rfl rfl rfl ?_
          refine zGetR (r := 11) rfl rfl ⟨by decide, rfl, by decide, rfl⟩ ?_
          refine zPs (pc1 := 41) (l1 := [(3, .int (l4 475 x.toNatClampNeg)), (0, .ref 8), (1, .int x), (2, .int t)]) (st1 := [.int (l4 475 x.toNatClampNeg), .ref 11]) 1 rfl rfl rfl ?_
          refine zIalE (n := (l4 475 x.toNatClampNeg).toNatClampNeg) (v := l4 473 ((l4 475 x.toNatClampNeg).toNatClampNeg)) h7.2 rfl (icPri h7.1) rfl ?_
          refine zPs (pc1 := 44) (l1 := [(3, .int (l4 475 x.toNatClampNeg)), (0, .ref 8), (1, .int x), (2, .int t)]) (st1 := [.ref 8, .int t, .int (l4 473 ((l4 475 x.toNatClampNeg).toNatClampNeg))]) 2 rfl rfl rfl ?_
          refine zGetR (r := 12) rfl rfl ⟨by decide, rfl, by decide, rfl⟩ ?_
          refine zPs (pc1 := 48) (l1 := [(3, .int (l4 475 x.toNatClampNeg)), (0, .ref 8), (1, .int x), (2, .int t)]) (st1 := [.int (l4 475 x.toNatClampNeg), .ref 12, .int t, .int (l4 473 ((l4 475 x.toNatClampNeg).toNatClampNeg))]) 1 rfl rfl rfl ?_
          refine zIalE (n := (l4 475 x.toNatClampNeg).toNatClampNeg) (v := l4 474 ((l4 475 x.toNatClampNeg).toNatClampNeg)) h7.2 rfl (icWhen h7.1) rfl ?_
          refine zPs (pc1 := 50) (l1 := [(3, .int (l4 475 x.toNatClampNeg)), (0, .ref 8), (1, .int x), (2, .int t)]) (st1 := [.int (t - l4 474 ((l4 475 x.toNatClampNeg).toNatClampNeg)), .int (l4 473 ((l4 475 x.toNatClampNeg).toNatClampNeg))]) 1 rfl rfl rfl ?_
          refine zCs (mj := 104) rfl rfl rfl rfl rfl rfl rfl rfl ?_
          refine e_104 ?_
          refine kI ?_
          refine zPs (pc1 := 61) (l1 := [(6, .int (0 : Int32)), (5, .int (0 : Int32)), (4, .int (f_104 (l4 473 ((l4 475 x.toNatClampNeg).toNatClampNeg)) (t - l4 474 ((l4 475 x.toNatClampNeg).toNatClampNeg)))), (3, .int (l4 475 x.toNatClampNeg)), (0, .ref 8), (1, .int x), (2, .int t)]) (st1 := []) 5 rfl rfl rfl ?_
          refine zMl (ml' := [(6, .int (i32 0)), (5, .int (0 : Int32)), (4, .int (f_104 (l4 473 ((l4 475 x.toNatClampNeg).toNatClampNeg)) (t - l4 474 ((l4 475 x.toNatClampNeg).toNatClampNeg)))), (3, .int (l4 475 x.toNatClampNeg)), (0, .ref 8), (1, .int x), (2, .int t)]) ⟨rfl, rfl, rfl, rfl, rfl, rfl, rfl, trivial⟩ rfl rfl ?_
          exact lg_7 h7 60 0 0 (by omega) k
        · replace k := ite_f h6 k
          refine zPs (pc1 := 35) (l1 := [(3, .int (l4 475 x.toNatClampNeg)), (0, .ref 8), (1, .int x), (2, .int t)]) (st1 := [.int (-1 : Int32)]) 1 rfl rfl rfl ?_
          refine zRi rfl rfl ?_
          exact k
    · replace k := ite_f h2 k
      refine zPs (pc1 := 11) (l1 := [(0, .ref 8), (1, .int x), (2, .int t)]) (st1 := [.int (-1 : Int32)]) 1 rfl rfl rfl ?_
      refine zRi rfl rfl ?_
      exact k
