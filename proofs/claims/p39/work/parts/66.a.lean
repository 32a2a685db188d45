/-! ===== the class: loops, keys, the week, the journal ===== -/
noncomputable def f_29 (t : Int32) (l : Sg) : Int32 := (if (t / (240 : Int32)) < 0 then (0 : Int32) else (if (84 : Int32) ≤ (t / (240 : Int32)) then (0 : Int32) else (if l 295 ((t / (240 : Int32)).toNatClampNeg) = 0 then (if (f_28 t) < 0 then (0 : Int32) else (if (7 : Int32) ≤ (f_28 t) then (0 : Int32) else (if (t - t / (240 : Int32) * (240 : Int32)) < l 293 ((f_28 t).toNatClampNeg) then (0 : Int32) else (if l 294 ((f_28 t).toNatClampNeg) ≤ (t - t / (240 : Int32) * (240 : Int32)) then (0 : Int32) else (1 : Int32))))) else (0 : Int32))))
theorem e_29 {l : Sg} {P : MO → Sg → Prop} {t : Int32}  (k : Rk (Qv P l) (f_29 t l)) : Es false 29 [.ref 4, .int t] l P := by
  unfold f_29 at k
  refine Es.of ?_
  refine zPs (pc1 := 4) (l1 := [(0, .ref 4), (1, .int t)]) (st1 := [.int (240 : Int32), .int t]) 2 rfl rfl rfl ?_
  refine zDiv rfl (by decide) ?_
  refine zPs (pc1 := 10) (l1 := [(2, .int (t / (240 : Int32))), (0, .ref 4), (1, .int t)]) (st1 := [.int (240 : Int32), .int t]) 3 rfl rfl rfl ?_
  refine zRem rfl (by decide) ?_
  refine zPs (pc1 := 13) (l1 := [(3, .int (t - t / (240 : Int32) * (240 : Int32))), (2, .int (t / (240 : Int32))), (0, .ref 4), (1, .int t)]) (st1 := [.int t]) 2 rfl rfl rfl ?_
  refine zCs (mj := 28) rfl rfl rfl rfl rfl rfl rfl rfl ?_
  refine e_28 ?_
  refine kI ?_
  refine zPs (pc1 := 19) (l1 := [(4, .int (f_28 t)), (3, .int (t - t / (240 : Int32) * (240 : Int32))), (2, .int (t / (240 : Int32))), (0, .ref 4), (1, .int t)]) (st1 := [.int (t / (240 : Int32))]) 2 rfl rfl rfl ?_
  refine zIflt rfl (fun h1 => ?_) (fun h1 => ?_)
  · replace k := ite_t h1 k
    refine zPs (pc1 := 38) (l1 := [(4, .int (f_28 t)), (3, .int (t - t / (240 : Int32) * (240 : Int32))), (2, .int (t / (240 : Int32))), (0, .ref 4), (1, .int t)]) (st1 := [.int (0 : Int32)]) 1 rfl rfl rfl ?_
    refine zRz rfl rfl (Or.inl rfl) ?_
    exact k
  · replace k := ite_f h1 k
    refine zPs (pc1 := 25) (l1 := [(4, .int (f_28 t)), (3, .int (t - t / (240 : Int32) * (240 : Int32))), (2, .int (t / (240 : Int32))), (0, .ref 4), (1, .int t)]) (st1 := [.int (84 : Int32), .int (t / (240 : Int32))]) 2 rfl rfl rfl ?_
    refine zCge rfl (fun h2 => ?_) (fun h2 => ?_)
    · replace k := ite_t h2 k
      refine zPs (pc1 := 38) (l1 := [(4, .int (f_28 t)), (3, .int (t - t / (240 : Int32) * (240 : Int32))), (2, .int (t / (240 : Int32))), (0, .ref 4), (1, .int t)]) (st1 := [.int (0 : Int32)]) 1 rfl rfl rfl ?_
      refine zRz rfl rfl (Or.inl rfl) ?_
      exact k
    · replace k := ite_f h2 k
      have h3 := rng_i32 (x := (t / (240 : Int32))) (b := 84) (by decide) (Int32.not_lt.mp h1) (Int32.not_le.mp h2)
      refine zPs (pc1 := 29) (l1 := [(4, .int (f_28 t)), (3, .int (t - t / (240 : Int32) * (240 : Int32))), (2, .int (t / (240 : Int32))), (0, .ref 4), (1, .int t)]) (st1 := [.ref 4]) 1 rfl rfl rfl ?_
      refine zGetR (r := 7) rfl rfl ⟨by decide, rfl, by decide, rfl⟩ ?_
      refine zPs (pc1 := 33) (l1 := [(4, .int (f_28 t)), (3, .int (t - t / (240 : Int32) * (240 : Int32))), (2, .int (t / (240 : Int32))), (0, .ref 4), (1, .int t)]) (st1 := [.int (t / (240 : Int32)), .ref 7]) 1 rfl rfl rfl ?_
      refine zZalE (n := (t / (240 : Int32)).toNatClampNeg) (v := l 295 ((t / (240 : Int32)).toNatClampNeg)) h3.2 rfl (icHol h3.1) rfl ?_
      refine zIfe rfl (fun h4 => ?_) (fun h4 => ?_)
      · replace k := ite_t h4 k
        refine zPs (pc1 := 41) (l1 := [(4, .int (f_28 t)), (3, .int (t - t / (240 : Int32) * (240 : Int32))), (2, .int (t / (240 : Int32))), (0, .ref 4), (1, .int t)]) (st1 := [.int (f_28 t)]) 1 rfl rfl rfl ?_
        refine zIflt rfl (fun h5 => ?_) (fun h5 => ?_)
        · replace k := ite_t h5 k
          refine zPs (pc1 := 78) (l1 := [(4, .int (f_28 t)), (3, .int (t - t / (240 : Int32) * (240 : Int32))), (2, .int (t / (240 : Int32))), (0, .ref 4), (1, .int t)]) (st1 := [.int (0 : Int32)]) 1 rfl rfl rfl ?_
          refine zRz rfl rfl (Or.inl rfl) ?_
          exact k
        · replace k := ite_f h5 k
          refine zPs (pc1 := 48) (l1 := [(4, .int (f_28 t)), (3, .int (t - t / (240 : Int32) * (240 : Int32))), (2, .int (t / (240 : Int32))), (0, .ref 4), (1, .int t)]) (st1 := [.int (7 : Int32), .int (f_28 t)]) 2 rfl rfl rfl ?_
          refine zCge rfl (fun h6 => ?_) (fun h6 => ?_)
          · replace k := ite_t h6 k
            refine zPs (pc1 := 78) (l1 := [(4, .int (f_28 t)), (3, .int (t - t / (240 : Int32) * (240 : Int32))), (2, .int (t / (240 : Int32))), (0, .ref 4), (1, .int t)]) (st1 := [.int (0 : Int32)]) 1 rfl rfl rfl ?_
            refine zRz rfl rfl (Or.inl rfl) ?_
            exact k
          · replace k := ite_f h6 k
            have h7 := rng_i32 (x := (f_28 t)) (b := 7) (by decide) (Int32.not_lt.mp h5) (Int32.not_le.mp h6)
            refine zPs (pc1 := 52) (l1 := [(4, .int (f_28 t)), (3, .int (t - t / (240 : Int32) * (240 : Int32))), (2, .int (t / (240 : Int32))), (0, .ref 4), (1, .int t)]) (st1 := [.ref 4]) 1 rfl rfl rfl ?_
            refine zGetR (r := 5) rfl rfl ⟨by decide, rfl, by decide, rfl⟩ ?_
            refine zPs (pc1 := 57) (l1 := [(4, .int (f_28 t)), (3, .int (t - t / (240 : Int32) * (240 : Int32))), (2, .int (t / (240 : Int32))), (0, .ref 4), (1, .int t)]) (st1 := [.int (f_28 t), .ref 5]) 1 rfl rfl rfl ?_
            refine zIalE (n := (f_28 t).toNatClampNeg) (v := l 293 ((f_28 t).toNatClampNeg)) h7.2 rfl (icFrom h7.1) rfl ?_
            refine zPs (pc1 := 59) (l1 := [(4, .int (f_28 t)), (3, .int (t - t / (240 : Int32) * (240 : Int32))), (2, .int (t / (240 : Int32))), (0, .ref 4), (1, .int t)]) (st1 := [.int (t - t / (240 : Int32) * (240 : Int32)), .int (l 293 ((f_28 t).toNatClampNeg))]) 1 rfl rfl rfl ?_
            refine zCgt rfl (fun h8 => ?_) (fun h8 => ?_)
            · replace k := ite_t h8 k
              refine zPs (pc1 := 78) (l1 := [(4, .int (f_28 t)), (3, .int (t - t / (240 : Int32) * (240 : Int32))), (2, .int (t / (240 : Int32))), (0, .ref 4), (1, .int t)]) (st1 := [.int (0 : Int32)]) 1 rfl rfl rfl ?_
              refine zRz rfl rfl (Or.inl rfl) ?_
              exact k
            · replace k := ite_f h8 k
              refine zPs (pc1 := 64) (l1 := [(4, .int (f_28 t)), (3, .int (t - t / (240 : Int32) * (240 : Int32))), (2, .int (t / (240 : Int32))), (0, .ref 4), (1, .int t)]) (st1 := [.ref 4, .int (t - t / (240 : Int32) * (240 : Int32))]) 2 rfl rfl rfl ?_
              refine zGetR (r := 6) rfl rfl ⟨by decide, rfl, by decide, rfl⟩ ?_
              refine zPs (pc1 := 69) (l1 := [(4, .int (f_28 t)), (3, .int (t - t / (240 : Int32) * (240 : Int32))), (2, .int (t / (240 : Int32))), (0, .ref 4), (1, .int t)]) (st1 := [.int (f_28 t), .ref 6, .int (t - t / (240 : Int32) * (240 : Int32))]) 1 rfl rfl rfl ?_
              refine zIalE (n := (f_28 t).toNatClampNeg) (v := l 294 ((f_28 t).toNatClampNeg)) h7.2 rfl (icTo h7.1) rfl ?_
              refine zCge rfl (fun h9 => ?_) (fun h9 => ?_)
              · replace k := ite_t h9 k
                refine zPs (pc1 := 78) (l1 := [(4, .int (f_28 t)), (3, .int (t - t / (240 : Int32) * (240 : Int32))), (2, .int (t / (240 : Int32))), (0, .ref 4), (1, .int t)]) (st1 := [.int (0 : Int32)]) 1 rfl rfl rfl ?_
                refine zRz rfl rfl (Or.inl rfl) ?_
                exact k
              · replace k := ite_f h9 k
                refine zPs (pc1 := 78) (l1 := [(4, .int (f_28 t)), (3, .int (t - t / (240 : Int32) * (240 : Int32))), (2, .int (t / (240 : Int32))), (0, .ref 4), (1, .int t)]) (st1 := [.int (1 : Int32)]) 2 rfl rfl rfl ?_
                refine zRz rfl rfl (Or.inr rfl) ?_
                exact k
      · replace k := ite_f h4 k
        refine zPs (pc1 := 38) (l1 := [(4, .int (f_28 t)), (3, .int (t - t / (240 : Int32) * (240 : Int32))), (2, .int (t / (240 : Int32))), (0, .ref 4), (1, .int t)]) (st1 := [.int (0 : Int32)]) 1 rfl rfl rfl ?_
        refine zRz rfl rfl (Or.inl rfl) ?_
        exact k
noncomputable def g_21 (c : Nat) : Nat → Nat → Int32 → Sg → Int32
  | 0, _, a, l => (if l 418 c ≤ i32 6 then (l 314 c - a) else (l 314 c - a))
  | d + 1, j, a, l => (if l 418 c ≤ i32 j then (l 314 c - a) else g_21 c d (j + 1) (a * (10 : Int32)) l)
theorem lg_21 {l : Sg} {P : MO → Sg → Prop} {rc rs : Nat} {c : Nat}(hc : c < 60) : ∀ (d j : Nat) (a : Int32), j + d = 6 → Rk (Qv P l) (g_21 c d j a l) → Ws false 21 rc rs 4 [(2, .int (i32 j)), (1, .int a), (0, .ref (166 + 2 * c))] [] l P := by
  intro d
  induction d with
  | zero =>
    intro j a hj k
    obtain rfl : 6 = j := by omega
    rw [g_21] at k
    refine zPs (pc1 := 6) (l1 := [(2, .int (i32 6)), (1, .int a), (0, .ref (166 + 2 * c))]) (st1 := [.ref (166 + 2 * c), .int (i32 6)]) 2 rfl rfl rfl ?_
    refine zGetI (F := 418) (I := c) (v := l 418 c) rfl rfl (icL (j := 8) hc rfl) rfl ?_
    refine zCge rfl (fun h1 => ?_) (fun h1 => ?_)
    · replace k := ite_t h1 k
      refine zPs (pc1 := 30) (l1 := [(2, .int (i32 6)), (1, .int a), (0, .ref (166 + 2 * c))]) (st1 := [.ref (166 + 2 * c)]) 1 rfl rfl rfl ?_
      refine zGetI (F := 314) (I := c) (v := l 314 c) rfl rfl (icL (j := 7) hc rfl) rfl ?_
      refine zPs (pc1 := 35) (l1 := [(2, .int (i32 6)), (1, .int a), (0, .ref (166 + 2 * c))]) (st1 := [.int (l 314 c - a)]) 2 rfl rfl rfl ?_
      refine zRi rfl rfl ?_
      exact k
    · replace k := ite_f h1 k
      refine zPs (pc1 := 15) (l1 := [(2, .int (i32 6)), (1, .int a), (0, .ref (166 + 2 * c))]) (st1 := [.int (6 : Int32), .int (i32 6)]) 2 rfl rfl rfl ?_
      refine nCge (a := 6) (b := 6) (by omega) (by omega) rfl (fun h2 => ?_) (fun h2 => absurd (Nat.le_refl _) h2)
      refine zPs (pc1 := 30) (l1 := [(2, .int (i32 6)), (1, .int a), (0, .ref (166 + 2 * c))]) (st1 := [.ref (166 + 2 * c)]) 1 rfl rfl rfl ?_
      refine zGetI (F := 314) (I := c) (v := l 314 c) rfl rfl (icL (j := 7) hc rfl) rfl ?_
      refine zPs (pc1 := 35) (l1 := [(2, .int (i32 6)), (1, .int a), (0, .ref (166 + 2 * c))]) (st1 := [.int (l 314 c - a)]) 2 rfl rfl rfl ?_
      refine zRi rfl rfl ?_
      exact k
  | succ d ih =>
    intro j a hj k
    have hjl : j < 6 := by omega
    rw [g_21] at k
    refine zPs (pc1 := 6) (l1 := [(2, .int (i32 j)), (1, .int a), (0, .ref (166 + 2 * c))]) (st1 := [.ref (166 + 2 * c), .int (i32 j)]) 2 rfl rfl rfl ?_
    refine zGetI (F := 418) (I := c) (v := l 418 c) rfl rfl (icL (j := 8) hc rfl) rfl ?_
    refine zCge rfl (fun h1 => ?_) (fun h1 => ?_)
    · replace k := ite_t h1 k
      refine zPs (pc1 := 30) (l1 := [(2, .int (i32 j)), (1, .int a), (0, .ref (166 + 2 * c))]) (st1 := [.ref (166 + 2 * c)]) 1 rfl rfl rfl ?_
      refine zGetI (F := 314) (I := c) (v := l 314 c) rfl rfl (icL (j := 7) hc rfl) rfl ?_
      refine zPs (pc1 := 35) (l1 := [(2, .int (i32 j)), (1, .int a), (0, .ref (166 + 2 * c))]) (st1 := [.int (l 314 c - a)]) 2 rfl rfl rfl ?_
      refine zRi rfl rfl ?_
      exact k
    · replace k := ite_f h1 k
      refine zPs (pc1 := 15) (l1 := [(2, .int (i32 j)), (1, .int a), (0, .ref (166 + 2 * c))]) (st1 := [.int (6 : Int32), .int (i32 j)]) 2 rfl rfl rfl ?_
      refine nCge (a := j) (b := 6) (by omega) (by omega) rfl (fun h2 => absurd h2 (by omega)) (fun h2 => ?_)
      refine zPs (pc1 := 26) (l1 := [(2, .int (i32 j + (1 : Int32))), (1, .int (a * (10 : Int32))), (0, .ref (166 + 2 * c))]) (st1 := []) 5 rfl rfl rfl ?_
      refine zTo (ml' := [(2, .int (i32 (j + 1))), (1, .int (a * (10 : Int32))), (0, .ref (166 + 2 * c))]) (st' := []) (by rw [show (i32 j + (1 : Int32)) = i32 (j + 1) from i32_add j 1]) rfl ?_
      refine zPs (pc1 := 4) (l1 := [(2, .int (i32 (j + 1))), (1, .int (a * (10 : Int32))), (0, .ref (166 + 2 * c))]) (st1 := []) 1 rfl rfl rfl ?_
      refine zMl (ml' := [(2, .int (i32 (j + 1))), (1, .int (a * (10 : Int32))), (0, .ref (166 + 2 * c))]) ⟨rfl, rfl, rfl, trivial⟩ rfl rfl ?_
      exact ih (j + 1) (a * (10 : Int32)) (by omega) k
noncomputable def f_21 (c : Nat) (l : Sg) : Int32 := g_21 c 6 0 (1 : Int32) l
theorem e_21 {l : Sg} {P : MO → Sg → Prop} {c : Nat} (hc : c < 60) (k : Rk (Qv P l) (f_21 c l)) : Es false 21 [.ref (166 + 2 * c)] l P := by
  unfold f_21 at k
  refine Es.of ?_
  refine zPs (pc1 := 4) (l1 := [(2, .int (0 : Int32)), (1, .int (1 : Int32)), (0, .ref (166 + 2 * c))]) (st1 := []) 4 rfl rfl rfl ?_
  refine zMl (ml' := [(2, .int (i32 0)), (1, .int (1 : Int32)), (0, .ref (166 + 2 * c))]) ⟨rfl, rfl, rfl, trivial⟩ rfl rfl ?_
  exact lg_21 hc 6 0 (1 : Int32)  (by omega) k
noncomputable def g_9 (m : Nat) (x : Int32) (y : Int32) : Nat → Nat → Sg → Int32 × Sg
  | 0, _, l => (if l 306 m ≤ i32 10 then ((0 : Int32), l) else ((0 : Int32), l))
  | d + 1, j, l => (if l 306 m ≤ i32 j then ((1 : Int32), (up2 (up2 (up2 l 307 (10 * m + j) x) 308 (10 * m + j) y) 306 m (if l 306 m < i32 (j + 1) then i32 (j + 1) else l 306 m))) else (if l 307 (10 * m + j) = x then ((1 : Int32), (up2 (up2 (up2 l 307 (10 * m + j) x) 308 (10 * m + j) y) 306 m (if l 306 m < i32 (j + 1) then i32 (j + 1) else l 306 m))) else g_9 m x y d (j + 1)  l))
theorem lg_9 {l : Sg} {P : MO → Sg → Prop} {rc rs : Nat} {m : Nat} {x : Int32} {y : Int32}(hm : m < 30) : ∀ (d j : Nat), j + d = 10 → Rk (Qb P) (g_9 m x y d j  l) → Ws false 9 rc rs 2 [(3, .int (i32 j)), (0, .ref (47 + 4 * m)), (1, .int x), (2, .int y)] [] l P := by
  intro d
  induction d with
  | zero =>
    intro j hj k
    obtain rfl : 10 = j := by omega
    rw [g_9] at k
    refine zPs (pc1 := 4) (l1 := [(3, .int (i32 10)), (0, .ref (47 + 4 * m)), (1, .int x), (2, .int y)]) (st1 := [.ref (47 + 4 * m), .int (i32 10)]) 2 rfl rfl rfl ?_
    refine zGetI (F := 306) (I := m) (v := l 306 m) rfl rfl (icKs hm) rfl ?_
    refine zCge rfl (fun h1 => ?_) (fun h1 => ?_)
    · replace k := ite_t h1 k
      refine zPs (pc1 := 35) (l1 := [(3, .int (i32 10)), (0, .ref (47 + 4 * m)), (1, .int x), (2, .int y)]) (st1 := [.int (10 : Int32), .int (i32 10)]) 2 rfl rfl rfl ?_
      refine nClt (a := 10) (b := 10) (by omega) (by omega) rfl (fun h2 => absurd h2 (by omega)) (fun h2 => ?_)
      refine zPs (pc1 := 39) (l1 := [(3, .int (i32 10)), (0, .ref (47 + 4 * m)), (1, .int x), (2, .int y)]) (st1 := [.int (0 : Int32)]) 1 rfl rfl rfl ?_
      refine zRz rfl rfl (Or.inl rfl) ?_
      exact k
    · replace k := ite_f h1 k
      refine zPs (pc1 := 13) (l1 := [(3, .int (i32 10)), (0, .ref (47 + 4 * m)), (1, .int x), (2, .int y)]) (st1 := [.int (10 : Int32), .int (i32 10)]) 2 rfl rfl rfl ?_
      refine nCge (a := 10) (b := 10) (by omega) (by omega) rfl (fun h3 => ?_) (fun h3 => absurd (Nat.le_refl _) h3)
      refine zPs (pc1 := 35) (l1 := [(3, .int (i32 10)), (0, .ref (47 + 4 * m)), (1, .int x), (2, .int y)]) (st1 := [.int (10 : Int32), .int (i32 10)]) 2 rfl rfl rfl ?_
      refine nClt (a := 10) (b := 10) (by omega) (by omega) rfl (fun h4 => absurd h4 (by omega)) (fun h4 => ?_)
      refine zPs (pc1 := 39) (l1 := [(3, .int (i32 10)), (0, .ref (47 + 4 * m)), (1, .int x), (2, .int y)]) (st1 := [.int (0 : Int32)]) 1 rfl rfl rfl ?_
      refine zRz rfl rfl (Or.inl rfl) ?_
      exact k
  | succ d ih =>
    intro j hj k
    have hjl : j < 10 := by omega
    rw [g_9] at k
    refine zPs (pc1 := 4) (l1 := [(3, .int (i32 j)), (0, .ref (47 + 4 * m)), (1, .int x), (2, .int y)]) (st1 := [.ref (47 + 4 * m), .int (i32 j)]) 2 rfl rfl rfl ?_
    refine zGetI (F := 306) (I := m) (v := l 306 m) rfl rfl (icKs hm) rfl ?_
    refine zCge rfl (fun h1 => ?_) (fun h1 => ?_)
    · replace k := ite_t h1 k
      refine zPs (pc1 := 35) (l1 := [(3, .int (i32 j)), (0, .ref (47 + 4 * m)), (1, .int x), (2, .int y)]) (st1 := [.int (10 : Int32), .int (i32 j)]) 2 rfl rfl rfl ?_
      refine nClt (a := j) (b := 10) (by omega) (by omega) rfl (fun h2 => ?_) (fun h2 => absurd (by omega) h2)
      refine zPs (pc1 := 41) (l1 := [(3, .int (i32 j)), (0, .ref (47 + 4 * m)), (1, .int x), (2, .int y)]) (st1 := [.ref (47 + 4 * m)]) 1 rfl rfl rfl ?_
      refine zGetR (r := (48 + 4 * m)) rfl rfl (irCo hm) ?_
      refine zPs (pc1 := 46) (l1 := [(3, .int (i32 j)), (0, .ref (47 + 4 * m)), (1, .int x), (2, .int y)]) (st1 := [.int x, .int (i32 j), .ref (48 + 4 * m)]) 2 rfl rfl rfl ?_
      refine zIas (n := j) (F := 307) (I := 10 * m + j) rfl (icCo hm (by omega)) ?_
      refine zPs (pc1 := 48) (l1 := [(3, .int (i32 j)), (0, .ref (47 + 4 * m)), (1, .int x), (2, .int y)]) (st1 := [.ref (47 + 4 * m)]) 1 rfl rfl rfl ?_
      refine zGetR (r := (49 + 4 * m)) rfl rfl (irTa hm) ?_
      refine zPs (pc1 := 53) (l1 := [(3, .int (i32 j)), (0, .ref (47 + 4 * m)), (1, .int x), (2, .int y)]) (st1 := [.int y, .int (i32 j), .ref (49 + 4 * m)]) 2 rfl rfl rfl ?_
      refine zIas (n := j) (F := 308) (I := 10 * m + j) rfl (icTa hm (by omega)) ?_
      refine zPs (pc1 := 56) (l1 := [(3, .int (i32 j)), (0, .ref (47 + 4 * m)), (1, .int x), (2, .int y)]) (st1 := [.ref (47 + 4 * m), .ref (47 + 4 * m)]) 2 rfl rfl rfl ?_
      refine zGetI (F := 306) (I := m) (v := l 306 m) rfl rfl (icKs hm) rfl ?_
      refine zPs (pc1 := 62) (l1 := [(3, .int (i32 j)), (0, .ref (47 + 4 * m)), (1, .int x), (2, .int y)]) (st1 := [.int (i32 j + (1 : Int32)), .int (l 306 m), .ref (47 + 4 * m)]) 3 rfl rfl rfl ?_
      refine zTo (ml' := [(3, .int (i32 j)), (0, .ref (47 + 4 * m)), (1, .int x), (2, .int y)]) (st' := [.int (i32 (j + 1)), .int (l 306 m), .ref (47 + 4 * m)]) rfl (by rw [show (i32 j + (1 : Int32)) = i32 (j + 1) from i32_add j 1]) ?_
      refine zMax rfl rfl rfl ?_
      refine zPutI (F := 306) (I := m) rfl rfl (icKs hm) rfl ?_
      refine zPs (pc1 := 69) (l1 := [(3, .int (i32 j)), (0, .ref (47 + 4 * m)), (1, .int x), (2, .int y)]) (st1 := [.int (1 : Int32)]) 1 rfl rfl rfl ?_
      refine zRz rfl rfl (Or.inr rfl) ?_
      exact k
    · replace k := ite_f h1 k
      refine zPs (pc1 := 13) (l1 := [(3, .int (i32 j)), (0, .ref (47 + 4 * m)), (1, .int x), (2, .int y)]) (st1 := [.int (10 : Int32), .int (i32 j)]) 2 rfl rfl rfl ?_
      refine nCge (a := j) (b := 10) (by omega) (by omega) rfl (fun h3 => absurd h3 (by omega)) (fun h3 => ?_)
      refine zPs (pc1 := 17) (l1 := [(3, .int (i32 j)), (0, .ref (47 + 4 * m)), (1, .int x), (2, .int y)]) (st1 := [.ref (47 + 4 * m)]) 1 rfl rfl rfl ?_
      refine zGetR (r := (48 + 4 * m)) rfl rfl (irCo hm) ?_
      refine zPs (pc1 := 21) (l1 := [(3, .int (i32 j)), (0, .ref (47 + 4 * m)), (1, .int x), (2, .int y)]) (st1 := [.int (i32 j), .ref (48 + 4 * m)]) 1 rfl rfl rfl ?_
      refine zIal (n := j) (v := l 307 (10 * m + j)) rfl (icCo hm (by omega)) rfl ?_
      refine zPs (pc1 := 23) (l1 := [(3, .int (i32 j)), (0, .ref (47 + 4 * m)), (1, .int x), (2, .int y)]) (st1 := [.int x, .int (l 307 (10 * m + j))]) 1 rfl rfl rfl ?_
      refine zCe rfl (fun h4 => ?_) (fun h4 => ?_)
      · replace k := ite_t h4 k
        refine zPs (pc1 := 35) (l1 := [(3, .int (i32 j)), (0, .ref (47 + 4 * m)), (1, .int x), (2, .int y)]) (st1 := [.int (10 : Int32), .int (i32 j)]) 2 rfl rfl rfl ?_
        refine nClt (a := j) (b := 10) (by omega) (by omega) rfl (fun h5 => ?_) (fun h5 => absurd (by omega) h5)
        refine zPs (pc1 := 41) (l1 := [(3, .int (i32 j)), (0, .ref (47 + 4 * m)), (1, .int x), (2, .int y)]) (st1 := [.ref (47 + 4 * m)]) 1 rfl rfl rfl ?_
        refine zGetR (r := (48 + 4 * m)) rfl rfl (irCo hm) ?_
        refine zPs (pc1 := 46) (l1 := [(3, .int (i32 j)), (0, .ref (47 + 4 * m)), (1, .int x), (2, .int y)]) (st1 := [.int x, .int (i32 j), .ref (48 + 4 * m)]) 2 rfl rfl rfl ?_
        refine zIas (n := j) (F := 307) (I := 10 * m + j) rfl (icCo hm (by omega)) ?_
        refine zPs (pc1 := 48) (l1 := [(3, .int (i32 j)), (0, .ref (47 + 4 * m)), (1, .int x), (2, .int y)]) (st1 := [.ref (47 + 4 * m)]) 1 rfl rfl rfl ?_
        refine zGetR (r := (49 + 4 * m)) rfl rfl (irTa hm) ?_
        refine zPs (pc1 := 53) (l1 := [(3, .int (i32 j)), (0, .ref (47 + 4 * m)), (1, .int x), (2, .int y)]) (st1 := [.int y, .int (i32 j), .ref (49 + 4 * m)]) 2 rfl rfl rfl ?_
        refine zIas (n := j) (F := 308) (I := 10 * m + j) rfl (icTa hm (by omega)) ?_
        refine zPs (pc1 := 56) (l1 := [(3, .int (i32 j)), (0, .ref (47 + 4 * m)), (1, .int x), (2, .int y)]) (st1 := [.ref (47 + 4 * m), .ref (47 + 4 * m)]) 2 rfl rfl rfl ?_
        refine zGetI (F := 306) (I := m) (v := l 306 m) rfl rfl (icKs hm) rfl ?_
        refine zPs (pc1 := 62) (l1 := [(3, .int (i32 j)), (0, .ref (47 + 4 * m)), (1, .int x), (2, .int y)]) (st1 := [.int (i32 j + (1 : Int32)), .int (l 306 m), .ref (47 + 4 * m)]) 3 rfl rfl rfl ?_
        refine zTo (ml' := [(3, .int (i32 j)), (0, .ref (47 + 4 * m)), (1, .int x), (2, .int y)]) (st' := [.int (i32 (j + 1)), .int (l 306 m), .ref (47 + 4 * m)]) rfl (by rw [show (i32 j + (1 : Int32)) = i32 (j + 1) from i32_add j 1]) ?_
        refine zMax rfl rfl rfl ?_
        refine zPutI (F := 306) (I := m) rfl rfl (icKs hm) rfl ?_
        refine zPs (pc1 := 69) (l1 := [(3, .int (i32 j)), (0, .ref (47 + 4 * m)), (1, .int x), (2, .int y)]) (st1 := [.int (1 : Int32)]) 1 rfl rfl rfl ?_
        refine zRz rfl rfl (Or.inr rfl) ?_
        exact k
      · replace k := ite_f h4 k
        refine zPs (pc1 := 29) (l1 := [(3, .int (i32 j + (1 : Int32))), (0, .ref (47 + 4 * m)), (1, .int x), (2, .int y)]) (st1 := []) 1 rfl rfl rfl ?_
        refine zTo (ml' := [(3, .int (i32 (j + 1))), (0, .ref (47 + 4 * m)), (1, .int x), (2, .int y)]) (st' := []) (by rw [show (i32 j + (1 : Int32)) = i32 (j + 1) from i32_add j 1]) rfl ?_
        refine zPs (pc1 := 2) (l1 := [(3, .int (i32 (j + 1))), (0, .ref (47 + 4 * m)), (1, .int x), (2, .int y)]) (st1 := []) 1 rfl rfl rfl ?_
        refine zMl (ml' := [(3, .int (i32 (j + 1))), (0, .ref (47 + 4 * m)), (1, .int x), (2, .int y)]) ⟨rfl, rfl, rfl, rfl, trivial⟩ rfl rfl ?_
        exact ih (j + 1) (by omega) k
noncomputable def f_9 (m : Nat) (x : Int32) (y : Int32) (l : Sg) : Int32 × Sg := g_9 m x y 10 0  l
theorem e_9 {l : Sg} {P : MO → Sg → Prop} {m : Nat} {x : Int32} {y : Int32} (hm : m < 30) (k : Rk (Qb P) (f_9 m x y l)) : Es false 9 [.ref (47 + 4 * m), .int x, .int y] l P := by
  unfold f_9 at k
  refine Es.of ?_
  refine zPs (pc1 := 2) (l1 := [(3, .int (0 : Int32)), (0, .ref (47 + 4 * m)), (1, .int x), (2, .int y)]) (st1 := []) 2 rfl rfl rfl ?_
  refine zMl (ml' := [(3, .int (i32 0)), (0, .ref (47 + 4 * m)), (1, .int x), (2, .int y)]) ⟨rfl, rfl, rfl, rfl, trivial⟩ rfl rfl ?_
  exact lg_9 hm 10 0   (by omega) k
theorem ci_g_9 {n m : Nat} {x y : Int32} : ∀ (d j : Nat) (l : Sg), CI l n → CI (g_9 m x y d j l).2 n := by
  intro d
  induction d with
  | zero =>
    intro j l h
    rw [g_9]
    split <;> exact h
  | succ d ih =>
    intro j l h
    rw [g_9]
    split
    · exact CI_up (CI_up (CI_up h rfl) rfl) rfl
    split
    · exact CI_up (CI_up (CI_up h rfl) rfl) rfl
    · exact ih _ _ h
theorem ci_9 {n m : Nat} {x y : Int32} {l : Sg} (h : CI l n) : CI (f_9 m x y l).2 n := ci_g_9 _ _ _ h
noncomputable def g_10 (m : Nat) (x : Int32) : Nat → Nat → Sg → Int32
  | 0, _, l => (if l 306 m ≤ i32 10 then (-2 : Int32) else (-2 : Int32))
  | d + 1, j, l => (if l 306 m ≤ i32 j then (-2 : Int32) else (if ¬ l 307 (10 * m + j) = x then g_10 m x d (j + 1)  l else l 308 (10 * m + j)))
theorem lg_10 {l : Sg} {P : MO → Sg → Prop} {rc rs : Nat} {m : Nat} {x : Int32}(hm : m < 30) : ∀ (d j : Nat), j + d = 10 → Rk (Qv P l) (g_10 m x d j  l) → Ws false 10 rc rs 2 [(2, .int (i32 j)), (0, .ref (47 + 4 * m)), (1, .int x)] [] l P := by
  intro d
  induction d with
  | zero =>
    intro j hj k
    obtain rfl : 10 = j := by omega
    rw [g_10] at k
    refine zPs (pc1 := 4) (l1 := [(2, .int (i32 10)), (0, .ref (47 + 4 * m)), (1, .int x)]) (st1 := [.ref (47 + 4 * m), .int (i32 10)]) 2 rfl rfl rfl ?_
    refine zGetI (F := 306) (I := m) (v := l 306 m) rfl rfl (icKs hm) rfl ?_
    refine zCge rfl (fun h1 => ?_) (fun h1 => ?_)
    · replace k := ite_t h1 k
      refine zPs (pc1 := 41) (l1 := [(2, .int (i32 10)), (0, .ref (47 + 4 * m)), (1, .int x)]) (st1 := [.int (-2 : Int32)]) 1 rfl rfl rfl ?_
      refine zRi rfl rfl ?_
      exact k
    · replace k := ite_f h1 k
      refine zPs (pc1 := 13) (l1 := [(2, .int (i32 10)), (0, .ref (47 + 4 * m)), (1, .int x)]) (st1 := [.int (10 : Int32), .int (i32 10)]) 2 rfl rfl rfl ?_
      refine nCge (a := 10) (b := 10) (by omega) (by omega) rfl (fun h2 => ?_) (fun h2 => absurd (Nat.le_refl _) h2)
      refine zPs (pc1 := 41) (l1 := [(2, .int (i32 10)), (0, .ref (47 + 4 * m)), (1, .int x)]) (st1 := [.int (-2 : Int32)]) 1 rfl rfl rfl ?_
      refine zRi rfl rfl ?_
      exact k
  | succ d ih =>
    intro j hj k
    have hjl : j < 10 := by omega
    rw [g_10] at k
    refine zPs (pc1 := 4) (l1 := [(2, .int (i32 j)), (0, .ref (47 + 4 * m)), (1, .int x)]) (st1 := [.ref (47 + 4 * m), .int (i32 j)]) 2 rfl rfl rfl ?_
    refine zGetI (F := 306) (I := m) (v := l 306 m) rfl rfl (icKs hm) rfl ?_
    refine zCge rfl (fun h1 => ?_) (fun h1 => ?_)
    · replace k := ite_t h1 k
      refine zPs (pc1 := 41) (l1 := [(2, .int (i32 j)), (0, .ref (47 + 4 * m)), (1, .int x)]) (st1 := [.int (-2 : Int32)]) 1 rfl rfl rfl ?_
      refine zRi rfl rfl ?_
      exact k
    · replace k := ite_f h1 k
      refine zPs (pc1 := 13) (l1 := [(2, .int (i32 j)), (0, .ref (47 + 4 * m)), (1, .int x)]) (st1 := [.int (10 : Int32), .int (i32 j)]) 2 rfl rfl rfl ?_
      refine nCge (a := j) (b := 10) (by omega) (by omega) rfl (fun h2 => absurd h2 (by omega)) (fun h2 => ?_)
      refine zPs (pc1 := 17) (l1 := [(2, .int (i32 j)), (0, .ref (47 + 4 * m)), (1, .int x)]) (st1 := [.ref (47 + 4 * m)]) 1 rfl rfl rfl ?_
      refine zGetR (r := (48 + 4 * m)) rfl rfl (irCo hm) ?_
      refine zPs (pc1 := 21) (l1 := [(2, .int (i32 j)), (0, .ref (47 + 4 * m)), (1, .int x)]) (st1 := [.int (i32 j), .ref (48 + 4 * m)]) 1 rfl rfl rfl ?_
      refine zIal (n := j) (v := l 307 (10 * m + j)) rfl (icCo hm (by omega)) rfl ?_
      refine zPs (pc1 := 23) (l1 := [(2, .int (i32 j)), (0, .ref (47 + 4 * m)), (1, .int x)]) (st1 := [.int x, .int (l 307 (10 * m + j))]) 1 rfl rfl rfl ?_
      refine zCn rfl (fun h3 => ?_) (fun h3 => ?_)
      · replace k := ite_t h3 k
        refine zPs (pc1 := 36) (l1 := [(2, .int (i32 j + (1 : Int32))), (0, .ref (47 + 4 * m)), (1, .int x)]) (st1 := []) 1 rfl rfl rfl ?_
        refine zTo (ml' := [(2, .int (i32 (j + 1))), (0, .ref (47 + 4 * m)), (1, .int x)]) (st' := []) (by rw [show (i32 j + (1 : Int32)) = i32 (j + 1) from i32_add j 1]) rfl ?_
        refine zPs (pc1 := 2) (l1 := [(2, .int (i32 (j + 1))), (0, .ref (47 + 4 * m)), (1, .int x)]) (st1 := []) 1 rfl rfl rfl ?_
        refine zMl (ml' := [(2, .int (i32 (j + 1))), (0, .ref (47 + 4 * m)), (1, .int x)]) ⟨rfl, rfl, rfl, trivial⟩ rfl rfl ?_
        exact ih (j + 1) (by omega) k
      · replace k := ite_f (not_not_intro h3) k
        refine zPs (pc1 := 27) (l1 := [(2, .int (i32 j)), (0, .ref (47 + 4 * m)), (1, .int x)]) (st1 := [.ref (47 + 4 * m)]) 1 rfl rfl rfl ?_
        refine zGetR (r := (49 + 4 * m)) rfl rfl (irTa hm) ?_
        refine zPs (pc1 := 31) (l1 := [(2, .int (i32 j)), (0, .ref (47 + 4 * m)), (1, .int x)]) (st1 := [.int (i32 j), .ref (49 + 4 * m)]) 1 rfl rfl rfl ?_
        refine zIal (n := j) (v := l 308 (10 * m + j)) rfl (icTa hm (by omega)) rfl ?_
        refine zRi rfl rfl ?_
        exact k
noncomputable def f_10 (m : Nat) (x : Int32) (l : Sg) : Int32 := g_10 m x 10 0  l
theorem e_10 {l : Sg} {P : MO → Sg → Prop} {m : Nat} {x : Int32} (hm : m < 30) (k : Rk (Qv P l) (f_10 m x l)) : Es false 10 [.ref (47 + 4 * m), .int x] l P := by
  unfold f_10 at k
  refine Es.of ?_
  refine zPs (pc1 := 2) (l1 := [(2, .int (0 : Int32)), (0, .ref (47 + 4 * m)), (1, .int x)]) (st1 := []) 2 rfl rfl rfl ?_
  refine zMl (ml' := [(2, .int (i32 0)), (0, .ref (47 + 4 * m)), (1, .int x)]) ⟨rfl, rfl, rfl, trivial⟩ rfl rfl ?_
  exact lg_10 hm 10 0   (by omega) k
noncomputable def g_11 (m : Nat) (x : Int32) : Nat → Nat → Sg → Int32
  | 0, _, l => (if l 306 m ≤ i32 10 then (0 : Int32) else (0 : Int32))
  | d + 1, j, l => (if l 306 m ≤ i32 j then (0 : Int32) else (if (l 307 (10 * m + j) / (10 : Int32)) = x then (1 : Int32) else (if ¬ (l 307 (10 * m + j) / (100 : Int32)) = x then g_11 m x d (j + 1)  l else (1 : Int32))))
theorem lg_11 {l : Sg} {P : MO → Sg → Prop} {rc rs : Nat} {m : Nat} {x : Int32}(hm : m < 30) : ∀ (d j : Nat), j + d = 10 → Rk (Qv P l) (g_11 m x d j  l) → Ws false 11 rc rs 2 [(2, .int (i32 j)), (0, .ref (47 + 4 * m)), (1, .int x)] [] l P := by
  intro d
  induction d with
  | zero =>
    intro j hj k
    obtain rfl : 10 = j := by omega
    rw [g_11] at k
    refine zPs (pc1 := 4) (l1 := [(2, .int (i32 10)), (0, .ref (47 + 4 * m)), (1, .int x)]) (st1 := [.ref (47 + 4 * m), .int (i32 10)]) 2 rfl rfl rfl ?_
    refine zGetI (F := 306) (I := m) (v := l 306 m) rfl rfl (icKs hm) rfl ?_
    refine zCge rfl (fun h1 => ?_) (fun h1 => ?_)
    · replace k := ite_t h1 k
      refine zPs (pc1 := 51) (l1 := [(2, .int (i32 10)), (0, .ref (47 + 4 * m)), (1, .int x)]) (st1 := [.int (0 : Int32)]) 1 rfl rfl rfl ?_
      refine zRz rfl rfl (Or.inl rfl) ?_
      exact k
    · replace k := ite_f h1 k
      refine zPs (pc1 := 13) (l1 := [(2, .int (i32 10)), (0, .ref (47 + 4 * m)), (1, .int x)]) (st1 := [.int (10 : Int32), .int (i32 10)]) 2 rfl rfl rfl ?_
      refine nCge (a := 10) (b := 10) (by omega) (by omega) rfl (fun h2 => ?_) (fun h2 => absurd (Nat.le_refl _) h2)
      refine zPs (pc1 := 51) (l1 := [(2, .int (i32 10)), (0, .ref (47 + 4 * m)), (1, .int x)]) (st1 := [.int (0 : Int32)]) 1 rfl rfl rfl ?_
      refine zRz rfl rfl (Or.inl rfl) ?_
      exact k
  | succ d ih =>
    intro j hj k
    have hjl : j < 10 := by omega
    rw [g_11] at k
    refine zPs (pc1 := 4) (l1 := [(2, .int (i32 j)), (0, .ref (47 + 4 * m)), (1, .int x)]) (st1 := [.ref (47 + 4 * m), .int (i32 j)]) 2 rfl rfl rfl ?_
    refine zGetI (F := 306) (I := m) (v := l 306 m) rfl rfl (icKs hm) rfl ?_
    refine zCge rfl (fun h1 => ?_) (fun h1 => ?_)
    · replace k := ite_t h1 k
      refine zPs (pc1 := 51) (l1 := [(2, .int (i32 j)), (0, .ref (47 + 4 * m)), (1, .int x)]) (st1 := [.int (0 : Int32)]) 1 rfl rfl rfl ?_
      refine zRz rfl rfl (Or.inl rfl) ?_
      exact k
    · replace k := ite_f h1 k
      refine zPs (pc1 := 13) (l1 := [(2, .int (i32 j)), (0, .ref (47 + 4 * m)), (1, .int x)]) (st1 := [.int (10 : Int32), .int (i32 j)]) 2 rfl rfl rfl ?_
      refine nCge (a := j) (b := 10) (by omega) (by omega) rfl (fun h2 => absurd h2 (by omega)) (fun h2 => ?_)
      refine zPs (pc1 := 17) (l1 := [(2, .int (i32 j)), (0, .ref (47 + 4 * m)), (1, .int x)]) (st1 := [.ref (47 + 4 * m)]) 1 rfl rfl rfl ?_
      refine zGetR (r := (48 + 4 * m)) rfl rfl (irCo hm) ?_
      refine zPs (pc1 := 21) (l1 := [(2, .int (i32 j)), (0, .ref (47 + 4 * m)), (1, .int x)]) (st1 := [.int (i32 j), .ref (48 + 4 * m)]) 1 rfl rfl rfl ?_
      refine zIal (n := j) (v := l 307 (10 * m + j)) rfl (icCo hm (by omega)) rfl ?_
      refine zPs (pc1 := 24) (l1 := [(2, .int (i32 j)), (0, .ref (47 + 4 * m)), (1, .int x)]) (st1 := [.int (10 : Int32), .int (l 307 (10 * m + j))]) 1 rfl rfl rfl ?_
      refine zDiv rfl (by decide) ?_
      refine zPs (pc1 := 26) (l1 := [(2, .int (i32 j)), (0, .ref (47 + 4 * m)), (1, .int x)]) (st1 := [.int x, .int (l 307 (10 * m + j) / (10 : Int32))]) 1 rfl rfl rfl ?_
      refine zCe rfl (fun h3 => ?_) (fun h3 => ?_)
      · replace k := ite_t h3 k
        refine zPs (pc1 := 43) (l1 := [(2, .int (i32 j)), (0, .ref (47 + 4 * m)), (1, .int x)]) (st1 := [.int (1 : Int32)]) 1 rfl rfl rfl ?_
        refine zRz rfl rfl (Or.inr rfl) ?_
        exact k
      · replace k := ite_f h3 k
        refine zPs (pc1 := 30) (l1 := [(2, .int (i32 j)), (0, .ref (47 + 4 * m)), (1, .int x)]) (st1 := [.ref (47 + 4 * m)]) 1 rfl rfl rfl ?_
        refine zGetR (r := (48 + 4 * m)) rfl rfl (irCo hm) ?_
        refine zPs (pc1 := 34) (l1 := [(2, .int (i32 j)), (0, .ref (47 + 4 * m)), (1, .int x)]) (st1 := [.int (i32 j), .ref (48 + 4 * m)]) 1 rfl rfl rfl ?_
        refine zIal (n := j) (v := l 307 (10 * m + j)) rfl (icCo hm (by omega)) rfl ?_
        refine zPs (pc1 := 37) (l1 := [(2, .int (i32 j)), (0, .ref (47 + 4 * m)), (1, .int x)]) (st1 := [.int (100 : Int32), .int (l 307 (10 * m + j))]) 1 rfl rfl rfl ?_
        refine zDiv rfl (by decide) ?_
        refine zPs (pc1 := 39) (l1 := [(2, .int (i32 j)), (0, .ref (47 + 4 * m)), (1, .int x)]) (st1 := [.int x, .int (l 307 (10 * m + j) / (100 : Int32))]) 1 rfl rfl rfl ?_
        refine zCn rfl (fun h4 => ?_) (fun h4 => ?_)
        · replace k := ite_t h4 k
          refine zPs (pc1 := 47) (l1 := [(2, .int (i32 j + (1 : Int32))), (0, .ref (47 + 4 * m)), (1, .int x)]) (st1 := []) 1 rfl rfl rfl ?_
          refine zTo (ml' := [(2, .int (i32 (j + 1))), (0, .ref (47 + 4 * m)), (1, .int x)]) (st' := []) (by rw [show (i32 j + (1 : Int32)) = i32 (j + 1) from i32_add j 1]) rfl ?_
          refine zPs (pc1 := 2) (l1 := [(2, .int (i32 (j + 1))), (0, .ref (47 + 4 * m)), (1, .int x)]) (st1 := []) 1 rfl rfl rfl ?_
          refine zMl (ml' := [(2, .int (i32 (j + 1))), (0, .ref (47 + 4 * m)), (1, .int x)]) ⟨rfl, rfl, rfl, trivial⟩ rfl rfl ?_
          exact ih (j + 1) (by omega) k
        · replace k := ite_f (not_not_intro h4) k
          refine zPs (pc1 := 43) (l1 := [(2, .int (i32 j)), (0, .ref (47 + 4 * m)), (1, .int x)]) (st1 := [.int (1 : Int32)]) 1 rfl rfl rfl ?_
          refine zRz rfl rfl (Or.inr rfl) ?_
          exact k
noncomputable def f_11 (m : Nat) (x : Int32) (l : Sg) : Int32 := g_11 m x 10 0  l
theorem e_11 {l : Sg} {P : MO → Sg → Prop} {m : Nat} {x : Int32} (hm : m < 30) (k : Rk (Qv P l) (f_11 m x l)) : Es false 11 [.ref (47 + 4 * m), .int x] l P := by
  unfold f_11 at k
  refine Es.of ?_
  refine zPs (pc1 := 2) (l1 := [(2, .int (0 : Int32)), (0, .ref (47 + 4 * m)), (1, .int x)]) (st1 := []) 2 rfl rfl rfl ?_
  refine zMl (ml' := [(2, .int (i32 0)), (0, .ref (47 + 4 * m)), (1, .int x)]) ⟨rfl, rfl, rfl, trivial⟩ rfl rfl ?_
  exact lg_11 hm 10 0   (by omega) k
theorem g_11_01 {m : Nat} {x : Int32} : ∀ d j l, g_11 m x d j l = 0 ∨ g_11 m x d j l = 1
  | 0, j, l => by rw [g_11]; split <;> exact Or.inl rfl
  | d + 1, j, l => by
    rw [g_11]
    repeat' split
    all_goals first | exact Or.inl rfl | exact Or.inr rfl | exact g_11_01 d (j + 1) l
theorem f_11_01 (m : Nat) (x : Int32) (l : Sg) : f_11 m x l = 0 ∨ f_11 m x l = 1 := g_11_01 _ _ _
theorem f_29_01 (t : Int32) (l : Sg) : f_29 t l = 0 ∨ f_29 t l = 1 := by
  unfold f_29
  repeat' split
  all_goals first | exact Or.inl rfl | exact Or.inr rfl
noncomputable def f_26 (m : Nat) (x : Int32) (y : Int32) (l : Sg) : Int32 := (if ¬ l 296 m = (2 : Int32) then (if l 438 m ≤ y then (0 : Int32) else (1 : Int32)) else (f_11 m x l))
theorem e_26 {l : Sg} {P : MO → Sg → Prop} {m : Nat} {x : Int32} {y : Int32} (hm : m < 30) (k : Rk (Qv P l) (f_26 m x y l)) : Es false 26 [.ref (46 + 4 * m), .int x, .int y] l P := by
  unfold f_26 at k
  refine Es.of ?_
  refine zPs (pc1 := 1) (l1 := [(0, .ref (46 + 4 * m)), (1, .int x), (2, .int y)]) (st1 := [.ref (46 + 4 * m)]) 1 rfl rfl rfl ?_
  refine zGetI (F := 296) (I := m) (v := l 296 m) rfl rfl (icN (j := 0) hm rfl) rfl ?_
  refine zPs (pc1 := 5) (l1 := [(0, .ref (46 + 4 * m)), (1, .int x), (2, .int y)]) (st1 := [.int (2 : Int32), .int (l 296 m)]) 1 rfl rfl rfl ?_
  refine zCn rfl (fun h1 => ?_) (fun h1 => ?_)
  · replace k := ite_t h1 k
    refine zPs (pc1 := 21) (l1 := [(0, .ref (46 + 4 * m)), (1, .int x), (2, .int y)]) (st1 := [.ref (46 + 4 * m), .int y]) 2 rfl rfl rfl ?_
    refine zGetI (F := 438) (I := m) (v := l 438 m) rfl rfl (icN (j := 8) hm rfl) rfl ?_
    refine zCge rfl (fun h2 => ?_) (fun h2 => ?_)
    · replace k := ite_t h2 k
      refine zPs (pc1 := 32) (l1 := [(0, .ref (46 + 4 * m)), (1, .int x), (2, .int y)]) (st1 := [.int (0 : Int32)]) 1 rfl rfl rfl ?_
      refine zRz rfl rfl (Or.inl rfl) ?_
      exact k
    · replace k := ite_f h2 k
      refine zPs (pc1 := 32) (l1 := [(0, .ref (46 + 4 * m)), (1, .int x), (2, .int y)]) (st1 := [.int (1 : Int32)]) 2 rfl rfl rfl ?_
      refine zRz rfl rfl (Or.inr rfl) ?_
      exact k
  · replace k := ite_f (not_not_intro h1) k
    refine zPs (pc1 := 9) (l1 := [(0, .ref (46 + 4 * m)), (1, .int x), (2, .int y)]) (st1 := [.ref (46 + 4 * m)]) 1 rfl rfl rfl ?_
    refine zGetR (r := (47 + 4 * m)) rfl rfl (irKs hm) ?_
    refine zPs (pc1 := 13) (l1 := [(0, .ref (46 + 4 * m)), (1, .int x), (2, .int y)]) (st1 := [.int x, .ref (47 + 4 * m)]) 1 rfl rfl rfl ?_
    refine zCv (mj := 11) (k := (47 + 4 * m)) (n := 1) rfl rfl rfl rfl (by have := hm; omega) (tagK_keys hm) rfl rfl rfl rfl rfl ?_
    refine e_11 hm ?_
    refine kI ?_
    refine zPs (pc1 := 32) (l1 := [(0, .ref (46 + 4 * m)), (1, .int x), (2, .int y)]) (st1 := [.int (f_11 m x l)]) 1 rfl rfl rfl ?_
    refine zRz rfl rfl (f_11_01 ..) ?_
    exact k
noncomputable def f_25 (m : Nat) (x : Int32) (y : Int32) (w : Int32) (l : Sg) : Sg := (up2 (up2 (up2 (up2 (up2 (up2 (up2 l 296 m x) 301 m y) 302 m w) 303 m (10 : Int32)) 304 m (3 : Int32)) 305 m (2 : Int32)) 306 m (0 : Int32))
theorem e_25 {l : Sg} {P : MO → Sg → Prop} {m : Nat} {x : Int32} {y : Int32} {w : Int32} (hm : m < 30) (k : Rk (Qm P) (f_25 m x y w l)) : Es false 25 [.ref (46 + 4 * m), .int x, .int y, .int w] l P := by
  unfold f_25 at k
  refine Es.of ?_
  refine zPs (pc1 := 2) (l1 := [(0, .ref (46 + 4 * m)), (1, .int x), (2, .int y), (3, .int w)]) (st1 := [.int x, .ref (46 + 4 * m)]) 2 rfl rfl rfl ?_
  refine zPutI (F := 296) (I := m) rfl rfl (icN (j := 0) hm rfl) rfl ?_
  refine zPs (pc1 := 7) (l1 := [(0, .ref (46 + 4 * m)), (1, .int x), (2, .int y), (3, .int w)]) (st1 := [.int y, .ref (46 + 4 * m)]) 2 rfl rfl rfl ?_
  refine zPutI (F := 301) (I := m) rfl rfl (icN (j := 1) hm rfl) rfl ?_
  refine zPs (pc1 := 12) (l1 := [(0, .ref (46 + 4 * m)), (1, .int x), (2, .int y), (3, .int w)]) (st1 := [.int w, .ref (46 + 4 * m)]) 2 rfl rfl rfl ?_
  refine zPutI (F := 302) (I := m) rfl rfl (icN (j := 2) hm rfl) rfl ?_
  refine zPs (pc1 := 18) (l1 := [(0, .ref (46 + 4 * m)), (1, .int x), (2, .int y), (3, .int w)]) (st1 := [.int (10 : Int32), .ref (46 + 4 * m)]) 2 rfl rfl rfl ?_
  refine zPutI (F := 303) (I := m) rfl rfl (icN (j := 4) hm rfl) rfl ?_
  refine zPs (pc1 := 23) (l1 := [(0, .ref (46 + 4 * m)), (1, .int x), (2, .int y), (3, .int w)]) (st1 := [.int (3 : Int32), .ref (46 + 4 * m)]) 2 rfl rfl rfl ?_
  refine zPutI (F := 304) (I := m) rfl rfl (icN (j := 5) hm rfl) rfl ?_
  refine zPs (pc1 := 28) (l1 := [(0, .ref (46 + 4 * m)), (1, .int x), (2, .int y), (3, .int w)]) (st1 := [.int (2 : Int32), .ref (46 + 4 * m)]) 2 rfl rfl rfl ?_
  refine zPutI (F := 305) (I := m) rfl rfl (icN (j := 6) hm rfl) rfl ?_
  refine zPs (pc1 := 32) (l1 := [(0, .ref (46 + 4 * m)), (1, .int x), (2, .int y), (3, .int w)]) (st1 := [.ref (46 + 4 * m)]) 1 rfl rfl rfl ?_
  refine zGetR (r := (47 + 4 * m)) rfl rfl (irKs hm) ?_
  refine zPs (pc1 := 36) (l1 := [(0, .ref (46 + 4 * m)), (1, .int x), (2, .int y), (3, .int w)]) (st1 := [.int (0 : Int32), .ref (47 + 4 * m)]) 1 rfl rfl rfl ?_
  refine zPutI (F := 306) (I := m) rfl rfl (icKs hm) rfl ?_
  refine zRv rfl rfl ?_
  exact k
theorem ci_25 {l : Sg} {n : Nat} {m : Nat} {x : Int32} {y : Int32} {w : Int32} (h : CI l n) : CI (f_25 m x y w l) n := by
  unfold f_25
  (repeat' first | with_reducible exact h | with_reducible refine CI_ite ?_ ?_ | with_reducible refine CI_ite2 ?_ ?_ | with_reducible refine CI_ite3 ?_ ?_ | with_reducible refine CI_bnd ?_ | with_reducible refine CI_bnd' ?_ | with_reducible refine CI_bnd3 ?_ | with_reducible refine CI_bnd2 ?_ | with_reducible refine CI_bnd2' ?_ | with_reducible refine CI_bnd23 ?_ | with_reducible refine CI_up ?_ ?_ | with_reducible refine ci_1 ?_ | with_reducible refine ci_2 ?_ | with_reducible refine ci_17 ?_ | with_reducible refine ci_18 ?_ | with_reducible refine ci_19 ?_ | with_reducible refine ci_20 ?_) <;> rfl
