/-! ===== the model: what a call does at a node ===== -/
theorem l_140 {z : Sg} {P : MO → Sg → Prop} {rc rs : Nat} {v : Int32} : ∀ d r k, 10 ^ d ≤ r → r < 10 ^ (d + 1) → d ≤ 8 → k + d ≤ 20 → P (.inl (some (.int (i32 (k + d))))) z → Ws true 140 rc rs 4 [(2, .int (i32 r)), (1, .int (i32 k)), (0, .int v)] [] z P := by
  intro d
  induction d with
  | zero =>
    intro r k h1 h2 h3 h4 kk
    have hr : r ≤ 9 := by omega
    refine zPs (pc1 := 7) (l1 := [(2, .int (i32 r)), (1, .int (i32 k)), (0, .int v)]) (st1 := [.int (9 : Int32), .int (i32 r)]) 2 rfl rfl rfl ?_
    refine nCle (a := r) (b := 9) (by omega) (by omega) rfl (fun h1 => ?_) (fun h1 => absurd (by omega) h1)
    refine zPs (pc1 := 22) (l1 := [(2, .int (i32 r)), (1, .int (i32 k)), (0, .int v)]) (st1 := [.int (i32 k)]) 1 rfl rfl rfl ?_
    refine zRi rfl rfl ?_
    exact kk
  | succ d ih =>
    intro r k h1 h2 h3 h4 kk
    have e1 : 10 ^ (d + 1) = 10 ^ d * 10 := Nat.pow_succ 10 d
    have e2 : 10 ^ (d + 1 + 1) = 10 ^ (d + 1) * 10 := Nat.pow_succ 10 (d + 1)
    have e0 : 1 ≤ 10 ^ d := Nat.one_le_pow _ _ (by decide)
    have e8 : 10 ^ (d + 1) ≤ 10 ^ 8 := Nat.pow_le_pow_right (by decide) h3
    have hr : ¬ r ≤ 9 := by omega
    have hr2 : r < 2147483648 := by omega
    refine zPs (pc1 := 7) (l1 := [(2, .int (i32 r)), (1, .int (i32 k)), (0, .int v)]) (st1 := [.int (9 : Int32), .int (i32 r)]) 2 rfl rfl rfl ?_
    refine nCle (a := r) (b := 9) (by omega) (by omega) rfl (fun h1 => absurd h1 hr) (fun h1 => ?_)
    refine zPs (pc1 := 13) (l1 := [(1, .int (i32 k + (1 : Int32))), (2, .int (i32 r)), (0, .int v)]) (st1 := []) 1 rfl rfl rfl ?_
    refine zTo (ml' := [(1, .int (i32 (k + 1))), (2, .int (i32 r)), (0, .int v)]) (st' := []) (by rw [show (i32 k + (1 : Int32)) = i32 (k + 1) from i32_add k 1]) rfl ?_
    refine zPs (pc1 := 16) (l1 := [(1, .int (i32 (k + 1))), (2, .int (i32 r)), (0, .int v)]) (st1 := [.int (10 : Int32), .int (i32 r)]) 2 rfl rfl rfl ?_
    refine zDiv rfl (by decide) ?_
    refine zTo (ml' := [(1, .int (i32 (k + 1))), (2, .int (i32 r)), (0, .int v)]) (st' := [.int (i32 (r / 10))]) rfl (by rw [show (i32 r / (10 : Int32)) = i32 (r / 10) from i32_div (by omega) (by decide) (by decide)]) ?_
    refine zPs (pc1 := 4) (l1 := [(2, .int (i32 (r / 10))), (1, .int (i32 (k + 1))), (0, .int v)]) (st1 := []) 2 rfl rfl rfl ?_
    refine zMl (ml' := [(2, .int (i32 (r / 10))), (1, .int (i32 (k + 1))), (0, .int v)]) ⟨rfl, rfl, rfl, trivial⟩ rfl rfl ?_
    exact ih (r / 10) (k + 1) (by omega) (by omega) (by omega) (by omega) (by rw [Nat.add_assoc, Nat.add_comm 1 d]; exact kk)
theorem c_140 {z : Sg} {P : MO → Sg → Prop} {d r : Nat} (h1 : 10 ^ d ≤ r) (h2 : r < 10 ^ (d + 1)) (h3 : d ≤ 8) (k : P (.inl (some (.int (i32 d)))) z) : Es true 140 [.int (i32 r)] z P := by
  refine Es.of ?_
  refine zPs (pc1 := 4) (l1 := [(2, .int (i32 r)), (1, .int (0 : Int32)), (0, .int (i32 r))]) (st1 := []) 4 rfl rfl rfl ?_
  refine zMl (ml' := [(2, .int (i32 r)), (1, .int (i32 0)), (0, .int (i32 r))]) ⟨rfl, rfl, rfl, trivial⟩ rfl rfl ?_
  exact l_140 d r 0 h1 h2 h3 (by omega) (by rw [Nat.zero_add]; exact k)
theorem l_141 {z : Sg} {P : MO → Sg → Prop} {rc rs : Nat} {m : Nat} (hm : m ≤ 8) (k : P (.inl (some (.int (i32 (10 ^ m))))) z) : ∀ d j, j + d = m → Ws true 141 rc rs 4 [(2, .int (i32 j)), (1, .int (i32 (10 ^ j))), (0, .int (i32 m))] [] z P := by
  intro d
  induction d with
  | zero =>
    intro j hj
    obtain rfl : j = m := by omega
    refine zPs (pc1 := 6) (l1 := [(2, .int (i32 j)), (1, .int (i32 (10 ^ j))), (0, .int (i32 j))]) (st1 := [.int (i32 j), .int (i32 j)]) 2 rfl rfl rfl ?_
    refine nCge (a := j) (b := j) (by omega) (by omega) rfl (fun h1 => ?_) (fun h1 => absurd (by omega) h1)
    refine zPs (pc1 := 21) (l1 := [(2, .int (i32 j)), (1, .int (i32 (10 ^ j))), (0, .int (i32 j))]) (st1 := [.int (i32 (10 ^ j))]) 1 rfl rfl rfl ?_
    refine zRi rfl rfl ?_
    exact k
  | succ d ih =>
    intro j hj
    have hjl : ¬ m ≤ j := by omega
    refine zPs (pc1 := 6) (l1 := [(2, .int (i32 j)), (1, .int (i32 (10 ^ j))), (0, .int (i32 m))]) (st1 := [.int (i32 m), .int (i32 j)]) 2 rfl rfl rfl ?_
    refine nCge (a := j) (b := m) (by omega) (by omega) rfl (fun h1 => absurd h1 hjl) (fun h1 => ?_)
    refine zPs (pc1 := 13) (l1 := [(2, .int (i32 j)), (1, .int (i32 (10 ^ j))), (0, .int (i32 m))]) (st1 := [.int (i32 (10 ^ j) * (10 : Int32))]) 3 rfl rfl rfl ?_
    refine zTo (ml' := [(2, .int (i32 j)), (1, .int (i32 (10 ^ j))), (0, .int (i32 m))]) (st' := [.int (i32 ((10 ^ j) * 10))]) rfl (by rw [show (i32 (10 ^ j) * (10 : Int32)) = i32 ((10 ^ j) * 10) from i32_mul (10 ^ j) 10]) ?_
    refine zPs (pc1 := 17) (l1 := [(2, .int (i32 j + (1 : Int32))), (1, .int (i32 ((10 ^ j) * 10))), (0, .int (i32 m))]) (st1 := []) 2 rfl rfl rfl ?_
    refine zTo (ml' := [(2, .int (i32 (j + 1))), (1, .int (i32 ((10 ^ j) * 10))), (0, .int (i32 m))]) (st' := []) (by rw [show (i32 j + (1 : Int32)) = i32 (j + 1) from i32_add j 1]) rfl ?_
    refine zPs (pc1 := 4) (l1 := [(2, .int (i32 (j + 1))), (1, .int (i32 ((10 ^ j) * 10))), (0, .int (i32 m))]) (st1 := []) 1 rfl rfl rfl ?_
    refine zMl (ml' := [(2, .int (i32 (j + 1))), (1, .int (i32 (10 ^ (j + 1)))), (0, .int (i32 m))]) ⟨rfl, (congrArg (fun x => some (Value.int (i32 x))) (Nat.pow_succ 10 j).symm), rfl, trivial⟩ rfl rfl ?_
    exact ih (j + 1) (by omega)
theorem c_141 {z : Sg} {P : MO → Sg → Prop} {m : Nat} (hm : m ≤ 8) (k : P (.inl (some (.int (i32 (10 ^ m))))) z) : Es true 141 [.int (i32 m)] z P := by
  refine Es.of ?_
  refine zPs (pc1 := 4) (l1 := [(2, .int (0 : Int32)), (1, .int (1 : Int32)), (0, .int (i32 m))]) (st1 := []) 4 rfl rfl rfl ?_
  refine zMl (ml' := [(2, .int (i32 0)), (1, .int (i32 (10 ^ 0))), (0, .int (i32 m))]) ⟨rfl, rfl, rfl, trivial⟩ rfl rfl ?_
  exact l_141 hm k m 0 (by omega)
def sListen (z : Sg) (c m : Nat) : Sg := up2 (up2 z 314 c 1) 316 c (z 292 0 + z 303 m)
theorem c_134 {z : Sg} {P : MO → Sg → Prop} {c m : Nat} (hc : c < 60) (hm : m < 30) (hnd : z 313 c = i32 m) (k : P (.inl none) (sListen z c m)) : Es true 134 [.ref 292, .int (i32 c)] z P := by
  refine Es.of ?_
  refine zPs (pc1 := 1) (l1 := [(0, .ref 292), (1, .int (i32 c))]) (st1 := [.ref 292]) 1 rfl rfl rfl ?_
  refine zGetR (r := 314) rfl rfl ⟨by decide, rfl, by decide, rfl⟩ ?_
  refine zPs (pc1 := 6) (l1 := [(0, .ref 292), (1, .int (i32 c))]) (st1 := [.int (1 : Int32), .int (i32 c), .ref 314]) 2 rfl rfl rfl ?_
  refine zIas (n := c) rfl (icM (k := 314) (L := 60) rfl hc) ?_
  refine zPs (pc1 := 8) (l1 := [(0, .ref 292), (1, .int (i32 c))]) (st1 := [.ref 292]) 1 rfl rfl rfl ?_
  refine zGetR (r := 316) rfl rfl ⟨by decide, rfl, by decide, rfl⟩ ?_
  refine zPs (pc1 := 13) (l1 := [(0, .ref 292), (1, .int (i32 c))]) (st1 := [.ref 292, .int (i32 c), .ref 316]) 2 rfl rfl rfl ?_
  refine zGetI (v := z 292 0) rfl rfl icTime (by simp [up2]) ?_
  refine zPs (pc1 := 17) (l1 := [(0, .ref 292), (1, .int (i32 c))]) (st1 := [.ref 292, .int (z 292 0), .int (i32 c), .ref 316]) 1 rfl rfl rfl ?_
  refine zGetR (r := 303) rfl rfl ⟨by decide, rfl, by decide, rfl⟩ ?_
  refine zPs (pc1 := 21) (l1 := [(0, .ref 292), (1, .int (i32 c))]) (st1 := [.ref 292, .ref 303, .int (z 292 0), .int (i32 c), .ref 316]) 1 rfl rfl rfl ?_
  refine zGetR (r := 313) rfl rfl ⟨by decide, rfl, by decide, rfl⟩ ?_
  refine zPs (pc1 := 25) (l1 := [(0, .ref 292), (1, .int (i32 c))]) (st1 := [.int (i32 c), .ref 313, .ref 303, .int (z 292 0), .int (i32 c), .ref 316]) 1 rfl rfl rfl ?_
  refine zIal (n := c) (v := i32 m) rfl (icM (k := 313) (L := 60) rfl hc) (by simp [up2, hnd]) ?_
  refine zIal (n := m) (v := z 303 m) rfl (icM (k := 303) (L := 30) rfl hm) (by simp [up2]) ?_
  refine zPs (pc1 := 28) (l1 := [(0, .ref 292), (1, .int (i32 c))]) (st1 := [.int (z 292 0 + z 303 m), .int (i32 c), .ref 316]) 1 rfl rfl rfl ?_
  refine zIas (n := c) rfl (icM (k := 316) (L := 60) rfl hc) ?_
  refine zRv rfl rfl ?_
  exact k
def sReady (z : Sg) (a : Nat) : Sg := up2 (up2 (up2 z 326 a 1) 328 a (z 292 0)) 331 a (-1)
theorem c_145 {z : Sg} {P : MO → Sg → Prop} {a : Nat} (ha : a < 6) (k : P (.inl none) (sReady z a)) : Es true 145 [.ref 292, .int (i32 a)] z P := by
  refine Es.of ?_
  refine zPs (pc1 := 1) (l1 := [(0, .ref 292), (1, .int (i32 a))]) (st1 := [.ref 292]) 1 rfl rfl rfl ?_
  refine zGetR (r := 326) rfl rfl ⟨by decide, rfl, by decide, rfl⟩ ?_
  refine zPs (pc1 := 6) (l1 := [(0, .ref 292), (1, .int (i32 a))]) (st1 := [.int (1 : Int32), .int (i32 a), .ref 326]) 2 rfl rfl rfl ?_
  refine zIas (n := a) rfl (icM (k := 326) (L := 6) rfl ha) ?_
  refine zPs (pc1 := 8) (l1 := [(0, .ref 292), (1, .int (i32 a))]) (st1 := [.ref 292]) 1 rfl rfl rfl ?_
  refine zGetR (r := 328) rfl rfl ⟨by decide, rfl, by decide, rfl⟩ ?_
  refine zPs (pc1 := 13) (l1 := [(0, .ref 292), (1, .int (i32 a))]) (st1 := [.ref 292, .int (i32 a), .ref 328]) 2 rfl rfl rfl ?_
  refine zGetI (v := z 292 0) rfl rfl icTime (by simp [up2]) ?_
  refine zIas (n := a) rfl (icM (k := 328) (L := 6) rfl ha) ?_
  refine zPs (pc1 := 18) (l1 := [(0, .ref 292), (1, .int (i32 a))]) (st1 := [.ref 292]) 1 rfl rfl rfl ?_
  refine zGetR (r := 331) rfl rfl ⟨by decide, rfl, by decide, rfl⟩ ?_
  refine zPs (pc1 := 23) (l1 := [(0, .ref 292), (1, .int (i32 a))]) (st1 := [.int (-1 : Int32), .int (i32 a), .ref 331]) 2 rfl rfl rfl ?_
  refine zIas (n := a) rfl (icM (k := 331) (L := 6) rfl ha) ?_
  refine zRv rfl rfl ?_
  exact k
def sWraps (z : Sg) (a : Nat) : Sg := if z 329 a = 0 then sReady z a else up2 (up2 (up2 z 326 a 4) 330 a (z 292 0 + z 329 a)) 331 a (-1)
theorem c_146 {z : Sg} {P : MO → Sg → Prop} {a : Nat} (ha : a < 6) (k : P (.inl none) (sWraps z a)) : Es true 146 [.ref 292, .int (i32 a)] z P := by
  refine Es.of ?_
  refine zPs (pc1 := 1) (l1 := [(0, .ref 292), (1, .int (i32 a))]) (st1 := [.ref 292]) 1 rfl rfl rfl ?_
  refine zGetR (r := 329) rfl rfl ⟨by decide, rfl, by decide, rfl⟩ ?_
  refine zPs (pc1 := 5) (l1 := [(0, .ref 292), (1, .int (i32 a))]) (st1 := [.int (i32 a), .ref 329]) 1 rfl rfl rfl ?_
  refine zIal (n := a) (v := z 329 a) rfl (icM (k := 329) (L := 6) rfl ha) rfl ?_
  refine zIfn rfl (fun h1 => ?_) (fun h1 => ?_)
  · refine zPs (pc1 := 18) (l1 := [(0, .ref 292), (1, .int (i32 a))]) (st1 := [.ref 292]) 1 rfl rfl rfl ?_
    refine zGetR (r := 326) rfl rfl ⟨by decide, rfl, by decide, rfl⟩ ?_
    refine zPs (pc1 := 23) (l1 := [(0, .ref 292), (1, .int (i32 a))]) (st1 := [.int (4 : Int32), .int (i32 a), .ref 326]) 2 rfl rfl rfl ?_
    refine zIas (n := a) rfl (icM (k := 326) (L := 6) rfl ha) ?_
    refine zPs (pc1 := 25) (l1 := [(0, .ref 292), (1, .int (i32 a))]) (st1 := [.ref 292]) 1 rfl rfl rfl ?_
    refine zGetR (r := 330) rfl rfl ⟨by decide, rfl, by decide, rfl⟩ ?_
    refine zPs (pc1 := 30) (l1 := [(0, .ref 292), (1, .int (i32 a))]) (st1 := [.ref 292, .int (i32 a), .ref 330]) 2 rfl rfl rfl ?_
    refine zGetI (v := z 292 0) rfl rfl icTime (by simp [up2]) ?_
    refine zPs (pc1 := 34) (l1 := [(0, .ref 292), (1, .int (i32 a))]) (st1 := [.ref 292, .int (z 292 0), .int (i32 a), .ref 330]) 1 rfl rfl rfl ?_
    refine zGetR (r := 329) rfl rfl ⟨by decide, rfl, by decide, rfl⟩ ?_
    refine zPs (pc1 := 38) (l1 := [(0, .ref 292), (1, .int (i32 a))]) (st1 := [.int (i32 a), .ref 329, .int (z 292 0), .int (i32 a), .ref 330]) 1 rfl rfl rfl ?_
    refine zIal (n := a) (v := z 329 a) rfl (icM (k := 329) (L := 6) rfl ha) (by simp [up2]) ?_
    refine zPs (pc1 := 40) (l1 := [(0, .ref 292), (1, .int (i32 a))]) (st1 := [.int (z 292 0 + z 329 a), .int (i32 a), .ref 330]) 1 rfl rfl rfl ?_
    refine zIas (n := a) rfl (icM (k := 330) (L := 6) rfl ha) ?_
    refine zPs (pc1 := 42) (l1 := [(0, .ref 292), (1, .int (i32 a))]) (st1 := [.ref 292]) 1 rfl rfl rfl ?_
    refine zGetR (r := 331) rfl rfl ⟨by decide, rfl, by decide, rfl⟩ ?_
    refine zPs (pc1 := 47) (l1 := [(0, .ref 292), (1, .int (i32 a))]) (st1 := [.int (-1 : Int32), .int (i32 a), .ref 331]) 2 rfl rfl rfl ?_
    refine zIas (n := a) rfl (icM (k := 331) (L := 6) rfl ha) ?_
    refine zRv rfl rfl ?_
    simpa [sWraps, *] using k
  · refine zPs (pc1 := 11) (l1 := [(0, .ref 292), (1, .int (i32 a))]) (st1 := [.int (i32 a), .ref 292]) 2 rfl rfl rfl ?_
    refine zCv (mj := 145) (k := 292) (n := 1) rfl rfl rfl rfl (by decide) rfl rfl rfl rfl rfl rfl ?_
    refine c_145 ha ?_
    refine kV ?_
    refine zPs (pc1 := 48) (l1 := [(0, .ref 292), (1, .int (i32 a))]) (st1 := []) 1 rfl rfl rfl ?_
    refine zRv rfl rfl ?_
    simpa [sWraps, *] using k
abbrev openN (z : Sg) (t : Nat) : Prop := z 295 (t / 240) = 0 ∧ z 293 (t / 240 % 7) ≤ i32 (t % 240) ∧ i32 (t % 240) ≤ z 294 (t / 240 % 7) - 1
theorem c_126 {z : Sg} {P : MO → Sg → Prop} {t : Nat} (htl : t ≤ 20000) (ht : z 292 0 = i32 t) (k1 : openN z t → P (.inl (some (.int 1))) z) (k0 : ¬ openN z t → P (.inl (some (.int 0))) z) : Es true 126 [.ref 292] z P := by
  refine Es.of ?_
  refine zPs (pc1 := 1) (l1 := [(0, .ref 292)]) (st1 := [.ref 292]) 1 rfl rfl rfl ?_
  refine zGetI (v := i32 t) rfl rfl icTime ht ?_
  refine zPs (pc1 := 7) (l1 := [(0, .ref 292)]) (st1 := [.int (240 : Int32), .int (i32 t)]) 1 rfl rfl rfl ?_
  refine zDiv rfl (by decide) ?_
  refine zTo (ml' := [(0, .ref 292)]) (st' := [.int (i32 (t / 240))]) rfl (by rw [show (i32 t / (240 : Int32)) = i32 (t / 240) from i32_div (by omega) (by decide) (by decide)]) ?_
  refine zPs (pc1 := 10) (l1 := [(1, .int (i32 (t / 240))), (0, .ref 292)]) (st1 := [.ref 292]) 2 rfl rfl rfl ?_
  refine zGetR (r := 295) rfl rfl ⟨by decide, rfl, by decide, rfl⟩ ?_
  refine zPs (pc1 := 14) (l1 := [(1, .int (i32 (t / 240))), (0, .ref 292)]) (st1 := [.int (i32 (t / 240)), .ref 295]) 1 rfl rfl rfl ?_
  refine zZal (n := t / 240) (v := z 295 (t / 240)) rfl (icH (by omega)) rfl ?_
  refine zIfn rfl (fun h1 => ?_) (fun h1 => ?_)
  · refine zPs (pc1 := 57) (l1 := [(1, .int (i32 (t / 240))), (0, .ref 292)]) (st1 := [.int (0 : Int32)]) 1 rfl rfl rfl ?_
    refine zRz rfl rfl (Or.inl rfl) ?_
    exact k0 (by grind)
  · refine zPs (pc1 := 19) (l1 := [(1, .int (i32 (t / 240))), (0, .ref 292)]) (st1 := [.ref 292]) 1 rfl rfl rfl ?_
    refine zGetI (v := i32 t) rfl rfl icTime ht ?_
    refine zPs (pc1 := 25) (l1 := [(1, .int (i32 (t / 240))), (0, .ref 292)]) (st1 := [.int (240 : Int32), .int (i32 t)]) 1 rfl rfl rfl ?_
    refine zRem rfl (by decide) ?_
    refine zTo (ml' := [(1, .int (i32 (t / 240))), (0, .ref 292)]) (st' := [.int (i32 (t % 240))]) rfl (by rw [show (i32 t - i32 t / (240 : Int32) * (240 : Int32)) = i32 (t % 240) from i32_mod (by omega) (by decide) (by decide)]) ?_
    refine zPs (pc1 := 27) (l1 := [(1, .int (i32 (t / 240))), (0, .ref 292)]) (st1 := [.ref 292, .int (i32 (t % 240))]) 1 rfl rfl rfl ?_
    refine zGetR (r := 293) rfl rfl ⟨by decide, rfl, by decide, rfl⟩ ?_
    refine zPs (pc1 := 33) (l1 := [(1, .int (i32 (t / 240))), (0, .ref 292)]) (st1 := [.int (7 : Int32), .int (i32 (t / 240)), .ref 293, .int (i32 (t % 240))]) 2 rfl rfl rfl ?_
    refine zRem rfl (by decide) ?_
    refine zTo (ml' := [(1, .int (i32 (t / 240))), (0, .ref 292)]) (st' := [.int (i32 ((t / 240) % 7)), .ref 293, .int (i32 (t % 240))]) rfl (by rw [show (i32 (t / 240) - i32 (t / 240) / (7 : Int32) * (7 : Int32)) = i32 ((t / 240) % 7) from i32_mod (by omega) (by decide) (by decide)]) ?_
    refine zIal (n := (t / 240) % 7) (v := z 293 ((t / 240) % 7)) rfl (icM (k := 293) (L := 7) rfl (by omega)) rfl ?_
    refine zPs (pc1 := 36) (l1 := [(1, .int (i32 (t / 240))), (0, .ref 292)]) (st1 := [.ref 292, .int (z 293 ((t / 240) % 7)), .int (i32 (t % 240))]) 1 rfl rfl rfl ?_
    refine zGetR (r := 294) rfl rfl ⟨by decide, rfl, by decide, rfl⟩ ?_
    refine zPs (pc1 := 42) (l1 := [(1, .int (i32 (t / 240))), (0, .ref 292)]) (st1 := [.int (7 : Int32), .int (i32 (t / 240)), .ref 294, .int (z 293 ((t / 240) % 7)), .int (i32 (t % 240))]) 2 rfl rfl rfl ?_
    refine zRem rfl (by decide) ?_
    refine zTo (ml' := [(1, .int (i32 (t / 240))), (0, .ref 292)]) (st' := [.int (i32 ((t / 240) % 7)), .ref 294, .int (z 293 ((t / 240) % 7)), .int (i32 (t % 240))]) rfl (by rw [show (i32 (t / 240) - i32 (t / 240) / (7 : Int32) * (7 : Int32)) = i32 ((t / 240) % 7) from i32_mod (by omega) (by decide) (by decide)]) ?_
    refine zIal (n := (t / 240) % 7) (v := z 294 ((t / 240) % 7)) rfl (icM (k := 294) (L := 7) rfl (by omega)) rfl ?_
    refine zPs (pc1 := 46) (l1 := [(1, .int (i32 (t / 240))), (0, .ref 292)]) (st1 := [.int (z 294 ((t / 240) % 7) - (1 : Int32)), .int (z 293 ((t / 240) % 7)), .int (i32 (t % 240))]) 2 rfl rfl rfl ?_
    refine zCs (mj := 107) rfl rfl rfl rfl rfl rfl rfl rfl ?_
    refine c_107 (fun h2 h3 => ?_) (fun h4 => ?_)
    · refine kI ?_
      refine zPs (pc1 := 57) (l1 := [(1, .int (i32 (t / 240))), (0, .ref 292)]) (st1 := [.int (1 : Int32)]) 3 rfl rfl rfl ?_
      refine zRz rfl rfl (Or.inr rfl) ?_
      exact k1 (by grind)
    · refine kI ?_
      refine zPs (pc1 := 57) (l1 := [(1, .int (i32 (t / 240))), (0, .ref 292)]) (st1 := [.int (0 : Int32)]) 2 rfl rfl rfl ?_
      refine zRz rfl rfl (Or.inl rfl) ?_
      exact k0 (by grind)
def sLine1 (z : Sg) (c m : Nat) : Sg := up2 (up2 (up2 z 320 c (z 297 m)) 321 c (z 298 m)) 322 c (z 292 0)
def sLines (z : Sg) (n c m : Nat) : Sg × Int32 := if z 300 m ≤ i32 (cntW z (z 297 m) n) then (sLine1 z c m, z 301 m) else (up2 (up2 (sLine1 z c m) 311 c 1) 316 c (z 292 0 + z 299 m), -2)
theorem c_135 {z : Sg} {P : MO → Sg → Prop} {n : Nat} (hl : n ≤ 60) (hn : z 292 19 = i32 n) {c m : Nat} (hc : c < 60) (hm : m < 30) (k : P (.inl (some (.int (sLines z n c m).2))) (sLines z n c m).1) : Es true 135 [.ref 292, .int (i32 c), .int (i32 m)] z P := by
  refine Es.of ?_
  refine zPs (pc1 := 2) (l1 := [(0, .ref 292), (1, .int (i32 c)), (2, .int (i32 m))]) (st1 := [.ref 292, .ref 292]) 2 rfl rfl rfl ?_
  refine zGetR (r := 297) rfl rfl ⟨by decide, rfl, by decide, rfl⟩ ?_
  refine zPs (pc1 := 6) (l1 := [(0, .ref 292), (1, .int (i32 c)), (2, .int (i32 m))]) (st1 := [.int (i32 m), .ref 297, .ref 292]) 1 rfl rfl rfl ?_
  refine zIal (n := m) (v := z 297 m) rfl (icM (k := 297) (L := 30) rfl hm) rfl ?_
  refine zCv (mj := 129) (k := 292) (n := 1) rfl rfl rfl rfl (by decide) rfl rfl rfl rfl rfl rfl ?_
  refine c_129 hl hn ?_
  refine kI ?_
  refine zPs (pc1 := 12) (l1 := [(3, .int (i32 (cntW z (z 297 m) n))), (0, .ref 292), (1, .int (i32 c)), (2, .int (i32 m))]) (st1 := [.ref 292]) 2 rfl rfl rfl ?_
  refine zGetR (r := 320) rfl rfl ⟨by decide, rfl, by decide, rfl⟩ ?_
  refine zPs (pc1 := 17) (l1 := [(3, .int (i32 (cntW z (z 297 m) n))), (0, .ref 292), (1, .int (i32 c)), (2, .int (i32 m))]) (st1 := [.ref 292, .int (i32 c), .ref 320]) 2 rfl rfl rfl ?_
  refine zGetR (r := 297) rfl rfl ⟨by decide, rfl, by decide, rfl⟩ ?_
  refine zPs (pc1 := 21) (l1 := [(3, .int (i32 (cntW z (z 297 m) n))), (0, .ref 292), (1, .int (i32 c)), (2, .int (i32 m))]) (st1 := [.int (i32 m), .ref 297, .int (i32 c), .ref 320]) 1 rfl rfl rfl ?_
  refine zIal (n := m) (v := z 297 m) rfl (icM (k := 297) (L := 30) rfl hm) rfl ?_
  refine zIas (n := c) rfl (icM (k := 320) (L := 60) rfl hc) ?_
  refine zPs (pc1 := 24) (l1 := [(3, .int (i32 (cntW z (z 297 m) n))), (0, .ref 292), (1, .int (i32 c)), (2, .int (i32 m))]) (st1 := [.ref 292]) 1 rfl rfl rfl ?_
  refine zGetR (r := 321) rfl rfl ⟨by decide, rfl, by decide, rfl⟩ ?_
  refine zPs (pc1 := 29) (l1 := [(3, .int (i32 (cntW z (z 297 m) n))), (0, .ref 292), (1, .int (i32 c)), (2, .int (i32 m))]) (st1 := [.ref 292, .int (i32 c), .ref 321]) 2 rfl rfl rfl ?_
  refine zGetR (r := 298) rfl rfl ⟨by decide, rfl, by decide, rfl⟩ ?_
  refine zPs (pc1 := 33) (l1 := [(3, .int (i32 (cntW z (z 297 m) n))), (0, .ref 292), (1, .int (i32 c)), (2, .int (i32 m))]) (st1 := [.int (i32 m), .ref 298, .int (i32 c), .ref 321]) 1 rfl rfl rfl ?_
  refine zIal (n := m) (v := z 298 m) rfl (icM (k := 298) (L := 30) rfl hm) (by simp [up2]) ?_
  refine zIas (n := c) rfl (icM (k := 321) (L := 60) rfl hc) ?_
  refine zPs (pc1 := 36) (l1 := [(3, .int (i32 (cntW z (z 297 m) n))), (0, .ref 292), (1, .int (i32 c)), (2, .int (i32 m))]) (st1 := [.ref 292]) 1 rfl rfl rfl ?_
  refine zGetR (r := 322) rfl rfl ⟨by decide, rfl, by decide, rfl⟩ ?_
  refine zPs (pc1 := 41) (l1 := [(3, .int (i32 (cntW z (z 297 m) n))), (0, .ref 292), (1, .int (i32 c)), (2, .int (i32 m))]) (st1 := [.ref 292, .int (i32 c), .ref 322]) 2 rfl rfl rfl ?_
  refine zGetI (v := z 292 0) rfl rfl icTime (by simp [up2]) ?_
  refine zIas (n := c) rfl (icM (k := 322) (L := 60) rfl hc) ?_
  refine zPs (pc1 := 47) (l1 := [(3, .int (i32 (cntW z (z 297 m) n))), (0, .ref 292), (1, .int (i32 c)), (2, .int (i32 m))]) (st1 := [.ref 292, .int (i32 (cntW z (z 297 m) n))]) 2 rfl rfl rfl ?_
  refine zGetR (r := 300) rfl rfl ⟨by decide, rfl, by decide, rfl⟩ ?_
  refine zPs (pc1 := 51) (l1 := [(3, .int (i32 (cntW z (z 297 m) n))), (0, .ref 292), (1, .int (i32 c)), (2, .int (i32 m))]) (st1 := [.int (i32 m), .ref 300, .int (i32 (cntW z (z 297 m) n))]) 1 rfl rfl rfl ?_
  refine zIal (n := m) (v := z 300 m) rfl (icM (k := 300) (L := 30) rfl hm) (by simp [up2]) ?_
  refine zClt rfl (fun h1 => ?_) (fun h1 => ?_)
  · refine zPs (pc1 := 63) (l1 := [(3, .int (i32 (cntW z (z 297 m) n))), (0, .ref 292), (1, .int (i32 c)), (2, .int (i32 m))]) (st1 := [.ref 292]) 1 rfl rfl rfl ?_
    refine zGetR (r := 311) rfl rfl ⟨by decide, rfl, by decide, rfl⟩ ?_
    refine zPs (pc1 := 68) (l1 := [(3, .int (i32 (cntW z (z 297 m) n))), (0, .ref 292), (1, .int (i32 c)), (2, .int (i32 m))]) (st1 := [.int (1 : Int32), .int (i32 c), .ref 311]) 2 rfl rfl rfl ?_
    refine zIas (n := c) rfl (icM (k := 311) (L := 60) rfl hc) ?_
    refine zPs (pc1 := 70) (l1 := [(3, .int (i32 (cntW z (z 297 m) n))), (0, .ref 292), (1, .int (i32 c)), (2, .int (i32 m))]) (st1 := [.ref 292]) 1 rfl rfl rfl ?_
    refine zGetR (r := 316) rfl rfl ⟨by decide, rfl, by decide, rfl⟩ ?_
    refine zPs (pc1 := 75) (l1 := [(3, .int (i32 (cntW z (z 297 m) n))), (0, .ref 292), (1, .int (i32 c)), (2, .int (i32 m))]) (st1 := [.ref 292, .int (i32 c), .ref 316]) 2 rfl rfl rfl ?_
    refine zGetI (v := z 292 0) rfl rfl icTime (by simp [up2]) ?_
    refine zPs (pc1 := 79) (l1 := [(3, .int (i32 (cntW z (z 297 m) n))), (0, .ref 292), (1, .int (i32 c)), (2, .int (i32 m))]) (st1 := [.ref 292, .int (z 292 0), .int (i32 c), .ref 316]) 1 rfl rfl rfl ?_
    refine zGetR (r := 299) rfl rfl ⟨by decide, rfl, by decide, rfl⟩ ?_
    refine zPs (pc1 := 83) (l1 := [(3, .int (i32 (cntW z (z 297 m) n))), (0, .ref 292), (1, .int (i32 c)), (2, .int (i32 m))]) (st1 := [.int (i32 m), .ref 299, .int (z 292 0), .int (i32 c), .ref 316]) 1 rfl rfl rfl ?_
    refine zIal (n := m) (v := z 299 m) rfl (icM (k := 299) (L := 30) rfl hm) (by simp [up2]) ?_
    refine zPs (pc1 := 85) (l1 := [(3, .int (i32 (cntW z (z 297 m) n))), (0, .ref 292), (1, .int (i32 c)), (2, .int (i32 m))]) (st1 := [.int (z 292 0 + z 299 m), .int (i32 c), .ref 316]) 1 rfl rfl rfl ?_
    refine zIas (n := c) rfl (icM (k := 316) (L := 60) rfl hc) ?_
    refine zPs (pc1 := 88) (l1 := [(3, .int (i32 (cntW z (z 297 m) n))), (0, .ref 292), (1, .int (i32 c)), (2, .int (i32 m))]) (st1 := [.int (-2 : Int32)]) 1 rfl rfl rfl ?_
    refine zRi rfl rfl ?_
    simpa [sLines, sLine1, ← Int32.not_lt, *] using k
  · refine zPs (pc1 := 56) (l1 := [(3, .int (i32 (cntW z (z 297 m) n))), (0, .ref 292), (1, .int (i32 c)), (2, .int (i32 m))]) (st1 := [.ref 292]) 1 rfl rfl rfl ?_
    refine zGetR (r := 301) rfl rfl ⟨by decide, rfl, by decide, rfl⟩ ?_
    refine zPs (pc1 := 60) (l1 := [(3, .int (i32 (cntW z (z 297 m) n))), (0, .ref 292), (1, .int (i32 c)), (2, .int (i32 m))]) (st1 := [.int (i32 m), .ref 301]) 1 rfl rfl rfl ?_
    refine zIal (n := m) (v := z 301 m) rfl (icM (k := 301) (L := 30) rfl hm) (by simp [up2]) ?_
    refine zRi rfl rfl ?_
    simpa [sLines, sLine1, ← Int32.not_lt, *] using k
def freeN (z : Sg) (s : Int32) : Nat → Int32
  | 0 => 0
  | j + 1 => freeN z s j ||| (if z 326 j = 1 ∧ z 327 j >>> (s &&& 31) &&& 1 = 1 then 1 else 0)
theorem freeN_eq (z : Sg) (s : Int32) : ∀ j, freeN z s j = if ∃ k, k < j ∧ (z 326 k = 1 ∧ z 327 k >>> (s &&& 31) &&& 1 = 1) then 1 else 0
  | 0 => by simp [freeN]
  | j + 1 => by
    unfold freeN
    rw [freeN_eq z s j]
    by_cases h : ∃ k, k < j ∧ (z 326 k = 1 ∧ z 327 k >>> (s &&& 31) &&& 1 = 1)
    · rw [if_pos h]
      obtain ⟨k, h1, h2⟩ := h
      have e : ∃ k, k < j + 1 ∧ (z 326 k = 1 ∧ z 327 k >>> (s &&& 31) &&& 1 = 1) := ⟨k, Nat.lt_succ_of_lt h1, h2⟩
      rw [if_pos e]
      split <;> rfl
    · rw [if_neg h]
      by_cases h2 : z 326 j = 1 ∧ z 327 j >>> (s &&& 31) &&& 1 = 1
      · have e : ∃ k, k < j + 1 ∧ (z 326 k = 1 ∧ z 327 k >>> (s &&& 31) &&& 1 = 1) := ⟨j, Nat.lt_succ_self j, h2⟩
        rw [if_pos h2, if_pos e]
        rfl
      · have e : ¬ ∃ k, k < j + 1 ∧ (z 326 k = 1 ∧ z 327 k >>> (s &&& 31) &&& 1 = 1) := by
          rintro ⟨k, h3, h4⟩
          rcases Nat.lt_succ_iff_lt_or_eq.mp h3 with q | rfl
          · exact h ⟨k, q, h4⟩
          · exact h2 h4
        rw [if_neg h2, if_neg e]
        rfl
abbrev free (z : Sg) (s : Int32) : Prop := ∃ k, k < 6 ∧ (z 326 k = 1 ∧ z 327 k >>> (s &&& 31) &&& 1 = 1)
theorem freeN_01 (z : Sg) (s : Int32) (j : Nat) : freeN z s j = 0 ∨ freeN z s j = 1 := by
  rw [freeN_eq]
  split
  · exact Or.inr rfl
  · exact Or.inl rfl
theorem l_133 {z : Sg} {P : MO → Sg → Prop} {rc rs : Nat} {c m : Nat} {wh : Int32} (hc : c < 60) (hm : m < 30) (k : P (.inl (some (.int (freeN z (z 297 m) 6)))) z) : ∀ d j, j + d = 6 → Ws true 133 rc rs 109 [(5, .int (i32 j)), (4, .int (freeN z (z 297 m) j)), (3, .int wh), (0, .ref 292), (1, .int (i32 c)), (2, .int (i32 m))] [] z P := by
  intro d
  induction d with
  | zero =>
    intro j hj
    obtain rfl : j = 6 := by omega
    refine zPs (pc1 := 113) (l1 := [(5, .int (i32 6)), (4, .int (freeN z (z 297 m) 6)), (3, .int wh), (0, .ref 292), (1, .int (i32 c)), (2, .int (i32 m))]) (st1 := [.int (6 : Int32), .int (i32 6)]) 2 rfl rfl rfl ?_
    refine nCge (a := 6) (b := 6) (by omega) (by omega) rfl (fun h1 => ?_) (fun h1 => absurd (by omega) h1)
    refine zPs (pc1 := 165) (l1 := [(5, .int (i32 6)), (4, .int (freeN z (z 297 m) 6)), (3, .int wh), (0, .ref 292), (1, .int (i32 c)), (2, .int (i32 m))]) (st1 := [.int (freeN z (z 297 m) 6)]) 1 rfl rfl rfl ?_
    refine zRz rfl rfl (freeN_01 z _ _) ?_
    exact k
  | succ d ih =>
    intro j hj
    have hjl : j < 6 := by omega
    refine zPs (pc1 := 113) (l1 := [(5, .int (i32 j)), (4, .int (freeN z (z 297 m) j)), (3, .int wh), (0, .ref 292), (1, .int (i32 c)), (2, .int (i32 m))]) (st1 := [.int (6 : Int32), .int (i32 j)]) 2 rfl rfl rfl ?_
    refine nCge (a := j) (b := 6) (by omega) (by omega) rfl (fun h1 => absurd h1 (by omega)) (fun h1 => ?_)
    refine zPs (pc1 := 119) (l1 := [(5, .int (i32 j)), (4, .int (freeN z (z 297 m) j)), (3, .int wh), (0, .ref 292), (1, .int (i32 c)), (2, .int (i32 m))]) (st1 := [.ref 292, .int (freeN z (z 297 m) j)]) 2 rfl rfl rfl ?_
    refine zGetR (r := 326) rfl rfl ⟨by decide, rfl, by decide, rfl⟩ ?_
    refine zPs (pc1 := 124) (l1 := [(5, .int (i32 j)), (4, .int (freeN z (z 297 m) j)), (3, .int wh), (0, .ref 292), (1, .int (i32 c)), (2, .int (i32 m))]) (st1 := [.int (i32 j), .ref 326, .int (freeN z (z 297 m) j)]) 1 rfl rfl rfl ?_
    refine zIal (n := j) (v := z 326 j) rfl (icM (k := 326) (L := 6) rfl (by omega)) rfl ?_
    refine zPs (pc1 := 126) (l1 := [(5, .int (i32 j)), (4, .int (freeN z (z 297 m) j)), (3, .int wh), (0, .ref 292), (1, .int (i32 c)), (2, .int (i32 m))]) (st1 := [.int (1 : Int32), .int (z 326 j), .int (freeN z (z 297 m) j)]) 1 rfl rfl rfl ?_
    refine zCn rfl (fun h2 => ?_) (fun h2 => ?_)
    · refine zPs (pc1 := 160) (l1 := [(5, .int (i32 j + (1 : Int32))), (4, .int (freeN z (z 297 m) j ||| (0 : Int32))), (3, .int wh), (0, .ref 292), (1, .int (i32 c)), (2, .int (i32 m))]) (st1 := []) 4 rfl rfl rfl ?_
      refine zTo (ml' := [(5, .int (i32 (j + 1))), (4, .int (freeN z (z 297 m) j ||| (0 : Int32))), (3, .int wh), (0, .ref 292), (1, .int (i32 c)), (2, .int (i32 m))]) (st' := []) (by rw [show (i32 j + (1 : Int32)) = i32 (j + 1) from i32_add j 1]) rfl ?_
      refine zPs (pc1 := 109) (l1 := [(5, .int (i32 (j + 1))), (4, .int (freeN z (z 297 m) j ||| (0 : Int32))), (3, .int wh), (0, .ref 292), (1, .int (i32 c)), (2, .int (i32 m))]) (st1 := []) 1 rfl rfl rfl ?_
      refine zMl (ml' := [(5, .int (i32 (j + 1))), (4, .int (freeN z (z 297 m) (j + 1))), (3, .int wh), (0, .ref 292), (1, .int (i32 c)), (2, .int (i32 m))]) ⟨rfl, (congrArg (fun x => some (Value.int x)) (show _ = freeN z (z 297 m) (j + 1) by simp [freeN, *])), rfl, rfl, rfl, rfl, trivial⟩ rfl rfl ?_
      exact ih (j + 1) (by omega)
    · refine zPs (pc1 := 130) (l1 := [(5, .int (i32 j)), (4, .int (freeN z (z 297 m) j)), (3, .int wh), (0, .ref 292), (1, .int (i32 c)), (2, .int (i32 m))]) (st1 := [.ref 292, .int (freeN z (z 297 m) j)]) 1 rfl rfl rfl ?_
      refine zGetR (r := 327) rfl rfl ⟨by decide, rfl, by decide, rfl⟩ ?_
      refine zPs (pc1 := 135) (l1 := [(5, .int (i32 j)), (4, .int (freeN z (z 297 m) j)), (3, .int wh), (0, .ref 292), (1, .int (i32 c)), (2, .int (i32 m))]) (st1 := [.int (i32 j), .ref 327, .int (freeN z (z 297 m) j)]) 1 rfl rfl rfl ?_
      refine zIal (n := j) (v := z 327 j) rfl (icM (k := 327) (L := 6) rfl (by omega)) rfl ?_
      refine zPs (pc1 := 137) (l1 := [(5, .int (i32 j)), (4, .int (freeN z (z 297 m) j)), (3, .int wh), (0, .ref 292), (1, .int (i32 c)), (2, .int (i32 m))]) (st1 := [.ref 292, .int (z 327 j), .int (freeN z (z 297 m) j)]) 1 rfl rfl rfl ?_
      refine zGetR (r := 297) rfl rfl ⟨by decide, rfl, by decide, rfl⟩ ?_
      refine zPs (pc1 := 141) (l1 := [(5, .int (i32 j)), (4, .int (freeN z (z 297 m) j)), (3, .int wh), (0, .ref 292), (1, .int (i32 c)), (2, .int (i32 m))]) (st1 := [.int (i32 m), .ref 297, .int (z 327 j), .int (freeN z (z 297 m) j)]) 1 rfl rfl rfl ?_
      refine zIal (n := m) (v := z 297 m) rfl (icM (k := 297) (L := 30) rfl hm) rfl ?_
      refine zPs (pc1 := 146) (l1 := [(5, .int (i32 j)), (4, .int (freeN z (z 297 m) j)), (3, .int wh), (0, .ref 292), (1, .int (i32 c)), (2, .int (i32 m))]) (st1 := [.int (1 : Int32), .int ((z 327 j >>> (z 297 m &&& 31)) &&& (1 : Int32)), .int (freeN z (z 297 m) j)]) 4 rfl rfl rfl ?_
      refine zCn rfl (fun h3 => ?_) (fun h3 => ?_)
      · refine zPs (pc1 := 160) (l1 := [(5, .int (i32 j + (1 : Int32))), (4, .int (freeN z (z 297 m) j ||| (0 : Int32))), (3, .int wh), (0, .ref 292), (1, .int (i32 c)), (2, .int (i32 m))]) (st1 := []) 4 rfl rfl rfl ?_
        refine zTo (ml' := [(5, .int (i32 (j + 1))), (4, .int (freeN z (z 297 m) j ||| (0 : Int32))), (3, .int wh), (0, .ref 292), (1, .int (i32 c)), (2, .int (i32 m))]) (st' := []) (by rw [show (i32 j + (1 : Int32)) = i32 (j + 1) from i32_add j 1]) rfl ?_
        refine zPs (pc1 := 109) (l1 := [(5, .int (i32 (j + 1))), (4, .int (freeN z (z 297 m) j ||| (0 : Int32))), (3, .int wh), (0, .ref 292), (1, .int (i32 c)), (2, .int (i32 m))]) (st1 := []) 1 rfl rfl rfl ?_
        refine zMl (ml' := [(5, .int (i32 (j + 1))), (4, .int (freeN z (z 297 m) (j + 1))), (3, .int wh), (0, .ref 292), (1, .int (i32 c)), (2, .int (i32 m))]) ⟨rfl, (congrArg (fun x => some (Value.int x)) (show _ = freeN z (z 297 m) (j + 1) by simp [freeN, *])), rfl, rfl, rfl, rfl, trivial⟩ rfl rfl ?_
        exact ih (j + 1) (by omega)
      · refine zPs (pc1 := 160) (l1 := [(5, .int (i32 j + (1 : Int32))), (4, .int (freeN z (z 297 m) j ||| (1 : Int32))), (3, .int wh), (0, .ref 292), (1, .int (i32 c)), (2, .int (i32 m))]) (st1 := []) 5 rfl rfl rfl ?_
        refine zTo (ml' := [(5, .int (i32 (j + 1))), (4, .int (freeN z (z 297 m) j ||| (1 : Int32))), (3, .int wh), (0, .ref 292), (1, .int (i32 c)), (2, .int (i32 m))]) (st' := []) (by rw [show (i32 j + (1 : Int32)) = i32 (j + 1) from i32_add j 1]) rfl ?_
        refine zPs (pc1 := 109) (l1 := [(5, .int (i32 (j + 1))), (4, .int (freeN z (z 297 m) j ||| (1 : Int32))), (3, .int wh), (0, .ref 292), (1, .int (i32 c)), (2, .int (i32 m))]) (st1 := []) 1 rfl rfl rfl ?_
        refine zMl (ml' := [(5, .int (i32 (j + 1))), (4, .int (freeN z (z 297 m) (j + 1))), (3, .int wh), (0, .ref 292), (1, .int (i32 c)), (2, .int (i32 m))]) ⟨rfl, (congrArg (fun x => some (Value.int x)) (show _ = freeN z (z 297 m) (j + 1) by simp [freeN, *])), rfl, rfl, rfl, rfl, trivial⟩ rfl rfl ?_
        exact ih (j + 1) (by omega)
abbrev soM (z : Sg) (n t c m : Nat) : Prop := if z 299 m = 0 then openN z t else if z 299 m = 1 then z 297 m ≤ z 317 c else if z 299 m = 2 then z 298 m ≤ i32 (cntW z (z 297 m) n) else if z 299 m = 3 then i32 (t / 240 % 7) = z 297 m else free z (z 297 m)
theorem c_133 {z : Sg} {P : MO → Sg → Prop} {n : Nat} (hl : n ≤ 60) (hn : z 292 19 = i32 n) {t : Nat} (htl : t ≤ 20000) (ht : z 292 0 = i32 t) {c m : Nat} (hc : c < 60) (hm : m < 30) (k1 : soM z n t c m → P (.inl (some (.int 1))) z) (k0 : ¬ soM z n t c m → P (.inl (some (.int 0))) z) : Es true 133 [.ref 292, .int (i32 c), .int (i32 m)] z P := by
  refine Es.of ?_
  refine zPs (pc1 := 1) (l1 := [(0, .ref 292), (1, .int (i32 c)), (2, .int (i32 m))]) (st1 := [.ref 292]) 1 rfl rfl rfl ?_
  refine zGetR (r := 299) rfl rfl ⟨by decide, rfl, by decide, rfl⟩ ?_
  refine zPs (pc1 := 5) (l1 := [(0, .ref 292), (1, .int (i32 c)), (2, .int (i32 m))]) (st1 := [.int (i32 m), .ref 299]) 1 rfl rfl rfl ?_
  refine zIal (n := m) (v := z 299 m) rfl (icM (k := 299) (L := 30) rfl hm) rfl ?_
  refine zPs (pc1 := 8) (l1 := [(3, .int (z 299 m)), (0, .ref 292), (1, .int (i32 c)), (2, .int (i32 m))]) (st1 := [.int (z 299 m)]) 2 rfl rfl rfl ?_
  refine zIfn rfl (fun h1 => ?_) (fun h1 => ?_)
  · refine zPs (pc1 := 18) (l1 := [(3, .int (z 299 m)), (0, .ref 292), (1, .int (i32 c)), (2, .int (i32 m))]) (st1 := [.int (1 : Int32), .int (z 299 m)]) 2 rfl rfl rfl ?_
    refine zCn rfl (fun h2 => ?_) (fun h2 => ?_)
    · refine zPs (pc1 := 44) (l1 := [(3, .int (z 299 m)), (0, .ref 292), (1, .int (i32 c)), (2, .int (i32 m))]) (st1 := [.int (2 : Int32), .int (z 299 m)]) 2 rfl rfl rfl ?_
      refine zCn rfl (fun h3 => ?_) (fun h3 => ?_)
      · refine zPs (pc1 := 74) (l1 := [(3, .int (z 299 m)), (0, .ref 292), (1, .int (i32 c)), (2, .int (i32 m))]) (st1 := [.int (3 : Int32), .int (z 299 m)]) 2 rfl rfl rfl ?_
        refine zCn rfl (fun h4 => ?_) (fun h4 => ?_)
        · refine zPs (pc1 := 109) (l1 := [(5, .int (0 : Int32)), (4, .int (0 : Int32)), (3, .int (z 299 m)), (0, .ref 292), (1, .int (i32 c)), (2, .int (i32 m))]) (st1 := []) 4 rfl rfl rfl ?_
          refine zMl (ml' := [(5, .int (i32 0)), (4, .int (freeN z (z 297 m) 0)), (3, .int (z 299 m)), (0, .ref 292), (1, .int (i32 c)), (2, .int (i32 m))]) ⟨rfl, rfl, rfl, rfl, rfl, rfl, trivial⟩ rfl rfl ?_
          refine l_133 hc hm ?_ 6 0 (by omega)
          rw [freeN_eq]
          split
          · exact k1 (by first | (simp [soM, *]; done) | (simp [soM, *]; assumption) | (simp [soM, ← Int32.not_lt, *]; done))
          · exact k0 (by first | (simp [soM, *]; done) | (simp [soM, *]; assumption) | (simp [soM, ← Int32.not_lt, *]; done))
        · refine zPs (pc1 := 78) (l1 := [(3, .int (z 299 m)), (0, .ref 292), (1, .int (i32 c)), (2, .int (i32 m))]) (st1 := [.ref 292]) 1 rfl rfl rfl ?_
          refine zGetI (v := i32 t) rfl rfl icTime ht ?_
          refine zPs (pc1 := 84) (l1 := [(3, .int (z 299 m)), (0, .ref 292), (1, .int (i32 c)), (2, .int (i32 m))]) (st1 := [.int (240 : Int32), .int (i32 t)]) 1 rfl rfl rfl ?_
          refine zDiv rfl (by decide) ?_
          refine zTo (ml' := [(3, .int (z 299 m)), (0, .ref 292), (1, .int (i32 c)), (2, .int (i32 m))]) (st' := [.int (i32 (t / 240))]) rfl (by rw [show (i32 t / (240 : Int32)) = i32 (t / 240) from i32_div (by omega) (by decide) (by decide)]) ?_
          refine zPs (pc1 := 87) (l1 := [(3, .int (z 299 m)), (0, .ref 292), (1, .int (i32 c)), (2, .int (i32 m))]) (st1 := [.int (7 : Int32), .int (i32 (t / 240))]) 1 rfl rfl rfl ?_
          refine zRem rfl (by decide) ?_
          refine zTo (ml' := [(3, .int (z 299 m)), (0, .ref 292), (1, .int (i32 c)), (2, .int (i32 m))]) (st' := [.int (i32 ((t / 240) % 7))]) rfl (by rw [show (i32 (t / 240) - i32 (t / 240) / (7 : Int32) * (7 : Int32)) = i32 ((t / 240) % 7) from i32_mod (by omega) (by decide) (by decide)]) ?_
          refine zPs (pc1 := 89) (l1 := [(3, .int (z 299 m)), (0, .ref 292), (1, .int (i32 c)), (2, .int (i32 m))]) (st1 := [.ref 292, .int (i32 ((t / 240) % 7))]) 1 rfl rfl rfl ?_
          refine zGetR (r := 297) rfl rfl ⟨by decide, rfl, by decide, rfl⟩ ?_
          refine zPs (pc1 := 93) (l1 := [(3, .int (z 299 m)), (0, .ref 292), (1, .int (i32 c)), (2, .int (i32 m))]) (st1 := [.int (i32 m), .ref 297, .int (i32 ((t / 240) % 7))]) 1 rfl rfl rfl ?_
          refine zIal (n := m) (v := z 297 m) rfl (icM (k := 297) (L := 30) rfl hm) rfl ?_
          refine zCn rfl (fun h5 => ?_) (fun h5 => ?_)
          · refine zPs (pc1 := 102) (l1 := [(3, .int (z 299 m)), (0, .ref 292), (1, .int (i32 c)), (2, .int (i32 m))]) (st1 := [.int (0 : Int32)]) 1 rfl rfl rfl ?_
            refine zRz rfl rfl (Or.inl rfl) ?_
            exact k0 (by first | (simp [soM, *]; done) | (simp [soM, *]; assumption) | (simp [soM, ← Int32.not_lt, *]; done))
          · refine zPs (pc1 := 102) (l1 := [(3, .int (z 299 m)), (0, .ref 292), (1, .int (i32 c)), (2, .int (i32 m))]) (st1 := [.int (1 : Int32)]) 2 rfl rfl rfl ?_
            refine zRz rfl rfl (Or.inr rfl) ?_
            exact k1 (by first | (simp [soM, *]; done) | (simp [soM, *]; assumption) | (simp [soM, ← Int32.not_lt, *]; done))
      · refine zPs (pc1 := 49) (l1 := [(3, .int (z 299 m)), (0, .ref 292), (1, .int (i32 c)), (2, .int (i32 m))]) (st1 := [.ref 292, .ref 292]) 2 rfl rfl rfl ?_
        refine zGetR (r := 297) rfl rfl ⟨by decide, rfl, by decide, rfl⟩ ?_
        refine zPs (pc1 := 53) (l1 := [(3, .int (z 299 m)), (0, .ref 292), (1, .int (i32 c)), (2, .int (i32 m))]) (st1 := [.int (i32 m), .ref 297, .ref 292]) 1 rfl rfl rfl ?_
        refine zIal (n := m) (v := z 297 m) rfl (icM (k := 297) (L := 30) rfl hm) rfl ?_
        refine zCv (mj := 129) (k := 292) (n := 1) rfl rfl rfl rfl (by decide) rfl rfl rfl rfl rfl rfl ?_
        refine c_129 hl hn ?_
        refine kI ?_
        refine zPs (pc1 := 58) (l1 := [(3, .int (z 299 m)), (0, .ref 292), (1, .int (i32 c)), (2, .int (i32 m))]) (st1 := [.ref 292, .int (i32 (cntW z (z 297 m) n))]) 1 rfl rfl rfl ?_
        refine zGetR (r := 298) rfl rfl ⟨by decide, rfl, by decide, rfl⟩ ?_
        refine zPs (pc1 := 62) (l1 := [(3, .int (z 299 m)), (0, .ref 292), (1, .int (i32 c)), (2, .int (i32 m))]) (st1 := [.int (i32 m), .ref 298, .int (i32 (cntW z (z 297 m) n))]) 1 rfl rfl rfl ?_
        refine zIal (n := m) (v := z 298 m) rfl (icM (k := 298) (L := 30) rfl hm) rfl ?_
        refine zClt rfl (fun h6 => ?_) (fun h6 => ?_)
        · refine zPs (pc1 := 71) (l1 := [(3, .int (z 299 m)), (0, .ref 292), (1, .int (i32 c)), (2, .int (i32 m))]) (st1 := [.int (0 : Int32)]) 1 rfl rfl rfl ?_
          refine zRz rfl rfl (Or.inl rfl) ?_
          exact k0 (by first | (simp [soM, *]; done) | (simp [soM, *]; assumption) | (simp [soM, ← Int32.not_lt, *]; done))
        · refine zPs (pc1 := 71) (l1 := [(3, .int (z 299 m)), (0, .ref 292), (1, .int (i32 c)), (2, .int (i32 m))]) (st1 := [.int (1 : Int32)]) 2 rfl rfl rfl ?_
          refine zRz rfl rfl (Or.inr rfl) ?_
          exact k1 (by first | (simp [soM, *]; done) | (simp [soM, *]; assumption) | (simp [soM, ← Int32.not_lt, *]; done))
    · refine zPs (pc1 := 22) (l1 := [(3, .int (z 299 m)), (0, .ref 292), (1, .int (i32 c)), (2, .int (i32 m))]) (st1 := [.ref 292]) 1 rfl rfl rfl ?_
      refine zGetR (r := 317) rfl rfl ⟨by decide, rfl, by decide, rfl⟩ ?_
      refine zPs (pc1 := 26) (l1 := [(3, .int (z 299 m)), (0, .ref 292), (1, .int (i32 c)), (2, .int (i32 m))]) (st1 := [.int (i32 c), .ref 317]) 1 rfl rfl rfl ?_
      refine zIal (n := c) (v := z 317 c) rfl (icM (k := 317) (L := 60) rfl hc) rfl ?_
      refine zPs (pc1 := 28) (l1 := [(3, .int (z 299 m)), (0, .ref 292), (1, .int (i32 c)), (2, .int (i32 m))]) (st1 := [.ref 292, .int (z 317 c)]) 1 rfl rfl rfl ?_
      refine zGetR (r := 297) rfl rfl ⟨by decide, rfl, by decide, rfl⟩ ?_
      refine zPs (pc1 := 32) (l1 := [(3, .int (z 299 m)), (0, .ref 292), (1, .int (i32 c)), (2, .int (i32 m))]) (st1 := [.int (i32 m), .ref 297, .int (z 317 c)]) 1 rfl rfl rfl ?_
      refine zIal (n := m) (v := z 297 m) rfl (icM (k := 297) (L := 30) rfl hm) rfl ?_
      refine zClt rfl (fun h7 => ?_) (fun h7 => ?_)
      · refine zPs (pc1 := 41) (l1 := [(3, .int (z 299 m)), (0, .ref 292), (1, .int (i32 c)), (2, .int (i32 m))]) (st1 := [.int (0 : Int32)]) 1 rfl rfl rfl ?_
        refine zRz rfl rfl (Or.inl rfl) ?_
        exact k0 (by first | (simp [soM, *]; done) | (simp [soM, *]; assumption) | (simp [soM, ← Int32.not_lt, *]; done))
      · refine zPs (pc1 := 41) (l1 := [(3, .int (z 299 m)), (0, .ref 292), (1, .int (i32 c)), (2, .int (i32 m))]) (st1 := [.int (1 : Int32)]) 2 rfl rfl rfl ?_
        refine zRz rfl rfl (Or.inr rfl) ?_
        exact k1 (by first | (simp [soM, *]; done) | (simp [soM, *]; assumption) | (simp [soM, ← Int32.not_lt, *]; done))
  · refine zPs (pc1 := 12) (l1 := [(3, .int (z 299 m)), (0, .ref 292), (1, .int (i32 c)), (2, .int (i32 m))]) (st1 := [.ref 292]) 1 rfl rfl rfl ?_
    refine zCv (mj := 126) (k := 292) (n := 0) rfl rfl rfl rfl (by decide) rfl rfl rfl rfl rfl rfl ?_
    refine c_126 htl ht (fun h8 => ?_) (fun h9 => ?_)
    · refine kI ?_
      refine zRz rfl rfl (Or.inr rfl) ?_
      exact k1 (by first | (simp [soM, *]; done) | (simp [soM, *]; assumption) | (simp [soM, ← Int32.not_lt, *]; done))
    · refine kI ?_
      refine zRz rfl rfl (Or.inl rfl) ?_
      exact k0 (by first | (simp [soM, *]; done) | (simp [soM, *]; assumption) | (simp [soM, ← Int32.not_lt, *]; done))
