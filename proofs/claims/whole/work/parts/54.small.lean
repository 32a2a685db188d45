/-! ===== the model: small methods ===== -/
/-- isIn -/
theorem c_107 {z : Sg} {P : MO → Sg → Prop} {a b c : Int32} (k1 : b ≤ a → a ≤ c → P (.inl (some (.int 1))) z) (k0 : ¬ (b ≤ a ∧ a ≤ c) → P (.inl (some (.int 0))) z) : Es true 107 [.int a, .int b, .int c] z P := by
  refine Es.of ?_
  refine zPs (pc1 := 2) (l1 := [(0, .int a), (1, .int b), (2, .int c)]) (st1 := [.int b, .int a]) 2 rfl rfl rfl ?_
  refine zClt rfl (fun h1 => ?_) (fun h1 => ?_)
  · refine zPs (pc1 := 15) (l1 := [(0, .int a), (1, .int b), (2, .int c)]) (st1 := [.int (0 : Int32)]) 1 rfl rfl rfl ?_
    refine zRz rfl rfl (Or.inl rfl) ?_
    exact k0 (fun q => absurd q.1 (Int32.not_le.mpr h1))
  · refine zPs (pc1 := 7) (l1 := [(0, .int a), (1, .int b), (2, .int c)]) (st1 := [.int c, .int a]) 2 rfl rfl rfl ?_
    refine zCgt rfl (fun h2 => ?_) (fun h2 => ?_)
    · refine zPs (pc1 := 15) (l1 := [(0, .int a), (1, .int b), (2, .int c)]) (st1 := [.int (0 : Int32)]) 1 rfl rfl rfl ?_
      refine zRz rfl rfl (Or.inl rfl) ?_
      exact k0 (fun q => absurd q.2 (Int32.not_le.mpr h2))
    · refine zPs (pc1 := 15) (l1 := [(0, .int a), (1, .int b), (2, .int c)]) (st1 := [.int (1 : Int32)]) 2 rfl rfl rfl ?_
      refine zRz rfl rfl (Or.inr rfl) ?_
      exact k1 (le_of_not_lt32 h1) (le_of_not_lt32 h2)
theorem c_108 {z : Sg} {P : MO → Sg → Prop} {a : Int32} (k1 : ∀ m, m < 30 → a = i32 m → P (.inl (some (.int 1))) z) (k0 : ¬ isN a → P (.inl (some (.int 0))) z) : Es true 108 [.int a] z P := by
  refine Es.of ?_
  refine zPs (pc1 := 4) (l1 := [(0, .int a)]) (st1 := [.int (29 : Int32), .int (0 : Int32), .int a]) 3 rfl rfl rfl ?_
  refine zCs (mj := 107) rfl rfl rfl rfl rfl rfl rfl rfl ?_
  refine c_107 (fun h1 h2 => ?_) (fun h3 => ?_)
  · refine kI ?_
    refine zRz rfl rfl (Or.inr rfl) ?_
    obtain ⟨m, hm, rfl⟩ := i32_of (n := 29) (by decide) h1 h2
    exact k1 m (by omega) rfl
  · refine kI ?_
    refine zRz rfl rfl (Or.inl rfl) ?_
    exact k0 h3
theorem c_109 {z : Sg} {P : MO → Sg → Prop} {a : Int32} (k1 : isT a → P (.inl (some (.int 1))) z) (k0 : ¬ isT a → P (.inl (some (.int 0))) z) : Es true 109 [.int a] z P := by
  refine Es.of ?_
  refine zPs (pc1 := 4) (l1 := [(0, .int a)]) (st1 := [.int (29 : Int32), .int (-1 : Int32), .int a]) 3 rfl rfl rfl ?_
  refine zCs (mj := 107) rfl rfl rfl rfl rfl rfl rfl rfl ?_
  refine c_107 (fun h1 h2 => ?_) (fun h3 => ?_)
  · refine kI ?_
    refine zRz rfl rfl (Or.inr rfl) ?_
    exact k1 ⟨h1, h2⟩
  · refine kI ?_
    refine zRz rfl rfl (Or.inl rfl) ?_
    exact k0 h3
def sEnds (z : Sg) (c : Nat) (how : Int32) : Sg := up2 (up2 (up2 (up2 z 311 c 5) 312 c how) 313 c (-1)) 320 c (-1)
theorem c_132 {z : Sg} {P : MO → Sg → Prop} {c : Nat} {how : Int32} (hc : c < 60) (k : P (.inl none) (sEnds z c how)) : Es true 132 [.ref 292, .int (i32 c), .int how] z P := by
  refine Es.of ?_
  refine zPs (pc1 := 1) (l1 := [(0, .ref 292), (1, .int (i32 c)), (2, .int how)]) (st1 := [.ref 292]) 1 rfl rfl rfl ?_
  refine zGetR (r := 311) rfl rfl ⟨by decide, rfl, by decide, rfl⟩ ?_
  refine zPs (pc1 := 6) (l1 := [(0, .ref 292), (1, .int (i32 c)), (2, .int how)]) (st1 := [.int (5 : Int32), .int (i32 c), .ref 311]) 2 rfl rfl rfl ?_
  refine zIas (n := c) rfl (icM (k := 311) (L := 60) rfl hc) ?_
  refine zPs (pc1 := 8) (l1 := [(0, .ref 292), (1, .int (i32 c)), (2, .int how)]) (st1 := [.ref 292]) 1 rfl rfl rfl ?_
  refine zGetR (r := 312) rfl rfl ⟨by decide, rfl, by decide, rfl⟩ ?_
  refine zPs (pc1 := 13) (l1 := [(0, .ref 292), (1, .int (i32 c)), (2, .int how)]) (st1 := [.int how, .int (i32 c), .ref 312]) 2 rfl rfl rfl ?_
  refine zIas (n := c) rfl (icM (k := 312) (L := 60) rfl hc) ?_
  refine zPs (pc1 := 15) (l1 := [(0, .ref 292), (1, .int (i32 c)), (2, .int how)]) (st1 := [.ref 292]) 1 rfl rfl rfl ?_
  refine zGetR (r := 313) rfl rfl ⟨by decide, rfl, by decide, rfl⟩ ?_
  refine zPs (pc1 := 20) (l1 := [(0, .ref 292), (1, .int (i32 c)), (2, .int how)]) (st1 := [.int (-1 : Int32), .int (i32 c), .ref 313]) 2 rfl rfl rfl ?_
  refine zIas (n := c) rfl (icM (k := 313) (L := 60) rfl hc) ?_
  refine zPs (pc1 := 22) (l1 := [(0, .ref 292), (1, .int (i32 c)), (2, .int how)]) (st1 := [.ref 292]) 1 rfl rfl rfl ?_
  refine zGetR (r := 320) rfl rfl ⟨by decide, rfl, by decide, rfl⟩ ?_
  refine zPs (pc1 := 27) (l1 := [(0, .ref 292), (1, .int (i32 c)), (2, .int how)]) (st1 := [.int (-1 : Int32), .int (i32 c), .ref 320]) 2 rfl rfl rfl ?_
  refine zIas (n := c) rfl (icM (k := 320) (L := 60) rfl hc) ?_
  refine zRv rfl rfl ?_
  exact k
def score (z : Sg) (c : Nat) : Int32 := (z 321 c + 1) * (z 292 0 - z 322 c + 10)
theorem c_130 {z : Sg} {P : MO → Sg → Prop} {c : Nat} (hc : c < 60) (k : P (.inl (some (.int (score z c)))) z) : Es true 130 [.ref 292, .int (i32 c)] z P := by
  refine Es.of ?_
  refine zPs (pc1 := 1) (l1 := [(0, .ref 292), (1, .int (i32 c))]) (st1 := [.ref 292]) 1 rfl rfl rfl ?_
  refine zGetR (r := 321) rfl rfl ⟨by decide, rfl, by decide, rfl⟩ ?_
  refine zPs (pc1 := 5) (l1 := [(0, .ref 292), (1, .int (i32 c))]) (st1 := [.int (i32 c), .ref 321]) 1 rfl rfl rfl ?_
  refine zIal (n := c) (v := z 321 c) rfl (icM (k := 321) (L := 60) rfl hc) rfl ?_
  refine zPs (pc1 := 9) (l1 := [(0, .ref 292), (1, .int (i32 c))]) (st1 := [.ref 292, .int (z 321 c + (1 : Int32))]) 3 rfl rfl rfl ?_
  refine zGetI (v := z 292 0) rfl rfl icTime rfl ?_
  refine zPs (pc1 := 13) (l1 := [(0, .ref 292), (1, .int (i32 c))]) (st1 := [.ref 292, .int (z 292 0), .int (z 321 c + (1 : Int32))]) 1 rfl rfl rfl ?_
  refine zGetR (r := 322) rfl rfl ⟨by decide, rfl, by decide, rfl⟩ ?_
  refine zPs (pc1 := 17) (l1 := [(0, .ref 292), (1, .int (i32 c))]) (st1 := [.int (i32 c), .ref 322, .int (z 292 0), .int (z 321 c + (1 : Int32))]) 1 rfl rfl rfl ?_
  refine zIal (n := c) (v := z 322 c) rfl (icM (k := 322) (L := 60) rfl hc) rfl ?_
  refine zPs (pc1 := 23) (l1 := [(0, .ref 292), (1, .int (i32 c))]) (st1 := [.int ((z 321 c + (1 : Int32)) * ((z 292 0 - z 322 c) + (10 : Int32)))]) 4 rfl rfl rfl ?_
  refine zRi rfl rfl ?_
  exact k
def ahead (z : Sg) (a b : Nat) : Prop := score z b < score z a ∨ (score z a = score z b ∧ a < b)
theorem c_131 {z : Sg} {P : MO → Sg → Prop} {a b : Nat} (ha : a < 60) (hb : b < 60) (k1 : ahead z a b → P (.inl (some (.int 1))) z) (k0 : ¬ ahead z a b → P (.inl (some (.int 0))) z) : Es true 131 [.ref 292, .int (i32 a), .int (i32 b)] z P := by
  refine Es.of ?_
  refine zPs (pc1 := 2) (l1 := [(0, .ref 292), (1, .int (i32 a)), (2, .int (i32 b))]) (st1 := [.int (i32 a), .ref 292]) 2 rfl rfl rfl ?_
  refine zCv (mj := 130) (k := 292) (n := 1) rfl rfl rfl rfl (by decide) rfl rfl rfl rfl rfl rfl ?_
  refine c_130 ha ?_
  refine kI ?_
  refine zPs (pc1 := 7) (l1 := [(0, .ref 292), (1, .int (i32 a)), (2, .int (i32 b))]) (st1 := [.int (i32 b), .ref 292, .int (score z a)]) 2 rfl rfl rfl ?_
  refine zCv (mj := 130) (k := 292) (n := 1) rfl rfl rfl rfl (by decide) rfl rfl rfl rfl rfl rfl ?_
  refine c_130 hb ?_
  refine kI ?_
  refine zCgt rfl (fun h1 => ?_) (fun h1 => ?_)
  · refine zPs (pc1 := 36) (l1 := [(0, .ref 292), (1, .int (i32 a)), (2, .int (i32 b))]) (st1 := [.int (1 : Int32)]) 2 rfl rfl rfl ?_
    refine zRz rfl rfl (Or.inr rfl) ?_
    exact k1 (by unfold ahead; grind)
  · refine zPs (pc1 := 15) (l1 := [(0, .ref 292), (1, .int (i32 a)), (2, .int (i32 b))]) (st1 := [.int (i32 a), .ref 292]) 2 rfl rfl rfl ?_
    refine zCv (mj := 130) (k := 292) (n := 1) rfl rfl rfl rfl (by decide) rfl rfl rfl rfl rfl rfl ?_
    refine c_130 ha ?_
    refine kI ?_
    refine zPs (pc1 := 20) (l1 := [(0, .ref 292), (1, .int (i32 a)), (2, .int (i32 b))]) (st1 := [.int (i32 b), .ref 292, .int (score z a)]) 2 rfl rfl rfl ?_
    refine zCv (mj := 130) (k := 292) (n := 1) rfl rfl rfl rfl (by decide) rfl rfl rfl rfl rfl rfl ?_
    refine c_130 hb ?_
    refine kI ?_
    refine zCn rfl (fun h2 => ?_) (fun h2 => ?_)
    · refine zPs (pc1 := 36) (l1 := [(0, .ref 292), (1, .int (i32 a)), (2, .int (i32 b))]) (st1 := [.int (0 : Int32)]) 1 rfl rfl rfl ?_
      refine zRz rfl rfl (Or.inl rfl) ?_
      exact k0 (by unfold ahead; grind)
    · refine zPs (pc1 := 28) (l1 := [(0, .ref 292), (1, .int (i32 a)), (2, .int (i32 b))]) (st1 := [.int (i32 b), .int (i32 a)]) 2 rfl rfl rfl ?_
      refine nCge (a := a) (b := b) (by omega) (by omega) rfl (fun h3 => ?_) (fun h3 => ?_)
      · refine zPs (pc1 := 36) (l1 := [(0, .ref 292), (1, .int (i32 a)), (2, .int (i32 b))]) (st1 := [.int (0 : Int32)]) 1 rfl rfl rfl ?_
        refine zRz rfl rfl (Or.inl rfl) ?_
        exact k0 (by unfold ahead; grind)
      · refine zPs (pc1 := 36) (l1 := [(0, .ref 292), (1, .int (i32 a)), (2, .int (i32 b))]) (st1 := [.int (1 : Int32)]) 2 rfl rfl rfl ?_
        refine zRz rfl rfl (Or.inr rfl) ?_
        exact k1 (by unfold ahead; grind)
abbrev isW (z : Sg) (c : Nat) : Prop := z 311 c = 1 ∨ z 311 c = 3
theorem c_128 {z : Sg} {P : MO → Sg → Prop} {c : Nat} (hc : c < 60) (k1 : isW z c → P (.inl (some (.int 1))) z) (k0 : ¬ isW z c → P (.inl (some (.int 0))) z) : Es true 128 [.ref 292, .int (i32 c)] z P := by
  refine Es.of ?_
  refine zPs (pc1 := 1) (l1 := [(0, .ref 292), (1, .int (i32 c))]) (st1 := [.ref 292]) 1 rfl rfl rfl ?_
  refine zGetR (r := 311) rfl rfl ⟨by decide, rfl, by decide, rfl⟩ ?_
  refine zPs (pc1 := 5) (l1 := [(0, .ref 292), (1, .int (i32 c))]) (st1 := [.int (i32 c), .ref 311]) 1 rfl rfl rfl ?_
  refine zIal (n := c) (v := z 311 c) rfl (icM (k := 311) (L := 60) rfl hc) rfl ?_
  refine zPs (pc1 := 7) (l1 := [(0, .ref 292), (1, .int (i32 c))]) (st1 := [.int (1 : Int32), .int (z 311 c)]) 1 rfl rfl rfl ?_
  refine zCe rfl (fun h1 => ?_) (fun h1 => ?_)
  · refine zPs (pc1 := 25) (l1 := [(0, .ref 292), (1, .int (i32 c))]) (st1 := [.int (1 : Int32)]) 2 rfl rfl rfl ?_
    refine zRz rfl rfl (Or.inr rfl) ?_
    exact k1 (by unfold isW; grind)
  · refine zPs (pc1 := 11) (l1 := [(0, .ref 292), (1, .int (i32 c))]) (st1 := [.ref 292]) 1 rfl rfl rfl ?_
    refine zGetR (r := 311) rfl rfl ⟨by decide, rfl, by decide, rfl⟩ ?_
    refine zPs (pc1 := 15) (l1 := [(0, .ref 292), (1, .int (i32 c))]) (st1 := [.int (i32 c), .ref 311]) 1 rfl rfl rfl ?_
    refine zIal (n := c) (v := z 311 c) rfl (icM (k := 311) (L := 60) rfl hc) rfl ?_
    refine zPs (pc1 := 17) (l1 := [(0, .ref 292), (1, .int (i32 c))]) (st1 := [.int (3 : Int32), .int (z 311 c)]) 1 rfl rfl rfl ?_
    refine zCn rfl (fun h2 => ?_) (fun h2 => ?_)
    · refine zPs (pc1 := 25) (l1 := [(0, .ref 292), (1, .int (i32 c))]) (st1 := [.int (0 : Int32)]) 1 rfl rfl rfl ?_
      refine zRz rfl rfl (Or.inl rfl) ?_
      exact k0 (by unfold isW; grind)
    · refine zPs (pc1 := 25) (l1 := [(0, .ref 292), (1, .int (i32 c))]) (st1 := [.int (1 : Int32)]) 2 rfl rfl rfl ?_
      refine zRz rfl rfl (Or.inr rfl) ?_
      exact k1 (by unfold isW; grind)
