/-! ===== the class: small methods ===== -/
theorem isN_iff {a : Int32} : isN a ↔ 0 ≤ a ∧ a < 30 := by
  unfold isN
  constructor
  · rintro ⟨h1, h2⟩
    refine ⟨h1, ?_⟩
    rw [Int32.le_iff_toInt_le] at h2
    rw [Int32.lt_iff_toInt_lt]
    have e : (29 : Int32).toInt = 29 := by decide
    have e2 : (30 : Int32).toInt = 30 := by decide
    omega
  · rintro ⟨h1, h2⟩
    refine ⟨h1, ?_⟩
    rw [Int32.lt_iff_toInt_lt] at h2
    rw [Int32.le_iff_toInt_le]
    have e : (29 : Int32).toInt = 29 := by decide
    have e2 : (30 : Int32).toInt = 30 := by decide
    omega
theorem e_76 {z : Sg} {P : MO → Sg → Prop} {a : Int32} (k1 : isN a → P (.inl (some (.int 1))) z) (k0 : ¬ (isN a) → P (.inl (some (.int 0))) z) : Es false 76 [.int a] z P := by
  refine Es.of ?_
  refine zPs (pc1 := 1) (l1 := [(0, .int a)]) (st1 := [.int a]) 1 rfl rfl rfl ?_
  refine zIflt rfl (fun h1 => ?_) (fun h1 => ?_)
  · refine zPs (pc1 := 15) (l1 := [(0, .int a)]) (st1 := [.int (0 : Int32)]) 1 rfl rfl rfl ?_
    refine zRz rfl rfl (Or.inl rfl) ?_
    exact k0 (fun q => by have := isN_iff.mp q; grind)
  · refine zPs (pc1 := 7) (l1 := [(0, .int a)]) (st1 := [.int (30 : Int32), .int a]) 2 rfl rfl rfl ?_
    refine zCge rfl (fun h2 => ?_) (fun h2 => ?_)
    · refine zPs (pc1 := 15) (l1 := [(0, .int a)]) (st1 := [.int (0 : Int32)]) 1 rfl rfl rfl ?_
      refine zRz rfl rfl (Or.inl rfl) ?_
      exact k0 (fun q => by have := isN_iff.mp q; grind)
    · refine zPs (pc1 := 15) (l1 := [(0, .int a)]) (st1 := [.int (1 : Int32)]) 2 rfl rfl rfl ?_
      refine zRz rfl rfl (Or.inr rfl) ?_
      exact k1 (isN_iff.mpr (by grind))
theorem e_77 {z : Sg} {P : MO → Sg → Prop} {n : Nat} (hn : z 292 19 = i32 n) {a : Int32} (k1 : isCl n a → P (.inl (some (.int 1))) z) (k0 : ¬ (isCl n a) → P (.inl (some (.int 0))) z) : Es false 77 [.ref 0, .int a] z P := by
  refine Es.of ?_
  refine zPs (pc1 := 1) (l1 := [(0, .ref 0), (1, .int a)]) (st1 := [.int a]) 1 rfl rfl rfl ?_
  refine zIflt rfl (fun h1 => ?_) (fun h1 => ?_)
  · refine zPs (pc1 := 17) (l1 := [(0, .ref 0), (1, .int a)]) (st1 := [.int (0 : Int32)]) 1 rfl rfl rfl ?_
    refine zRz rfl rfl (Or.inl rfl) ?_
    exact k0 (by grind)
  · refine zPs (pc1 := 6) (l1 := [(0, .ref 0), (1, .int a)]) (st1 := [.ref 0, .int a]) 2 rfl rfl rfl ?_
    refine zGetI (v := i32 n) rfl rfl icCalls hn ?_
    refine zCge rfl (fun h2 => ?_) (fun h2 => ?_)
    · refine zPs (pc1 := 17) (l1 := [(0, .ref 0), (1, .int a)]) (st1 := [.int (0 : Int32)]) 1 rfl rfl rfl ?_
      refine zRz rfl rfl (Or.inl rfl) ?_
      exact k0 (by grind)
    · refine zPs (pc1 := 17) (l1 := [(0, .ref 0), (1, .int a)]) (st1 := [.int (1 : Int32)]) 2 rfl rfl rfl ?_
      refine zRz rfl rfl (Or.inr rfl) ?_
      exact k1 (by grind)
theorem e_78 {z : Sg} {P : MO → Sg → Prop} {a : Int32} (k1 : isA a → P (.inl (some (.int 1))) z) (k0 : ¬ (isA a) → P (.inl (some (.int 0))) z) : Es false 78 [.int a] z P := by
  refine Es.of ?_
  refine zPs (pc1 := 1) (l1 := [(0, .int a)]) (st1 := [.int a]) 1 rfl rfl rfl ?_
  refine zIflt rfl (fun h1 => ?_) (fun h1 => ?_)
  · refine zPs (pc1 := 15) (l1 := [(0, .int a)]) (st1 := [.int (0 : Int32)]) 1 rfl rfl rfl ?_
    refine zRz rfl rfl (Or.inl rfl) ?_
    exact k0 (by grind)
  · refine zPs (pc1 := 7) (l1 := [(0, .int a)]) (st1 := [.int (6 : Int32), .int a]) 2 rfl rfl rfl ?_
    refine zCge rfl (fun h2 => ?_) (fun h2 => ?_)
    · refine zPs (pc1 := 15) (l1 := [(0, .int a)]) (st1 := [.int (0 : Int32)]) 1 rfl rfl rfl ?_
      refine zRz rfl rfl (Or.inl rfl) ?_
      exact k0 (by grind)
    · refine zPs (pc1 := 15) (l1 := [(0, .int a)]) (st1 := [.int (1 : Int32)]) 2 rfl rfl rfl ?_
      refine zRz rfl rfl (Or.inr rfl) ?_
      exact k1 (by grind)
theorem e_67 {z : Sg} {P : MO → Sg → Prop} {a : Int32} (k1 : isN a → P (.inl none) z) (k0 : ¬ (isN a) → P (.inr 0) z) : Es false 67 [.ref 0, .int a] z P := by
  refine Es.of ?_
  refine zPs (pc1 := 1) (l1 := [(0, .ref 0), (1, .int a)]) (st1 := [.int a]) 1 rfl rfl rfl ?_
  refine zCs (mj := 76) rfl rfl rfl rfl rfl rfl rfl rfl ?_
  refine e_76 (fun h1 => ?_) (fun h2 => ?_)
  · refine kI ?_
    refine zPs (pc1 := 18) (l1 := [(0, .ref 0), (1, .int a)]) (st1 := []) 1 rfl rfl rfl ?_
    refine zRv rfl rfl ?_
    exact k1 (by grind)
  · refine kI ?_
    refine zPs (pc1 := 7) (l1 := [(0, .ref 0), (1, .int a)]) (st1 := []) 1 rfl rfl rfl ?_
    refine zT rfl rfl rfl ?_
    exact k0 (by grind)
theorem isT_of1 {a : Int32} (h : a = -1) : isT a := by subst h; exact ⟨by decide, by decide⟩
theorem isT_of2 {a : Int32} (_ : ¬ a = -1) (h : isN a) : isT a := ⟨Int32.le_trans (by decide) h.1, h.2⟩
theorem isT_of0 {a : Int32} (h : ¬ a = -1) (h2 : ¬ isN a) : ¬ isT a := by
  rintro ⟨h3, h4⟩
  refine h2 ⟨?_, h4⟩
  rw [Int32.le_iff_toInt_le] at h3 ⊢
  have e : (-1 : Int32).toInt = -1 := by decide
  have e0 : (0 : Int32).toInt = 0 := by decide
  have : ¬ a.toInt = -1 := fun q => h (Int32.toInt_inj.mp (q.trans e.symm))
  omega
theorem isT_lt {a : Int32} (h : isT a) (h1 : ¬ a = -1) : isN a := by
  by_cases q : isN a
  · exact q
  · exact absurd h (isT_of0 h1 q)
theorem e_68 {z : Sg} {P : MO → Sg → Prop} {a : Int32} (k1 : isT a → P (.inl none) z) (k0 : ¬ (isT a) → P (.inr 0) z) : Es false 68 [.ref 0, .int a] z P := by
  refine Es.of ?_
  refine zPs (pc1 := 2) (l1 := [(0, .ref 0), (1, .int a)]) (st1 := [.int (-1 : Int32), .int a]) 2 rfl rfl rfl ?_
  refine zCe rfl (fun h1 => ?_) (fun h1 => ?_)
  · refine zRv rfl rfl ?_
    exact k1 (isT_of1 h1)
  · refine zPs (pc1 := 6) (l1 := [(0, .ref 0), (1, .int a)]) (st1 := [.int a]) 1 rfl rfl rfl ?_
    refine zCs (mj := 76) rfl rfl rfl rfl rfl rfl rfl rfl ?_
    refine e_76 (fun h2 => ?_) (fun h3 => ?_)
    · refine kI ?_
      refine zPs (pc1 := 23) (l1 := [(0, .ref 0), (1, .int a)]) (st1 := []) 1 rfl rfl rfl ?_
      refine zRv rfl rfl ?_
      exact k1 (isT_of2 h1 h2)
    · refine kI ?_
      refine zPs (pc1 := 12) (l1 := [(0, .ref 0), (1, .int a)]) (st1 := []) 1 rfl rfl rfl ?_
      refine zT rfl rfl rfl ?_
      exact k0 (isT_of0 h1 h3)
theorem e_69 {z : Sg} {P : MO → Sg → Prop} {n : Nat} (hn : z 292 19 = i32 n) {a : Int32} (k1 : isCl n a → P (.inl none) z) (k0 : ¬ (isCl n a) → P (.inr 0) z) : Es false 69 [.ref 0, .int a] z P := by
  refine Es.of ?_
  refine zPs (pc1 := 2) (l1 := [(0, .ref 0), (1, .int a)]) (st1 := [.int a, .ref 0]) 2 rfl rfl rfl ?_
  refine zCv (mj := 77) (k := 0) (n := 1) rfl rfl rfl rfl (by decide) rfl rfl rfl rfl rfl rfl ?_
  refine e_77 hn (fun h1 => ?_) (fun h2 => ?_)
  · refine kI ?_
    refine zPs (pc1 := 19) (l1 := [(0, .ref 0), (1, .int a)]) (st1 := []) 1 rfl rfl rfl ?_
    refine zRv rfl rfl ?_
    exact k1 (by grind)
  · refine kI ?_
    refine zPs (pc1 := 8) (l1 := [(0, .ref 0), (1, .int a)]) (st1 := []) 1 rfl rfl rfl ?_
    refine zT rfl rfl rfl ?_
    exact k0 (by grind)
theorem e_70 {z : Sg} {P : MO → Sg → Prop} {a : Int32} (k1 : isA a → P (.inl none) z) (k0 : ¬ (isA a) → P (.inr 0) z) : Es false 70 [.ref 0, .int a] z P := by
  refine Es.of ?_
  refine zPs (pc1 := 1) (l1 := [(0, .ref 0), (1, .int a)]) (st1 := [.int a]) 1 rfl rfl rfl ?_
  refine zCs (mj := 78) rfl rfl rfl rfl rfl rfl rfl rfl ?_
  refine e_78 (fun h1 => ?_) (fun h2 => ?_)
  · refine kI ?_
    refine zPs (pc1 := 18) (l1 := [(0, .ref 0), (1, .int a)]) (st1 := []) 1 rfl rfl rfl ?_
    refine zRv rfl rfl ?_
    exact k1 (by grind)
  · refine kI ?_
    refine zPs (pc1 := 7) (l1 := [(0, .ref 0), (1, .int a)]) (st1 := []) 1 rfl rfl rfl ?_
    refine zT rfl rfl rfl ?_
    exact k0 (by grind)
theorem e_71 {z : Sg} {P : MO → Sg → Prop} {a b c : Int32} (k1 : b ≤ a ∧ a ≤ c → P (.inl none) z) (k0 : ¬ (b ≤ a ∧ a ≤ c) → P (.inr 1) z) : Es false 71 [.ref 0, .int a, .int b, .int c] z P := by
  refine Es.of ?_
  refine zPs (pc1 := 2) (l1 := [(0, .ref 0), (1, .int a), (2, .int b), (3, .int c)]) (st1 := [.int b, .int a]) 2 rfl rfl rfl ?_
  refine zClt rfl (fun h1 => ?_) (fun h1 => ?_)
  · refine zT rfl rfl rfl ?_
    exact k0 (by grind)
  · refine zPs (pc1 := 7) (l1 := [(0, .ref 0), (1, .int a), (2, .int b), (3, .int c)]) (st1 := [.int c, .int a]) 2 rfl rfl rfl ?_
    refine zCle rfl (fun h2 => ?_) (fun h2 => ?_)
    · refine zRv rfl rfl ?_
      exact k1 (by grind)
    · refine zT rfl rfl rfl ?_
      exact k0 (by grind)
theorem e_72 {z : Sg} {P : MO → Sg → Prop} {a : Int32} (k1 : (10 ≤ a ∧ a ≤ 19) ∨ ((100 ≤ a ∧ a ≤ 199) ∨ (1000 ≤ a ∧ a ≤ 1999)) → P (.inl none) z) (k0 : ¬ ((10 ≤ a ∧ a ≤ 19) ∨ ((100 ≤ a ∧ a ≤ 199) ∨ (1000 ≤ a ∧ a ≤ 1999))) → P (.inr 1) z) : Es false 72 [.ref 0, .int a] z P := by
  refine Es.of ?_
  refine zPs (pc1 := 3) (l1 := [(0, .ref 0), (1, .int a)]) (st1 := [.int (10 : Int32), .int a]) 2 rfl rfl rfl ?_
  refine zClt rfl (fun h1 => ?_) (fun h1 => ?_)
  · refine zPs (pc1 := 21) (l1 := [(2, .int (0 : Int32)), (0, .ref 0), (1, .int a)]) (st1 := [.int (100 : Int32), .int a]) 4 rfl rfl rfl ?_
    refine zClt rfl (fun h2 => ?_) (fun h2 => ?_)
    · refine zPs (pc1 := 41) (l1 := [(3, .int (0 : Int32)), (2, .int (0 : Int32)), (0, .ref 0), (1, .int a)]) (st1 := [.int (1000 : Int32), .int a]) 4 rfl rfl rfl ?_
      refine zClt rfl (fun h3 => ?_) (fun h3 => ?_)
      · refine zPs (pc1 := 71) (l1 := [(4, .int (0 : Int32)), (3, .int (0 : Int32)), (2, .int (0 : Int32)), (0, .ref 0), (1, .int a)]) (st1 := []) 8 rfl rfl rfl ?_
        refine zT rfl rfl rfl ?_
        exact k0 (by grind)
      · refine zPs (pc1 := 48) (l1 := [(3, .int (0 : Int32)), (2, .int (0 : Int32)), (0, .ref 0), (1, .int a)]) (st1 := [.int (1999 : Int32), .int a]) 2 rfl rfl rfl ?_
        refine zCgt rfl (fun h4 => ?_) (fun h4 => ?_)
        · refine zPs (pc1 := 71) (l1 := [(4, .int (0 : Int32)), (3, .int (0 : Int32)), (2, .int (0 : Int32)), (0, .ref 0), (1, .int a)]) (st1 := []) 8 rfl rfl rfl ?_
          refine zT rfl rfl rfl ?_
          exact k0 (by grind)
        · refine zPs (pc1 := 82) (l1 := [(4, .int (1 : Int32)), (3, .int (0 : Int32)), (2, .int (0 : Int32)), (0, .ref 0), (1, .int a)]) (st1 := []) 9 rfl rfl rfl ?_
          refine zRv rfl rfl ?_
          exact k1 (by grind)
    · refine zPs (pc1 := 28) (l1 := [(2, .int (0 : Int32)), (0, .ref 0), (1, .int a)]) (st1 := [.int (199 : Int32), .int a]) 2 rfl rfl rfl ?_
      refine zCgt rfl (fun h5 => ?_) (fun h5 => ?_)
      · refine zPs (pc1 := 41) (l1 := [(3, .int (0 : Int32)), (2, .int (0 : Int32)), (0, .ref 0), (1, .int a)]) (st1 := [.int (1000 : Int32), .int a]) 4 rfl rfl rfl ?_
        refine zClt rfl (fun h6 => ?_) (fun h6 => ?_)
        · refine zPs (pc1 := 71) (l1 := [(4, .int (0 : Int32)), (3, .int (0 : Int32)), (2, .int (0 : Int32)), (0, .ref 0), (1, .int a)]) (st1 := []) 8 rfl rfl rfl ?_
          refine zT rfl rfl rfl ?_
          exact k0 (by grind)
        · refine zPs (pc1 := 48) (l1 := [(3, .int (0 : Int32)), (2, .int (0 : Int32)), (0, .ref 0), (1, .int a)]) (st1 := [.int (1999 : Int32), .int a]) 2 rfl rfl rfl ?_
          refine zCgt rfl (fun h7 => ?_) (fun h7 => ?_)
          · refine zPs (pc1 := 71) (l1 := [(4, .int (0 : Int32)), (3, .int (0 : Int32)), (2, .int (0 : Int32)), (0, .ref 0), (1, .int a)]) (st1 := []) 8 rfl rfl rfl ?_
            refine zT rfl rfl rfl ?_
            exact k0 (by grind)
          · refine zPs (pc1 := 82) (l1 := [(4, .int (1 : Int32)), (3, .int (0 : Int32)), (2, .int (0 : Int32)), (0, .ref 0), (1, .int a)]) (st1 := []) 9 rfl rfl rfl ?_
            refine zRv rfl rfl ?_
            exact k1 (by grind)
      · refine zPs (pc1 := 41) (l1 := [(3, .int (1 : Int32)), (2, .int (0 : Int32)), (0, .ref 0), (1, .int a)]) (st1 := [.int (1000 : Int32), .int a]) 5 rfl rfl rfl ?_
        refine zClt rfl (fun h8 => ?_) (fun h8 => ?_)
        · refine zPs (pc1 := 82) (l1 := [(4, .int (0 : Int32)), (3, .int (1 : Int32)), (2, .int (0 : Int32)), (0, .ref 0), (1, .int a)]) (st1 := []) 6 rfl rfl rfl ?_
          refine zRv rfl rfl ?_
          exact k1 (by grind)
        · refine zPs (pc1 := 48) (l1 := [(3, .int (1 : Int32)), (2, .int (0 : Int32)), (0, .ref 0), (1, .int a)]) (st1 := [.int (1999 : Int32), .int a]) 2 rfl rfl rfl ?_
          refine zCgt rfl (fun h9 => ?_) (fun h9 => ?_)
          · refine zPs (pc1 := 82) (l1 := [(4, .int (0 : Int32)), (3, .int (1 : Int32)), (2, .int (0 : Int32)), (0, .ref 0), (1, .int a)]) (st1 := []) 6 rfl rfl rfl ?_
            refine zRv rfl rfl ?_
            exact k1 (by grind)
          · refine zPs (pc1 := 82) (l1 := [(4, .int (1 : Int32)), (3, .int (1 : Int32)), (2, .int (0 : Int32)), (0, .ref 0), (1, .int a)]) (st1 := []) 7 rfl rfl rfl ?_
            refine zRv rfl rfl ?_
            exact k1 (by grind)
  · refine zPs (pc1 := 9) (l1 := [(0, .ref 0), (1, .int a)]) (st1 := [.int (19 : Int32), .int a]) 2 rfl rfl rfl ?_
    refine zCgt rfl (fun h10 => ?_) (fun h10 => ?_)
    · refine zPs (pc1 := 21) (l1 := [(2, .int (0 : Int32)), (0, .ref 0), (1, .int a)]) (st1 := [.int (100 : Int32), .int a]) 4 rfl rfl rfl ?_
      refine zClt rfl (fun h11 => ?_) (fun h11 => ?_)
      · refine zPs (pc1 := 41) (l1 := [(3, .int (0 : Int32)), (2, .int (0 : Int32)), (0, .ref 0), (1, .int a)]) (st1 := [.int (1000 : Int32), .int a]) 4 rfl rfl rfl ?_
        refine zClt rfl (fun h12 => ?_) (fun h12 => ?_)
        · refine zPs (pc1 := 71) (l1 := [(4, .int (0 : Int32)), (3, .int (0 : Int32)), (2, .int (0 : Int32)), (0, .ref 0), (1, .int a)]) (st1 := []) 8 rfl rfl rfl ?_
          refine zT rfl rfl rfl ?_
          exact k0 (by grind)
        · refine zPs (pc1 := 48) (l1 := [(3, .int (0 : Int32)), (2, .int (0 : Int32)), (0, .ref 0), (1, .int a)]) (st1 := [.int (1999 : Int32), .int a]) 2 rfl rfl rfl ?_
          refine zCgt rfl (fun h13 => ?_) (fun h13 => ?_)
          · refine zPs (pc1 := 71) (l1 := [(4, .int (0 : Int32)), (3, .int (0 : Int32)), (2, .int (0 : Int32)), (0, .ref 0), (1, .int a)]) (st1 := []) 8 rfl rfl rfl ?_
            refine zT rfl rfl rfl ?_
            exact k0 (by grind)
          · refine zPs (pc1 := 82) (l1 := [(4, .int (1 : Int32)), (3, .int (0 : Int32)), (2, .int (0 : Int32)), (0, .ref 0), (1, .int a)]) (st1 := []) 9 rfl rfl rfl ?_
            refine zRv rfl rfl ?_
            exact k1 (by grind)
      · refine zPs (pc1 := 28) (l1 := [(2, .int (0 : Int32)), (0, .ref 0), (1, .int a)]) (st1 := [.int (199 : Int32), .int a]) 2 rfl rfl rfl ?_
        refine zCgt rfl (fun h14 => ?_) (fun h14 => ?_)
        · refine zPs (pc1 := 41) (l1 := [(3, .int (0 : Int32)), (2, .int (0 : Int32)), (0, .ref 0), (1, .int a)]) (st1 := [.int (1000 : Int32), .int a]) 4 rfl rfl rfl ?_
          refine zClt rfl (fun h15 => ?_) (fun h15 => ?_)
          · refine zPs (pc1 := 71) (l1 := [(4, .int (0 : Int32)), (3, .int (0 : Int32)), (2, .int (0 : Int32)), (0, .ref 0), (1, .int a)]) (st1 := []) 8 rfl rfl rfl ?_
            refine zT rfl rfl rfl ?_
            exact k0 (by grind)
          · refine zPs (pc1 := 48) (l1 := [(3, .int (0 : Int32)), (2, .int (0 : Int32)), (0, .ref 0), (1, .int a)]) (st1 := [.int (1999 : Int32), .int a]) 2 rfl rfl rfl ?_
            refine zCgt rfl (fun h16 => ?_) (fun h16 => ?_)
            · refine zPs (pc1 := 71) (l1 := [(4, .int (0 : Int32)), (3, .int (0 : Int32)), (2, .int (0 : Int32)), (0, .ref 0), (1, .int a)]) (st1 := []) 8 rfl rfl rfl ?_
              refine zT rfl rfl rfl ?_
              exact k0 (by grind)
            · refine zPs (pc1 := 82) (l1 := [(4, .int (1 : Int32)), (3, .int (0 : Int32)), (2, .int (0 : Int32)), (0, .ref 0), (1, .int a)]) (st1 := []) 9 rfl rfl rfl ?_
              refine zRv rfl rfl ?_
              exact k1 (by grind)
        · refine zPs (pc1 := 41) (l1 := [(3, .int (1 : Int32)), (2, .int (0 : Int32)), (0, .ref 0), (1, .int a)]) (st1 := [.int (1000 : Int32), .int a]) 5 rfl rfl rfl ?_
          refine zClt rfl (fun h17 => ?_) (fun h17 => ?_)
          · refine zPs (pc1 := 82) (l1 := [(4, .int (0 : Int32)), (3, .int (1 : Int32)), (2, .int (0 : Int32)), (0, .ref 0), (1, .int a)]) (st1 := []) 6 rfl rfl rfl ?_
            refine zRv rfl rfl ?_
            exact k1 (by grind)
          · refine zPs (pc1 := 48) (l1 := [(3, .int (1 : Int32)), (2, .int (0 : Int32)), (0, .ref 0), (1, .int a)]) (st1 := [.int (1999 : Int32), .int a]) 2 rfl rfl rfl ?_
            refine zCgt rfl (fun h18 => ?_) (fun h18 => ?_)
            · refine zPs (pc1 := 82) (l1 := [(4, .int (0 : Int32)), (3, .int (1 : Int32)), (2, .int (0 : Int32)), (0, .ref 0), (1, .int a)]) (st1 := []) 6 rfl rfl rfl ?_
              refine zRv rfl rfl ?_
              exact k1 (by grind)
            · refine zPs (pc1 := 82) (l1 := [(4, .int (1 : Int32)), (3, .int (1 : Int32)), (2, .int (0 : Int32)), (0, .ref 0), (1, .int a)]) (st1 := []) 7 rfl rfl rfl ?_
              refine zRv rfl rfl ?_
              exact k1 (by grind)
    · refine zPs (pc1 := 21) (l1 := [(2, .int (1 : Int32)), (0, .ref 0), (1, .int a)]) (st1 := [.int (100 : Int32), .int a]) 5 rfl rfl rfl ?_
      refine zClt rfl (fun h19 => ?_) (fun h19 => ?_)
      · refine zPs (pc1 := 41) (l1 := [(3, .int (0 : Int32)), (2, .int (1 : Int32)), (0, .ref 0), (1, .int a)]) (st1 := [.int (1000 : Int32), .int a]) 4 rfl rfl rfl ?_
        refine zClt rfl (fun h20 => ?_) (fun h20 => ?_)
        · refine zPs (pc1 := 82) (l1 := [(4, .int (0 : Int32)), (3, .int (0 : Int32)), (2, .int (1 : Int32)), (0, .ref 0), (1, .int a)]) (st1 := []) 4 rfl rfl rfl ?_
          refine zRv rfl rfl ?_
          exact k1 (by grind)
        · refine zPs (pc1 := 48) (l1 := [(3, .int (0 : Int32)), (2, .int (1 : Int32)), (0, .ref 0), (1, .int a)]) (st1 := [.int (1999 : Int32), .int a]) 2 rfl rfl rfl ?_
          refine zCgt rfl (fun h21 => ?_) (fun h21 => ?_)
          · refine zPs (pc1 := 82) (l1 := [(4, .int (0 : Int32)), (3, .int (0 : Int32)), (2, .int (1 : Int32)), (0, .ref 0), (1, .int a)]) (st1 := []) 4 rfl rfl rfl ?_
            refine zRv rfl rfl ?_
            exact k1 (by grind)
          · refine zPs (pc1 := 82) (l1 := [(4, .int (1 : Int32)), (3, .int (0 : Int32)), (2, .int (1 : Int32)), (0, .ref 0), (1, .int a)]) (st1 := []) 5 rfl rfl rfl ?_
            refine zRv rfl rfl ?_
            exact k1 (by grind)
      · refine zPs (pc1 := 28) (l1 := [(2, .int (1 : Int32)), (0, .ref 0), (1, .int a)]) (st1 := [.int (199 : Int32), .int a]) 2 rfl rfl rfl ?_
        refine zCgt rfl (fun h22 => ?_) (fun h22 => ?_)
        · refine zPs (pc1 := 41) (l1 := [(3, .int (0 : Int32)), (2, .int (1 : Int32)), (0, .ref 0), (1, .int a)]) (st1 := [.int (1000 : Int32), .int a]) 4 rfl rfl rfl ?_
          refine zClt rfl (fun h23 => ?_) (fun h23 => ?_)
          · refine zPs (pc1 := 82) (l1 := [(4, .int (0 : Int32)), (3, .int (0 : Int32)), (2, .int (1 : Int32)), (0, .ref 0), (1, .int a)]) (st1 := []) 4 rfl rfl rfl ?_
            refine zRv rfl rfl ?_
            exact k1 (by grind)
          · refine zPs (pc1 := 48) (l1 := [(3, .int (0 : Int32)), (2, .int (1 : Int32)), (0, .ref 0), (1, .int a)]) (st1 := [.int (1999 : Int32), .int a]) 2 rfl rfl rfl ?_
            refine zCgt rfl (fun h24 => ?_) (fun h24 => ?_)
            · refine zPs (pc1 := 82) (l1 := [(4, .int (0 : Int32)), (3, .int (0 : Int32)), (2, .int (1 : Int32)), (0, .ref 0), (1, .int a)]) (st1 := []) 4 rfl rfl rfl ?_
              refine zRv rfl rfl ?_
              exact k1 (by grind)
            · refine zPs (pc1 := 82) (l1 := [(4, .int (1 : Int32)), (3, .int (0 : Int32)), (2, .int (1 : Int32)), (0, .ref 0), (1, .int a)]) (st1 := []) 5 rfl rfl rfl ?_
              refine zRv rfl rfl ?_
              exact k1 (by grind)
        · refine zPs (pc1 := 41) (l1 := [(3, .int (1 : Int32)), (2, .int (1 : Int32)), (0, .ref 0), (1, .int a)]) (st1 := [.int (1000 : Int32), .int a]) 5 rfl rfl rfl ?_
          refine zClt rfl (fun h25 => ?_) (fun h25 => ?_)
          · refine zPs (pc1 := 82) (l1 := [(4, .int (0 : Int32)), (3, .int (1 : Int32)), (2, .int (1 : Int32)), (0, .ref 0), (1, .int a)]) (st1 := []) 4 rfl rfl rfl ?_
            refine zRv rfl rfl ?_
            exact k1 (by grind)
          · refine zPs (pc1 := 48) (l1 := [(3, .int (1 : Int32)), (2, .int (1 : Int32)), (0, .ref 0), (1, .int a)]) (st1 := [.int (1999 : Int32), .int a]) 2 rfl rfl rfl ?_
            refine zCgt rfl (fun h26 => ?_) (fun h26 => ?_)
            · refine zPs (pc1 := 82) (l1 := [(4, .int (0 : Int32)), (3, .int (1 : Int32)), (2, .int (1 : Int32)), (0, .ref 0), (1, .int a)]) (st1 := []) 4 rfl rfl rfl ?_
              refine zRv rfl rfl ?_
              exact k1 (by grind)
            · refine zPs (pc1 := 82) (l1 := [(4, .int (1 : Int32)), (3, .int (1 : Int32)), (2, .int (1 : Int32)), (0, .ref 0), (1, .int a)]) (st1 := []) 5 rfl rfl rfl ?_
              refine zRv rfl rfl ?_
              exact k1 (by grind)
theorem e_74 {z : Sg} {P : MO → Sg → Prop} {a : Nat} (ha : a < 6) (k1 : ¬ (z 326 a = 2 ∨ z 326 a = 3) → P (.inl none) z) (k0 : ¬ (¬ (z 326 a = 2 ∨ z 326 a = 3)) → P (.inr 2) z) : Es false 74 [.ref 0, .ref (286 + a)] z P := by
  refine Es.of ?_
  refine zPs (pc1 := 1) (l1 := [(0, .ref 0), (1, .ref (286 + a))]) (st1 := [.ref (286 + a)]) 1 rfl rfl rfl ?_
  refine zGetI (v := z 326 a) rfl rfl (icD (j := 0) ha rfl) rfl ?_
  refine zPs (pc1 := 5) (l1 := [(0, .ref 0), (1, .ref (286 + a))]) (st1 := [.int (2 : Int32), .int (z 326 a)]) 1 rfl rfl rfl ?_
  refine zCe rfl (fun h1 => ?_) (fun h1 => ?_)
  · refine zT rfl rfl rfl ?_
    exact k0 (by grind)
  · refine zPs (pc1 := 9) (l1 := [(0, .ref 0), (1, .ref (286 + a))]) (st1 := [.ref (286 + a)]) 1 rfl rfl rfl ?_
    refine zGetI (v := z 326 a) rfl rfl (icD (j := 0) ha rfl) rfl ?_
    refine zPs (pc1 := 13) (l1 := [(0, .ref 0), (1, .ref (286 + a))]) (st1 := [.int (3 : Int32), .int (z 326 a)]) 1 rfl rfl rfl ?_
    refine zCn rfl (fun h2 => ?_) (fun h2 => ?_)
    · refine zRv rfl rfl ?_
      exact k1 (by grind)
    · refine zT rfl rfl rfl ?_
      exact k0 (by grind)
theorem e_75 {z : Sg} {P : MO → Sg → Prop} {a : Nat} (ha : a < 6) (k1 : z 326 a = 2 → P (.inl none) z) (k0 : ¬ (z 326 a = 2) → P (.inr 2) z) : Es false 75 [.ref 0, .ref (286 + a)] z P := by
  refine Es.of ?_
  refine zPs (pc1 := 1) (l1 := [(0, .ref 0), (1, .ref (286 + a))]) (st1 := [.ref (286 + a)]) 1 rfl rfl rfl ?_
  refine zGetI (v := z 326 a) rfl rfl (icD (j := 0) ha rfl) rfl ?_
  refine zPs (pc1 := 5) (l1 := [(0, .ref 0), (1, .ref (286 + a))]) (st1 := [.int (2 : Int32), .int (z 326 a)]) 1 rfl rfl rfl ?_
  refine zCe rfl (fun h1 => ?_) (fun h1 => ?_)
  · refine zRv rfl rfl ?_
    exact k1 (by grind)
  · refine zT rfl rfl rfl ?_
    exact k0 (by grind)
noncomputable def f_28 (a : Int32) : Int32 := ((a / (240 : Int32)) - (a / (240 : Int32)) / (7 : Int32) * (7 : Int32))
theorem e_28 {l : Sg} {P : MO → Sg → Prop} {a : Int32} (k : Rk (Qv P l) (f_28 a)) : Es false 28 [.int a] l P := by
  unfold f_28 at k
  refine Es.of ?_
  refine zPs (pc1 := 4) (l1 := [(0, .int a)]) (st1 := [.int (240 : Int32), .int a]) 2 rfl rfl rfl ?_
  refine zDiv rfl (by decide) ?_
  refine zPs (pc1 := 7) (l1 := [(0, .int a)]) (st1 := [.int (7 : Int32), .int (a / (240 : Int32))]) 1 rfl rfl rfl ?_
  refine zRem rfl (by decide) ?_
  refine zRi rfl rfl ?_
  exact k
noncomputable def f_79 (a : Int32) : Int32 := (if a = (2 : Int32) then (5 : Int32) else (if a = (3 : Int32) then (6 : Int32) else (if a = (4 : Int32) then (5 : Int32) else (999999 : Int32))))
theorem e_79 {l : Sg} {P : MO → Sg → Prop} {a : Int32} (k : Rk (Qv P l) (f_79 a)) : Es false 79 [.int a] l P := by
  unfold f_79 at k
  refine Es.of ?_
  refine zPs (pc1 := 1) (l1 := [(0, .int a)]) (st1 := [.int a]) 1 rfl rfl rfl ?_
  refine zSw rfl rfl ?_
  refine zSwS (fun h1 => ?_) (fun h1 => ?_)
  · replace k := ite_t h1 k
    refine zPs (pc1 := 29) (l1 := [(0, .int a)]) (st1 := [.int (5 : Int32)]) 1 rfl rfl rfl ?_
    refine zRi rfl rfl ?_
    exact k
  · replace k := ite_f h1 k
    refine zSwS (fun h2 => ?_) (fun h2 => ?_)
    · replace k := ite_t h2 k
      refine zPs (pc1 := 32) (l1 := [(0, .int a)]) (st1 := [.int (6 : Int32)]) 1 rfl rfl rfl ?_
      refine zRi rfl rfl ?_
      exact k
    · replace k := ite_f h2 k
      refine zSwS (fun h3 => ?_) (fun h3 => ?_)
      · replace k := ite_t h3 k
        refine zPs (pc1 := 29) (l1 := [(0, .int a)]) (st1 := [.int (5 : Int32)]) 1 rfl rfl rfl ?_
        refine zRi rfl rfl ?_
        exact k
      · replace k := ite_f h3 k
        refine zSw0 ?_
        refine zLdcw (v := (999999 : Int32)) rfl rfl ?_
        refine zRi rfl rfl ?_
        exact k
noncomputable def f_104 (a : Int32) (b : Int32) : Int32 := ((a + (1 : Int32)) * (b + (10 : Int32)))
theorem e_104 {l : Sg} {P : MO → Sg → Prop} {a : Int32} {b : Int32} (k : Rk (Qv P l) (f_104 a b)) : Es false 104 [.int a, .int b] l P := by
  unfold f_104 at k
  refine Es.of ?_
  refine zPs (pc1 := 8) (l1 := [(0, .int a), (1, .int b)]) (st1 := [.int ((a + (1 : Int32)) * (b + (10 : Int32)))]) 7 rfl rfl rfl ?_
  refine zRi rfl rfl ?_
  exact k
noncomputable def f_103 (a : Int32) (b : Int32) (c : Int32) (d : Int32) : Int32 := (if c < a then (1 : Int32) else (if ¬ a = c then (0 : Int32) else (if d ≤ b then (0 : Int32) else (1 : Int32))))
theorem e_103 {l : Sg} {P : MO → Sg → Prop} {a : Int32} {b : Int32} {c : Int32} {d : Int32} (k : Rk (Qv P l) (f_103 a b c d)) : Es false 103 [.int a, .int b, .int c, .int d] l P := by
  unfold f_103 at k
  refine Es.of ?_
  refine zPs (pc1 := 2) (l1 := [(0, .int a), (1, .int b), (2, .int c), (3, .int d)]) (st1 := [.int c, .int a]) 2 rfl rfl rfl ?_
  refine zCgt rfl (fun h1 => ?_) (fun h1 => ?_)
  · replace k := ite_t h1 k
    refine zPs (pc1 := 20) (l1 := [(0, .int a), (1, .int b), (2, .int c), (3, .int d)]) (st1 := [.int (1 : Int32)]) 2 rfl rfl rfl ?_
    refine zRz rfl rfl (Or.inr rfl) ?_
    exact k
  · replace k := ite_f h1 k
    refine zPs (pc1 := 7) (l1 := [(0, .int a), (1, .int b), (2, .int c), (3, .int d)]) (st1 := [.int c, .int a]) 2 rfl rfl rfl ?_
    refine zCn rfl (fun h2 => ?_) (fun h2 => ?_)
    · replace k := ite_t h2 k
      refine zPs (pc1 := 20) (l1 := [(0, .int a), (1, .int b), (2, .int c), (3, .int d)]) (st1 := [.int (0 : Int32)]) 1 rfl rfl rfl ?_
      refine zRz rfl rfl (Or.inl rfl) ?_
      exact k
    · replace k := ite_f (not_not_intro h2) k
      refine zPs (pc1 := 12) (l1 := [(0, .int a), (1, .int b), (2, .int c), (3, .int d)]) (st1 := [.int d, .int b]) 2 rfl rfl rfl ?_
      refine zCge rfl (fun h3 => ?_) (fun h3 => ?_)
      · replace k := ite_t h3 k
        refine zPs (pc1 := 20) (l1 := [(0, .int a), (1, .int b), (2, .int c), (3, .int d)]) (st1 := [.int (0 : Int32)]) 1 rfl rfl rfl ?_
        refine zRz rfl rfl (Or.inl rfl) ?_
        exact k
      · replace k := ite_f h3 k
        refine zPs (pc1 := 20) (l1 := [(0, .int a), (1, .int b), (2, .int c), (3, .int d)]) (st1 := [.int (1 : Int32)]) 2 rfl rfl rfl ?_
        refine zRz rfl rfl (Or.inr rfl) ?_
        exact k
noncomputable def f_1 (a : Nat) (t : Int32) (l : Sg) : Sg := (up2 (up2 (up2 l 326 a (1 : Int32)) 331 a (-1 : Int32)) 328 a t)
theorem e_1 {l : Sg} {P : MO → Sg → Prop} {a : Nat} {t : Int32} (ha : a < 6) (k : Rk (Qm P) (f_1 a t l)) : Es false 1 [.ref (286 + a), .int t] l P := by
  unfold f_1 at k
  refine Es.of ?_
  refine zPs (pc1 := 2) (l1 := [(0, .ref (286 + a)), (1, .int t)]) (st1 := [.int (1 : Int32), .ref (286 + a)]) 2 rfl rfl rfl ?_
  refine zPutI (F := 326) (I := a) rfl rfl (icD (j := 0) ha rfl) rfl ?_
  refine zPs (pc1 := 7) (l1 := [(0, .ref (286 + a)), (1, .int t)]) (st1 := [.int (-1 : Int32), .ref (286 + a)]) 2 rfl rfl rfl ?_
  refine zPutI (F := 331) (I := a) rfl rfl (icD (j := 2) ha rfl) rfl ?_
  refine zPs (pc1 := 12) (l1 := [(0, .ref (286 + a)), (1, .int t)]) (st1 := [.int t, .ref (286 + a)]) 2 rfl rfl rfl ?_
  refine zPutI (F := 328) (I := a) rfl rfl (icD (j := 5) ha rfl) rfl ?_
  refine zRv rfl rfl ?_
  exact k
noncomputable def f_2 (a : Nat) (t : Int32) (l : Sg) : Sg := (up2 (up2 (up2 l 326 a (4 : Int32)) 331 a (-1 : Int32)) 330 a (t + l 329 a))
theorem e_2 {l : Sg} {P : MO → Sg → Prop} {a : Nat} {t : Int32} (ha : a < 6) (k : Rk (Qm P) (f_2 a t l)) : Es false 2 [.ref (286 + a), .int t] l P := by
  unfold f_2 at k
  refine Es.of ?_
  refine zPs (pc1 := 2) (l1 := [(0, .ref (286 + a)), (1, .int t)]) (st1 := [.int (4 : Int32), .ref (286 + a)]) 2 rfl rfl rfl ?_
  refine zPutI (F := 326) (I := a) rfl rfl (icD (j := 0) ha rfl) rfl ?_
  refine zPs (pc1 := 7) (l1 := [(0, .ref (286 + a)), (1, .int t)]) (st1 := [.int (-1 : Int32), .ref (286 + a)]) 2 rfl rfl rfl ?_
  refine zPutI (F := 331) (I := a) rfl rfl (icD (j := 2) ha rfl) rfl ?_
  refine zPs (pc1 := 13) (l1 := [(0, .ref (286 + a)), (1, .int t)]) (st1 := [.ref (286 + a), .int t, .ref (286 + a)]) 3 rfl rfl rfl ?_
  refine zGetI (F := 329) (I := a) (v := l 329 a) rfl rfl (icD (j := 3) ha rfl) rfl ?_
  refine zPs (pc1 := 17) (l1 := [(0, .ref (286 + a)), (1, .int t)]) (st1 := [.int (t + l 329 a), .ref (286 + a)]) 1 rfl rfl rfl ?_
  refine zPutI (F := 330) (I := a) rfl rfl (icD (j := 4) ha rfl) rfl ?_
  refine zRv rfl rfl ?_
  exact k
theorem ci_1 {l : Sg} {n : Nat} {a : Nat} {t : Int32} (h : CI l n) : CI (f_1 a t l) n := by
  unfold f_1
  (repeat' first | with_reducible exact h | with_reducible refine CI_ite ?_ ?_ | with_reducible refine CI_ite2 ?_ ?_ | with_reducible refine CI_ite3 ?_ ?_ | with_reducible refine CI_bnd ?_ | with_reducible refine CI_bnd' ?_ | with_reducible refine CI_bnd3 ?_ | with_reducible refine CI_bnd2 ?_ | with_reducible refine CI_bnd2' ?_ | with_reducible refine CI_bnd23 ?_ | with_reducible refine CI_up ?_ ?_) <;> rfl
theorem ci_2 {l : Sg} {n : Nat} {a : Nat} {t : Int32} (h : CI l n) : CI (f_2 a t l) n := by
  unfold f_2
  (repeat' first | with_reducible exact h | with_reducible refine CI_ite ?_ ?_ | with_reducible refine CI_ite2 ?_ ?_ | with_reducible refine CI_ite3 ?_ ?_ | with_reducible refine CI_bnd ?_ | with_reducible refine CI_bnd' ?_ | with_reducible refine CI_bnd3 ?_ | with_reducible refine CI_bnd2 ?_ | with_reducible refine CI_bnd2' ?_ | with_reducible refine CI_bnd23 ?_ | with_reducible refine CI_up ?_ ?_ | with_reducible refine ci_1 ?_) <;> rfl
noncomputable def f_13 (c : Nat) (l : Sg) : Int32 := (if l 311 c = (1 : Int32) then (1 : Int32) else (if ¬ l 311 c = (3 : Int32) then (0 : Int32) else (1 : Int32)))
theorem e_13 {l : Sg} {P : MO → Sg → Prop} {c : Nat} (hc : c < 60) (k : Rk (Qv P l) (f_13 c l)) : Es false 13 [.ref (166 + 2 * c)] l P := by
  unfold f_13 at k
  refine Es.of ?_
  refine zPs (pc1 := 1) (l1 := [(0, .ref (166 + 2 * c))]) (st1 := [.ref (166 + 2 * c)]) 1 rfl rfl rfl ?_
  refine zGetI (F := 311) (I := c) (v := l 311 c) rfl rfl (icL (j := 1) hc rfl) rfl ?_
  refine zPs (pc1 := 5) (l1 := [(0, .ref (166 + 2 * c))]) (st1 := [.int (1 : Int32), .int (l 311 c)]) 1 rfl rfl rfl ?_
  refine zCe rfl (fun h1 => ?_) (fun h1 => ?_)
  · replace k := ite_t h1 k
    refine zPs (pc1 := 21) (l1 := [(0, .ref (166 + 2 * c))]) (st1 := [.int (1 : Int32)]) 2 rfl rfl rfl ?_
    refine zRz rfl rfl (Or.inr rfl) ?_
    exact k
  · replace k := ite_f h1 k
    refine zPs (pc1 := 9) (l1 := [(0, .ref (166 + 2 * c))]) (st1 := [.ref (166 + 2 * c)]) 1 rfl rfl rfl ?_
    refine zGetI (F := 311) (I := c) (v := l 311 c) rfl rfl (icL (j := 1) hc rfl) rfl ?_
    refine zPs (pc1 := 13) (l1 := [(0, .ref (166 + 2 * c))]) (st1 := [.int (3 : Int32), .int (l 311 c)]) 1 rfl rfl rfl ?_
    refine zCn rfl (fun h2 => ?_) (fun h2 => ?_)
    · replace k := ite_t h2 k
      refine zPs (pc1 := 21) (l1 := [(0, .ref (166 + 2 * c))]) (st1 := [.int (0 : Int32)]) 1 rfl rfl rfl ?_
      refine zRz rfl rfl (Or.inl rfl) ?_
      exact k
    · replace k := ite_f (not_not_intro h2) k
      refine zPs (pc1 := 21) (l1 := [(0, .ref (166 + 2 * c))]) (st1 := [.int (1 : Int32)]) 2 rfl rfl rfl ?_
      refine zRz rfl rfl (Or.inr rfl) ?_
      exact k
noncomputable def f_14 (c : Nat) (w : Int32) (l : Sg) : Int32 := (if ¬ l 320 c = w then (0 : Int32) else (if l 311 c = (1 : Int32) then (1 : Int32) else (if ¬ l 311 c = (3 : Int32) then (0 : Int32) else (1 : Int32))))
theorem e_14 {l : Sg} {P : MO → Sg → Prop} {c : Nat} {w : Int32} (hc : c < 60) (k : Rk (Qv P l) (f_14 c w l)) : Es false 14 [.ref (166 + 2 * c), .int w] l P := by
  unfold f_14 at k
  refine Es.of ?_
  refine zPs (pc1 := 1) (l1 := [(0, .ref (166 + 2 * c)), (1, .int w)]) (st1 := [.ref (166 + 2 * c)]) 1 rfl rfl rfl ?_
  refine zGetI (F := 320) (I := c) (v := l 320 c) rfl rfl (icL (j := 11) hc rfl) rfl ?_
  refine zPs (pc1 := 5) (l1 := [(0, .ref (166 + 2 * c)), (1, .int w)]) (st1 := [.int w, .int (l 320 c)]) 1 rfl rfl rfl ?_
  refine zCn rfl (fun h1 => ?_) (fun h1 => ?_)
  · replace k := ite_t h1 k
    refine zPs (pc1 := 29) (l1 := [(0, .ref (166 + 2 * c)), (1, .int w)]) (st1 := [.int (0 : Int32)]) 1 rfl rfl rfl ?_
    refine zRz rfl rfl (Or.inl rfl) ?_
    exact k
  · replace k := ite_f (not_not_intro h1) k
    refine zPs (pc1 := 9) (l1 := [(0, .ref (166 + 2 * c)), (1, .int w)]) (st1 := [.ref (166 + 2 * c)]) 1 rfl rfl rfl ?_
    refine zGetI (F := 311) (I := c) (v := l 311 c) rfl rfl (icL (j := 1) hc rfl) rfl ?_
    refine zPs (pc1 := 13) (l1 := [(0, .ref (166 + 2 * c)), (1, .int w)]) (st1 := [.int (1 : Int32), .int (l 311 c)]) 1 rfl rfl rfl ?_
    refine zCe rfl (fun h2 => ?_) (fun h2 => ?_)
    · replace k := ite_t h2 k
      refine zPs (pc1 := 29) (l1 := [(0, .ref (166 + 2 * c)), (1, .int w)]) (st1 := [.int (1 : Int32)]) 2 rfl rfl rfl ?_
      refine zRz rfl rfl (Or.inr rfl) ?_
      exact k
    · replace k := ite_f h2 k
      refine zPs (pc1 := 17) (l1 := [(0, .ref (166 + 2 * c)), (1, .int w)]) (st1 := [.ref (166 + 2 * c)]) 1 rfl rfl rfl ?_
      refine zGetI (F := 311) (I := c) (v := l 311 c) rfl rfl (icL (j := 1) hc rfl) rfl ?_
      refine zPs (pc1 := 21) (l1 := [(0, .ref (166 + 2 * c)), (1, .int w)]) (st1 := [.int (3 : Int32), .int (l 311 c)]) 1 rfl rfl rfl ?_
      refine zCn rfl (fun h3 => ?_) (fun h3 => ?_)
      · replace k := ite_t h3 k
        refine zPs (pc1 := 29) (l1 := [(0, .ref (166 + 2 * c)), (1, .int w)]) (st1 := [.int (0 : Int32)]) 1 rfl rfl rfl ?_
        refine zRz rfl rfl (Or.inl rfl) ?_
        exact k
      · replace k := ite_f (not_not_intro h3) k
        refine zPs (pc1 := 29) (l1 := [(0, .ref (166 + 2 * c)), (1, .int w)]) (st1 := [.int (1 : Int32)]) 2 rfl rfl rfl ?_
        refine zRz rfl rfl (Or.inr rfl) ?_
        exact k
noncomputable def f_15 (c : Nat) (t : Int32) (l : Sg) : Int32 := (if l 311 c = (1 : Int32) then (1 : Int32) else (if ¬ l 311 c = (3 : Int32) then (0 : Int32) else (if t < l 324 c then (0 : Int32) else (1 : Int32))))
theorem e_15 {l : Sg} {P : MO → Sg → Prop} {c : Nat} {t : Int32} (hc : c < 60) (k : Rk (Qv P l) (f_15 c t l)) : Es false 15 [.ref (166 + 2 * c), .int t] l P := by
  unfold f_15 at k
  refine Es.of ?_
  refine zPs (pc1 := 1) (l1 := [(0, .ref (166 + 2 * c)), (1, .int t)]) (st1 := [.ref (166 + 2 * c)]) 1 rfl rfl rfl ?_
  refine zGetI (F := 311) (I := c) (v := l 311 c) rfl rfl (icL (j := 1) hc rfl) rfl ?_
  refine zPs (pc1 := 5) (l1 := [(0, .ref (166 + 2 * c)), (1, .int t)]) (st1 := [.int (1 : Int32), .int (l 311 c)]) 1 rfl rfl rfl ?_
  refine zCe rfl (fun h1 => ?_) (fun h1 => ?_)
  · replace k := ite_t h1 k
    refine zPs (pc1 := 29) (l1 := [(0, .ref (166 + 2 * c)), (1, .int t)]) (st1 := [.int (1 : Int32)]) 2 rfl rfl rfl ?_
    refine zRz rfl rfl (Or.inr rfl) ?_
    exact k
  · replace k := ite_f h1 k
    refine zPs (pc1 := 9) (l1 := [(0, .ref (166 + 2 * c)), (1, .int t)]) (st1 := [.ref (166 + 2 * c)]) 1 rfl rfl rfl ?_
    refine zGetI (F := 311) (I := c) (v := l 311 c) rfl rfl (icL (j := 1) hc rfl) rfl ?_
    refine zPs (pc1 := 13) (l1 := [(0, .ref (166 + 2 * c)), (1, .int t)]) (st1 := [.int (3 : Int32), .int (l 311 c)]) 1 rfl rfl rfl ?_
    refine zCn rfl (fun h2 => ?_) (fun h2 => ?_)
    · replace k := ite_t h2 k
      refine zPs (pc1 := 29) (l1 := [(0, .ref (166 + 2 * c)), (1, .int t)]) (st1 := [.int (0 : Int32)]) 1 rfl rfl rfl ?_
      refine zRz rfl rfl (Or.inl rfl) ?_
      exact k
    · replace k := ite_f (not_not_intro h2) k
      refine zPs (pc1 := 17) (l1 := [(0, .ref (166 + 2 * c)), (1, .int t)]) (st1 := [.ref (166 + 2 * c)]) 1 rfl rfl rfl ?_
      refine zGetI (F := 324) (I := c) (v := l 324 c) rfl rfl (icL (j := 14) hc rfl) rfl ?_
      refine zPs (pc1 := 21) (l1 := [(0, .ref (166 + 2 * c)), (1, .int t)]) (st1 := [.int t, .int (l 324 c)]) 1 rfl rfl rfl ?_
      refine zCgt rfl (fun h3 => ?_) (fun h3 => ?_)
      · replace k := ite_t h3 k
        refine zPs (pc1 := 29) (l1 := [(0, .ref (166 + 2 * c)), (1, .int t)]) (st1 := [.int (0 : Int32)]) 1 rfl rfl rfl ?_
        refine zRz rfl rfl (Or.inl rfl) ?_
        exact k
      · replace k := ite_f h3 k
        refine zPs (pc1 := 29) (l1 := [(0, .ref (166 + 2 * c)), (1, .int t)]) (st1 := [.int (1 : Int32)]) 2 rfl rfl rfl ?_
        refine zRz rfl rfl (Or.inr rfl) ?_
        exact k
noncomputable def f_16 (c : Nat) (t : Int32) (l : Sg) : Int32 := (f_104 (l 321 c) (t - l 322 c))
theorem e_16 {l : Sg} {P : MO → Sg → Prop} {c : Nat} {t : Int32} (hc : c < 60) (k : Rk (Qv P l) (f_16 c t l)) : Es false 16 [.ref (166 + 2 * c), .int t] l P := by
  unfold f_16 at k
  refine Es.of ?_
  refine zPs (pc1 := 1) (l1 := [(0, .ref (166 + 2 * c)), (1, .int t)]) (st1 := [.ref (166 + 2 * c)]) 1 rfl rfl rfl ?_
  refine zGetI (F := 321) (I := c) (v := l 321 c) rfl rfl (icL (j := 12) hc rfl) rfl ?_
  refine zPs (pc1 := 6) (l1 := [(0, .ref (166 + 2 * c)), (1, .int t)]) (st1 := [.ref (166 + 2 * c), .int t, .int (l 321 c)]) 2 rfl rfl rfl ?_
  refine zGetI (F := 322) (I := c) (v := l 322 c) rfl rfl (icL (j := 13) hc rfl) rfl ?_
  refine zPs (pc1 := 10) (l1 := [(0, .ref (166 + 2 * c)), (1, .int t)]) (st1 := [.int (t - l 322 c), .int (l 321 c)]) 1 rfl rfl rfl ?_
  refine zCs (mj := 104) rfl rfl rfl rfl rfl rfl rfl rfl ?_
  refine e_104 ?_
  refine kI ?_
  refine zRi rfl rfl ?_
  exact k
noncomputable def f_17 (c : Nat) (m : Nat) (t : Int32) (l : Sg) : Sg := (up2 (up2 (up2 (up2 l 420 c (1 : Int32)) 320 c (l 442 m)) 321 c (l 443 m)) 322 c t)
theorem e_17 {l : Sg} {P : MO → Sg → Prop} {c : Nat} {m : Nat} {t : Int32} (hc : c < 60) (hm : m < 30) (k : Rk (Qm P) (f_17 c m t l)) : Es false 17 [.ref (166 + 2 * c), .ref (46 + 4 * m), .int t] l P := by
  unfold f_17 at k
  refine Es.of ?_
  refine zPs (pc1 := 2) (l1 := [(0, .ref (166 + 2 * c)), (1, .ref (46 + 4 * m)), (2, .int t)]) (st1 := [.int (1 : Int32), .ref (166 + 2 * c)]) 2 rfl rfl rfl ?_
  refine zPutI (F := 420) (I := c) rfl rfl (icL (j := 10) hc rfl) rfl ?_
  refine zPs (pc1 := 7) (l1 := [(0, .ref (166 + 2 * c)), (1, .ref (46 + 4 * m)), (2, .int t)]) (st1 := [.ref (46 + 4 * m), .ref (166 + 2 * c)]) 2 rfl rfl rfl ?_
  refine zGetI (F := 442) (I := m) (v := l 442 m) rfl rfl (icN (j := 12) hm rfl) rfl ?_
  refine zPutI (F := 320) (I := c) rfl rfl (icL (j := 11) hc rfl) rfl ?_
  refine zPs (pc1 := 15) (l1 := [(0, .ref (166 + 2 * c)), (1, .ref (46 + 4 * m)), (2, .int t)]) (st1 := [.ref (46 + 4 * m), .ref (166 + 2 * c)]) 2 rfl rfl rfl ?_
  refine zGetI (F := 443) (I := m) (v := l 443 m) rfl rfl (icN (j := 13) hm rfl) rfl ?_
  refine zPutI (F := 321) (I := c) rfl rfl (icL (j := 12) hc rfl) rfl ?_
  refine zPs (pc1 := 23) (l1 := [(0, .ref (166 + 2 * c)), (1, .ref (46 + 4 * m)), (2, .int t)]) (st1 := [.int t, .ref (166 + 2 * c)]) 2 rfl rfl rfl ?_
  refine zPutI (F := 322) (I := c) rfl rfl (icL (j := 13) hc rfl) rfl ?_
  refine zRv rfl rfl ?_
  exact k
theorem ci_17 {l : Sg} {n : Nat} {c : Nat} {m : Nat} {t : Int32} (h : CI l n) : CI (f_17 c m t l) n := by
  unfold f_17
  (repeat' first | with_reducible exact h | with_reducible refine CI_ite ?_ ?_ | with_reducible refine CI_ite2 ?_ ?_ | with_reducible refine CI_ite3 ?_ ?_ | with_reducible refine CI_bnd ?_ | with_reducible refine CI_bnd' ?_ | with_reducible refine CI_bnd3 ?_ | with_reducible refine CI_bnd2 ?_ | with_reducible refine CI_bnd2' ?_ | with_reducible refine CI_bnd23 ?_ | with_reducible refine CI_up ?_ ?_ | with_reducible refine ci_1 ?_ | with_reducible refine ci_2 ?_) <;> rfl
noncomputable def f_18 (c : Nat) (l : Sg) : Sg := (up2 (up2 l 420 c (0 : Int32)) 318 c (0 : Int32))
theorem e_18 {l : Sg} {P : MO → Sg → Prop} {c : Nat} (hc : c < 60) (k : Rk (Qm P) (f_18 c l)) : Es false 18 [.ref (166 + 2 * c)] l P := by
  unfold f_18 at k
  refine Es.of ?_
  refine zPs (pc1 := 2) (l1 := [(0, .ref (166 + 2 * c))]) (st1 := [.int (0 : Int32), .ref (166 + 2 * c)]) 2 rfl rfl rfl ?_
  refine zPutI (F := 420) (I := c) rfl rfl (icL (j := 10) hc rfl) rfl ?_
  refine zPs (pc1 := 7) (l1 := [(0, .ref (166 + 2 * c))]) (st1 := [.int (0 : Int32), .ref (166 + 2 * c)]) 2 rfl rfl rfl ?_
  refine zPutI (F := 318) (I := c) rfl rfl (icL (j := 17) hc rfl) rfl ?_
  refine zRv rfl rfl ?_
  exact k
theorem ci_18 {l : Sg} {n : Nat} {c : Nat} (h : CI l n) : CI (f_18 c l) n := by
  unfold f_18
  (repeat' first | with_reducible exact h | with_reducible refine CI_ite ?_ ?_ | with_reducible refine CI_ite2 ?_ ?_ | with_reducible refine CI_ite3 ?_ ?_ | with_reducible refine CI_bnd ?_ | with_reducible refine CI_bnd' ?_ | with_reducible refine CI_bnd3 ?_ | with_reducible refine CI_bnd2 ?_ | with_reducible refine CI_bnd2' ?_ | with_reducible refine CI_bnd23 ?_ | with_reducible refine CI_up ?_ ?_ | with_reducible refine ci_1 ?_ | with_reducible refine ci_2 ?_ | with_reducible refine ci_17 ?_) <;> rfl
noncomputable def f_19 (c : Nat) (t : Int32) (l : Sg) : Sg := (up2 (up2 (up2 l 314 c (1 : Int32)) 418 c (0 : Int32)) 316 c t)
theorem e_19 {l : Sg} {P : MO → Sg → Prop} {c : Nat} {t : Int32} (hc : c < 60) (k : Rk (Qm P) (f_19 c t l)) : Es false 19 [.ref (166 + 2 * c), .int t] l P := by
  unfold f_19 at k
  refine Es.of ?_
  refine zPs (pc1 := 2) (l1 := [(0, .ref (166 + 2 * c)), (1, .int t)]) (st1 := [.int (1 : Int32), .ref (166 + 2 * c)]) 2 rfl rfl rfl ?_
  refine zPutI (F := 314) (I := c) rfl rfl (icL (j := 7) hc rfl) rfl ?_
  refine zPs (pc1 := 7) (l1 := [(0, .ref (166 + 2 * c)), (1, .int t)]) (st1 := [.int (0 : Int32), .ref (166 + 2 * c)]) 2 rfl rfl rfl ?_
  refine zPutI (F := 418) (I := c) rfl rfl (icL (j := 8) hc rfl) rfl ?_
  refine zPs (pc1 := 12) (l1 := [(0, .ref (166 + 2 * c)), (1, .int t)]) (st1 := [.int t, .ref (166 + 2 * c)]) 2 rfl rfl rfl ?_
  refine zPutI (F := 316) (I := c) rfl rfl (icL (j := 5) hc rfl) rfl ?_
  refine zRv rfl rfl ?_
  exact k
theorem ci_19 {l : Sg} {n : Nat} {c : Nat} {t : Int32} (h : CI l n) : CI (f_19 c t l) n := by
  unfold f_19
  (repeat' first | with_reducible exact h | with_reducible refine CI_ite ?_ ?_ | with_reducible refine CI_ite2 ?_ ?_ | with_reducible refine CI_ite3 ?_ ?_ | with_reducible refine CI_bnd ?_ | with_reducible refine CI_bnd' ?_ | with_reducible refine CI_bnd3 ?_ | with_reducible refine CI_bnd2 ?_ | with_reducible refine CI_bnd2' ?_ | with_reducible refine CI_bnd23 ?_ | with_reducible refine CI_up ?_ ?_ | with_reducible refine ci_1 ?_ | with_reducible refine ci_2 ?_ | with_reducible refine ci_17 ?_ | with_reducible refine ci_18 ?_) <;> rfl
noncomputable def f_20 (c : Nat) (g : Int32) (t : Int32) (l : Sg) : Sg := (up2 (up2 (up2 l 314 c ((l 314 c * (10 : Int32)) + g)) 418 c (l 418 c + (1 : Int32))) 316 c t)
theorem e_20 {l : Sg} {P : MO → Sg → Prop} {c : Nat} {g : Int32} {t : Int32} (hc : c < 60) (k : Rk (Qm P) (f_20 c g t l)) : Es false 20 [.ref (166 + 2 * c), .int g, .int t] l P := by
  unfold f_20 at k
  refine Es.of ?_
  refine zPs (pc1 := 2) (l1 := [(0, .ref (166 + 2 * c)), (1, .int g), (2, .int t)]) (st1 := [.ref (166 + 2 * c), .ref (166 + 2 * c)]) 2 rfl rfl rfl ?_
  refine zGetI (F := 314) (I := c) (v := l 314 c) rfl rfl (icL (j := 7) hc rfl) rfl ?_
  refine zPs (pc1 := 10) (l1 := [(0, .ref (166 + 2 * c)), (1, .int g), (2, .int t)]) (st1 := [.int ((l 314 c * (10 : Int32)) + g), .ref (166 + 2 * c)]) 4 rfl rfl rfl ?_
  refine zPutI (F := 314) (I := c) rfl rfl (icL (j := 7) hc rfl) rfl ?_
  refine zPs (pc1 := 15) (l1 := [(0, .ref (166 + 2 * c)), (1, .int g), (2, .int t)]) (st1 := [.ref (166 + 2 * c), .ref (166 + 2 * c)]) 2 rfl rfl rfl ?_
  refine zGetI (F := 418) (I := c) (v := l 418 c) rfl rfl (icL (j := 8) hc rfl) rfl ?_
  refine zPs (pc1 := 20) (l1 := [(0, .ref (166 + 2 * c)), (1, .int g), (2, .int t)]) (st1 := [.int (l 418 c + (1 : Int32)), .ref (166 + 2 * c)]) 2 rfl rfl rfl ?_
  refine zPutI (F := 418) (I := c) rfl rfl (icL (j := 8) hc rfl) rfl ?_
  refine zPs (pc1 := 25) (l1 := [(0, .ref (166 + 2 * c)), (1, .int g), (2, .int t)]) (st1 := [.int t, .ref (166 + 2 * c)]) 2 rfl rfl rfl ?_
  refine zPutI (F := 316) (I := c) rfl rfl (icL (j := 5) hc rfl) rfl ?_
  refine zRv rfl rfl ?_
  exact k
theorem ci_20 {l : Sg} {n : Nat} {c : Nat} {g : Int32} {t : Int32} (h : CI l n) : CI (f_20 c g t l) n := by
  unfold f_20
  (repeat' first | with_reducible exact h | with_reducible refine CI_ite ?_ ?_ | with_reducible refine CI_ite2 ?_ ?_ | with_reducible refine CI_ite3 ?_ ?_ | with_reducible refine CI_bnd ?_ | with_reducible refine CI_bnd' ?_ | with_reducible refine CI_bnd3 ?_ | with_reducible refine CI_bnd2 ?_ | with_reducible refine CI_bnd2' ?_ | with_reducible refine CI_bnd23 ?_ | with_reducible refine CI_up ?_ ?_ | with_reducible refine ci_1 ?_ | with_reducible refine ci_2 ?_ | with_reducible refine ci_17 ?_ | with_reducible refine ci_18 ?_ | with_reducible refine ci_19 ?_) <;> rfl
