/-! ===== the law's wrappers ===== -/
theorem e_182 {n : Nat} {l : Sg} {P : MO → Sg → Prop} {x0 x1 x2 : Int32} (hl : n ≤ 60) (hCI : CI l n) (k : Rk (Qb P) (wv 182 (f_31 n x0 x1 x2 l))) : Es false 182 [.ref 0, .int x0, .int x1, .int x2] l P := by
  refine Es.of ?_
  refine zPs (pc1 := 4) (l1 := [(0, .ref 0), (1, .int x0), (2, .int x1), (3, .int x2)]) (st1 := [.int x2, .int x1, .int x0, .ref 0]) 4 rfl rfl rfl ?_
  refine zCvH (mj := 31) (k := 0) (n := 3) rfl rfl rfl rfl (by decide) rfl rfl rfl rfl rfl rfl rfl ?_
  refine e_31 hl hCI ?_
  have hx : ∀ x, (f_31 n x0 x1 x2 l).1 = .inr x → hs 182 x = true := x_31
  generalize f_31 n x0 x1 x2 l = r at k hx ⊢
  obtain ⟨o, l1⟩ := r
  cases o with
  | inr x => exact hs_exV (hx x rfl) k
  | inl v1 =>
    refine kHV ?_
    refine zPs (pc1 := 23) (l1 := [(0, .ref 0), (1, .int x0), (2, .int x1), (3, .int x2)]) (st1 := [.int (0 : Int32)]) 2 rfl rfl rfl ?_
    refine zRi rfl rfl ?_
    exact k
theorem e_183 {n : Nat} {l : Sg} {P : MO → Sg → Prop} {x0 : Int32} (hl : n ≤ 60) (hCI : CI l n) (k : Rk (Qb P) (wv 183 (f_32 n x0 l))) : Es false 183 [.ref 0, .int x0] l P := by
  refine Es.of ?_
  refine zPs (pc1 := 2) (l1 := [(0, .ref 0), (1, .int x0)]) (st1 := [.int x0, .ref 0]) 2 rfl rfl rfl ?_
  refine zCvH (mj := 32) (k := 0) (n := 1) rfl rfl rfl rfl (by decide) rfl rfl rfl rfl rfl rfl rfl ?_
  refine e_32 hl hCI ?_
  have hx : ∀ x, (f_32 n x0 l).1 = .inr x → hs 183 x = true := x_32
  generalize f_32 n x0 l = r at k hx ⊢
  obtain ⟨o, l1⟩ := r
  cases o with
  | inr x => exact hs_exV (hx x rfl) k
  | inl v1 =>
    refine kHV ?_
    refine zPs (pc1 := 15) (l1 := [(0, .ref 0), (1, .int x0)]) (st1 := [.int (0 : Int32)]) 2 rfl rfl rfl ?_
    refine zRi rfl rfl ?_
    exact k
theorem e_184 {n : Nat} {l : Sg} {P : MO → Sg → Prop} {x0 x1 x2 : Int32} (hl : n ≤ 60) (hCI : CI l n) (k : Rk (Qb P) (wo 184 (f_33 n x0 x1 x2 l))) : Es false 184 [.ref 0, .int x0, .int x1, .int x2, .ref 332] l P := by
  refine Es.of ?_
  refine zPs (pc1 := 7) (l1 := [(0, .ref 0), (1, .int x0), (2, .int x1), (3, .int x2), (4, .ref 332)]) (st1 := [.int x2, .int x1, .int x0, .ref 0, .int (0 : Int32), .ref 332]) 6 rfl rfl rfl ?_
  refine zCvH (mj := 33) (k := 0) (n := 3) rfl rfl rfl rfl (by decide) rfl rfl rfl rfl rfl rfl rfl ?_
  refine e_33 hl hCI ?_
  have hx : ∀ x, (f_33 n x0 x1 x2 l).1 = .inr x → hs 184 x = true := x_33
  generalize f_33 n x0 x1 x2 l = r at k hx ⊢
  obtain ⟨o, l1⟩ := r
  cases o with
  | inr x => exact hs_exI (hx x rfl) k
  | inl v1 =>
    refine kHI ?_
    refine zPs (pc1 := 11) (l1 := [(0, .ref 0), (1, .int x0), (2, .int x1), (3, .int x2), (4, .ref 332)]) (st1 := [.long v1.toInt64, .int (0 : Int32), .ref 332]) 1 rfl rfl rfl ?_
    refine zLas (x := v1) rfl rfl ?_
    refine zPs (pc1 := 28) (l1 := [(0, .ref 0), (1, .int x0), (2, .int x1), (3, .int x2), (4, .ref 332)]) (st1 := [.int (0 : Int32)]) 2 rfl rfl rfl ?_
    refine zRi rfl rfl ?_
    exact k
theorem e_185 {n : Nat} {l : Sg} {P : MO → Sg → Prop} {x0 x1 x2 x3 : Int32} (hl : n ≤ 60) (hCI : CI l n) (k : Rk (Qb P) (wv 185 (f_34 n x0 x1 x2 x3 l))) : Es false 185 [.ref 0, .int x0, .int x1, .int x2, .int x3] l P := by
  refine Es.of ?_
  refine zPs (pc1 := 6) (l1 := [(0, .ref 0), (1, .int x0), (2, .int x1), (3, .int x2), (4, .int x3)]) (st1 := [.int x3, .int x2, .int x1, .int x0, .ref 0]) 5 rfl rfl rfl ?_
  refine zCvH (mj := 34) (k := 0) (n := 4) rfl rfl rfl rfl (by decide) rfl rfl rfl rfl rfl rfl rfl ?_
  refine e_34 hl hCI ?_
  have hx : ∀ x, (f_34 n x0 x1 x2 x3 l).1 = .inr x → hs 185 x = true := x_34
  generalize f_34 n x0 x1 x2 x3 l = r at k hx ⊢
  obtain ⟨o, l1⟩ := r
  cases o with
  | inr x => exact hs_exV (hx x rfl) k
  | inl v1 =>
    refine kHV ?_
    refine zPs (pc1 := 25) (l1 := [(0, .ref 0), (1, .int x0), (2, .int x1), (3, .int x2), (4, .int x3)]) (st1 := [.int (0 : Int32)]) 2 rfl rfl rfl ?_
    refine zRi rfl rfl ?_
    exact k
theorem e_186 {n : Nat} {l : Sg} {P : MO → Sg → Prop} {x0 x1 x2 x3 x4 : Int32} (hl : n ≤ 60) (hCI : CI l n) (k : Rk (Qb P) (wv 186 (f_35 n x0 x1 x2 x3 x4 l))) : Es false 186 [.ref 0, .int x0, .int x1, .int x2, .int x3, .int x4] l P := by
  refine Es.of ?_
  refine zPs (pc1 := 8) (l1 := [(0, .ref 0), (1, .int x0), (2, .int x1), (3, .int x2), (4, .int x3), (5, .int x4)]) (st1 := [.int x4, .int x3, .int x2, .int x1, .int x0, .ref 0]) 6 rfl rfl rfl ?_
  refine zCvH (mj := 35) (k := 0) (n := 5) rfl rfl rfl rfl (by decide) rfl rfl rfl rfl rfl rfl rfl ?_
  refine e_35 hl hCI ?_
  have hx : ∀ x, (f_35 n x0 x1 x2 x3 x4 l).1 = .inr x → hs 186 x = true := x_35
  generalize f_35 n x0 x1 x2 x3 x4 l = r at k hx ⊢
  obtain ⟨o, l1⟩ := r
  cases o with
  | inr x => exact hs_exV (hx x rfl) k
  | inl v1 =>
    refine kHV ?_
    refine zPs (pc1 := 27) (l1 := [(0, .ref 0), (1, .int x0), (2, .int x1), (3, .int x2), (4, .int x3), (5, .int x4)]) (st1 := [.int (0 : Int32)]) 2 rfl rfl rfl ?_
    refine zRi rfl rfl ?_
    exact k
theorem e_187 {n : Nat} {l : Sg} {P : MO → Sg → Prop} {x0 x1 x2 x3 x4 x5 : Int32} (hl : n ≤ 60) (hCI : CI l n) (k : Rk (Qb P) (wv 187 (f_36 n x0 x1 x2 x3 x4 x5 l))) : Es false 187 [.ref 0, .int x0, .int x1, .int x2, .int x3, .int x4, .int x5] l P := by
  refine Es.of ?_
  refine zPs (pc1 := 10) (l1 := [(0, .ref 0), (1, .int x0), (2, .int x1), (3, .int x2), (4, .int x3), (5, .int x4), (6, .int x5)]) (st1 := [.int x5, .int x4, .int x3, .int x2, .int x1, .int x0, .ref 0]) 7 rfl rfl rfl ?_
  refine zCvH (mj := 36) (k := 0) (n := 6) rfl rfl rfl rfl (by decide) rfl rfl rfl rfl rfl rfl rfl ?_
  refine e_36 hl hCI ?_
  have hx : ∀ x, (f_36 n x0 x1 x2 x3 x4 x5 l).1 = .inr x → hs 187 x = true := x_36
  generalize f_36 n x0 x1 x2 x3 x4 x5 l = r at k hx ⊢
  obtain ⟨o, l1⟩ := r
  cases o with
  | inr x => exact hs_exV (hx x rfl) k
  | inl v1 =>
    refine kHV ?_
    refine zPs (pc1 := 29) (l1 := [(0, .ref 0), (1, .int x0), (2, .int x1), (3, .int x2), (4, .int x3), (5, .int x4), (6, .int x5)]) (st1 := [.int (0 : Int32)]) 2 rfl rfl rfl ?_
    refine zRi rfl rfl ?_
    exact k
theorem e_188 {n : Nat} {l : Sg} {P : MO → Sg → Prop} {x0 x1 x2 : Int32} (hl : n ≤ 60) (hCI : CI l n) (k : Rk (Qb P) (wv 188 (f_37 n x0 x1 x2 l))) : Es false 188 [.ref 0, .int x0, .int x1, .int x2] l P := by
  refine Es.of ?_
  refine zPs (pc1 := 4) (l1 := [(0, .ref 0), (1, .int x0), (2, .int x1), (3, .int x2)]) (st1 := [.int x2, .int x1, .int x0, .ref 0]) 4 rfl rfl rfl ?_
  refine zCvH (mj := 37) (k := 0) (n := 3) rfl rfl rfl rfl (by decide) rfl rfl rfl rfl rfl rfl rfl ?_
  refine e_37 hl hCI ?_
  have hx : ∀ x, (f_37 n x0 x1 x2 l).1 = .inr x → hs 188 x = true := x_37
  generalize f_37 n x0 x1 x2 l = r at k hx ⊢
  obtain ⟨o, l1⟩ := r
  cases o with
  | inr x => exact hs_exV (hx x rfl) k
  | inl v1 =>
    refine kHV ?_
    refine zPs (pc1 := 19) (l1 := [(0, .ref 0), (1, .int x0), (2, .int x1), (3, .int x2)]) (st1 := [.int (0 : Int32)]) 2 rfl rfl rfl ?_
    refine zRi rfl rfl ?_
    exact k
theorem e_189 {n : Nat} {l : Sg} {P : MO → Sg → Prop} {x0 : Int32} (hl : n ≤ 60) (hCI : CI l n) (k : Rk (Qb P) (wv 189 (f_38 n x0 l))) : Es false 189 [.ref 0, .int x0] l P := by
  refine Es.of ?_
  refine zPs (pc1 := 2) (l1 := [(0, .ref 0), (1, .int x0)]) (st1 := [.int x0, .ref 0]) 2 rfl rfl rfl ?_
  refine zCvH (mj := 38) (k := 0) (n := 1) rfl rfl rfl rfl (by decide) rfl rfl rfl rfl rfl rfl rfl ?_
  refine e_38 hl hCI ?_
  have hx : ∀ x, (f_38 n x0 l).1 = .inr x → hs 189 x = true := x_38
  generalize f_38 n x0 l = r at k hx ⊢
  obtain ⟨o, l1⟩ := r
  cases o with
  | inr x => exact hs_exV (hx x rfl) k
  | inl v1 =>
    refine kHV ?_
    refine zPs (pc1 := 15) (l1 := [(0, .ref 0), (1, .int x0)]) (st1 := [.int (0 : Int32)]) 2 rfl rfl rfl ?_
    refine zRi rfl rfl ?_
    exact k
theorem e_190 {n : Nat} {l : Sg} {P : MO → Sg → Prop} {x0 x1 x2 x3 x4 x5 : Int32} (hl : n ≤ 60) (hCI : CI l n) (k : Rk (Qb P) (wv 190 (f_39 n x0 x1 x2 x3 x4 x5 l))) : Es false 190 [.ref 0, .int x0, .int x1, .int x2, .int x3, .int x4, .int x5] l P := by
  refine Es.of ?_
  refine zPs (pc1 := 10) (l1 := [(0, .ref 0), (1, .int x0), (2, .int x1), (3, .int x2), (4, .int x3), (5, .int x4), (6, .int x5)]) (st1 := [.int x5, .int x4, .int x3, .int x2, .int x1, .int x0, .ref 0]) 7 rfl rfl rfl ?_
  refine zCvH (mj := 39) (k := 0) (n := 6) rfl rfl rfl rfl (by decide) rfl rfl rfl rfl rfl rfl rfl ?_
  refine e_39 hl hCI ?_
  have hx : ∀ x, (f_39 n x0 x1 x2 x3 x4 x5 l).1 = .inr x → hs 190 x = true := x_39
  generalize f_39 n x0 x1 x2 x3 x4 x5 l = r at k hx ⊢
  obtain ⟨o, l1⟩ := r
  cases o with
  | inr x => exact hs_exV (hx x rfl) k
  | inl v1 =>
    refine kHV ?_
    refine zPs (pc1 := 29) (l1 := [(0, .ref 0), (1, .int x0), (2, .int x1), (3, .int x2), (4, .int x3), (5, .int x4), (6, .int x5)]) (st1 := [.int (0 : Int32)]) 2 rfl rfl rfl ?_
    refine zRi rfl rfl ?_
    exact k
theorem e_191 {n : Nat} {l : Sg} {P : MO → Sg → Prop} {x0 x1 : Int32} (hl : n ≤ 60) (hCI : CI l n) (k : Rk (Qb P) (wv 191 (f_40 n x0 x1 l))) : Es false 191 [.ref 0, .int x0, .int x1] l P := by
  refine Es.of ?_
  refine zPs (pc1 := 3) (l1 := [(0, .ref 0), (1, .int x0), (2, .int x1)]) (st1 := [.int x1, .int x0, .ref 0]) 3 rfl rfl rfl ?_
  refine zCvH (mj := 40) (k := 0) (n := 2) rfl rfl rfl rfl (by decide) rfl rfl rfl rfl rfl rfl rfl ?_
  refine e_40 hl hCI ?_
  have hx : ∀ x, (f_40 n x0 x1 l).1 = .inr x → hs 191 x = true := x_40
  generalize f_40 n x0 x1 l = r at k hx ⊢
  obtain ⟨o, l1⟩ := r
  cases o with
  | inr x => exact hs_exV (hx x rfl) k
  | inl v1 =>
    refine kHV ?_
    refine zPs (pc1 := 16) (l1 := [(0, .ref 0), (1, .int x0), (2, .int x1)]) (st1 := [.int (0 : Int32)]) 2 rfl rfl rfl ?_
    refine zRi rfl rfl ?_
    exact k
theorem e_192 {n : Nat} {l : Sg} {P : MO → Sg → Prop} {x0 : Int32} (hl : n ≤ 60) (hCI : CI l n) (k : Rk (Qb P) (wv 192 (f_41 n x0 l))) : Es false 192 [.ref 0, .int x0] l P := by
  refine Es.of ?_
  refine zPs (pc1 := 2) (l1 := [(0, .ref 0), (1, .int x0)]) (st1 := [.int x0, .ref 0]) 2 rfl rfl rfl ?_
  refine zCvH (mj := 41) (k := 0) (n := 1) rfl rfl rfl rfl (by decide) rfl rfl rfl rfl rfl rfl rfl ?_
  refine e_41 hl hCI ?_
  have hx : ∀ x, (f_41 n x0 l).1 = .inr x → hs 192 x = true := x_41
  generalize f_41 n x0 l = r at k hx ⊢
  obtain ⟨o, l1⟩ := r
  cases o with
  | inr x => exact hs_exV (hx x rfl) k
  | inl v1 =>
    refine kHV ?_
    refine zPs (pc1 := 15) (l1 := [(0, .ref 0), (1, .int x0)]) (st1 := [.int (0 : Int32)]) 2 rfl rfl rfl ?_
    refine zRi rfl rfl ?_
    exact k
theorem e_193 {n : Nat} {l : Sg} {P : MO → Sg → Prop} {x0 x1 x2 : Int32} (hl : n ≤ 60) (hCI : CI l n) (k : Rk (Qb P) (wv 193 (f_42 n x0 x1 x2 l))) : Es false 193 [.ref 0, .int x0, .int x1, .int x2] l P := by
  refine Es.of ?_
  refine zPs (pc1 := 4) (l1 := [(0, .ref 0), (1, .int x0), (2, .int x1), (3, .int x2)]) (st1 := [.int x2, .int x1, .int x0, .ref 0]) 4 rfl rfl rfl ?_
  refine zCvH (mj := 42) (k := 0) (n := 3) rfl rfl rfl rfl (by decide) rfl rfl rfl rfl rfl rfl rfl ?_
  refine e_42 hl hCI ?_
  have hx : ∀ x, (f_42 n x0 x1 x2 l).1 = .inr x → hs 193 x = true := x_42
  generalize f_42 n x0 x1 x2 l = r at k hx ⊢
  obtain ⟨o, l1⟩ := r
  cases o with
  | inr x => exact hs_exV (hx x rfl) k
  | inl v1 =>
    refine kHV ?_
    refine zPs (pc1 := 15) (l1 := [(0, .ref 0), (1, .int x0), (2, .int x1), (3, .int x2)]) (st1 := [.int (0 : Int32)]) 2 rfl rfl rfl ?_
    refine zRi rfl rfl ?_
    exact k
theorem e_195 {n : Nat} {l : Sg} {P : MO → Sg → Prop} {x0 : Int32} (hl : n ≤ 60) (hCI : CI l n) (k : Rk (Qb P) (wo 195 (f_45 n x0 l))) : Es false 195 [.ref 0, .int x0, .ref 332] l P := by
  refine Es.of ?_
  refine zPs (pc1 := 4) (l1 := [(0, .ref 0), (1, .int x0), (2, .ref 332)]) (st1 := [.int x0, .ref 0, .int (0 : Int32), .ref 332]) 4 rfl rfl rfl ?_
  refine zCvH (mj := 45) (k := 0) (n := 1) rfl rfl rfl rfl (by decide) rfl rfl rfl rfl rfl rfl rfl ?_
  refine e_45 hl hCI ?_
  have hx : ∀ x, (f_45 n x0 l).1 = .inr x → hs 195 x = true := x_45
  generalize f_45 n x0 l = r at k hx ⊢
  obtain ⟨o, l1⟩ := r
  cases o with
  | inr x => exact hs_exI (hx x rfl) k
  | inl v1 =>
    refine kHI ?_
    refine zPs (pc1 := 8) (l1 := [(0, .ref 0), (1, .int x0), (2, .ref 332)]) (st1 := [.long v1.toInt64, .int (0 : Int32), .ref 332]) 1 rfl rfl rfl ?_
    refine zLas (x := v1) rfl rfl ?_
    refine zPs (pc1 := 19) (l1 := [(0, .ref 0), (1, .int x0), (2, .ref 332)]) (st1 := [.int (0 : Int32)]) 2 rfl rfl rfl ?_
    refine zRi rfl rfl ?_
    exact k
theorem e_196 {n : Nat} {l : Sg} {P : MO → Sg → Prop} {x0 x1 : Int32} (hl : n ≤ 60) (hCI : CI l n) (k : Rk (Qb P) (wo 196 (f_46 n x0 x1 l))) : Es false 196 [.ref 0, .int x0, .int x1, .ref 332] l P := by
  refine Es.of ?_
  refine zPs (pc1 := 5) (l1 := [(0, .ref 0), (1, .int x0), (2, .int x1), (3, .ref 332)]) (st1 := [.int x1, .int x0, .ref 0, .int (0 : Int32), .ref 332]) 5 rfl rfl rfl ?_
  refine zCvH (mj := 46) (k := 0) (n := 2) rfl rfl rfl rfl (by decide) rfl rfl rfl rfl rfl rfl rfl ?_
  refine e_46 hl hCI ?_
  have hx : ∀ x, (f_46 n x0 x1 l).1 = .inr x → hs 196 x = true := x_46
  generalize f_46 n x0 x1 l = r at k hx ⊢
  obtain ⟨o, l1⟩ := r
  cases o with
  | inr x => exact hs_exI (hx x rfl) k
  | inl v1 =>
    refine kHI ?_
    refine zPs (pc1 := 9) (l1 := [(0, .ref 0), (1, .int x0), (2, .int x1), (3, .ref 332)]) (st1 := [.long v1.toInt64, .int (0 : Int32), .ref 332]) 1 rfl rfl rfl ?_
    refine zLas (x := v1) rfl rfl ?_
    refine zPs (pc1 := 26) (l1 := [(0, .ref 0), (1, .int x0), (2, .int x1), (3, .ref 332)]) (st1 := [.int (0 : Int32)]) 2 rfl rfl rfl ?_
    refine zRi rfl rfl ?_
    exact k
theorem e_197 {n : Nat} {l : Sg} {P : MO → Sg → Prop} {x0 : Int32} (hl : n ≤ 60) (hCI : CI l n) (k : Rk (Qb P) (wo 197 (f_47 n x0 l))) : Es false 197 [.ref 0, .int x0, .ref 332] l P := by
  refine Es.of ?_
  refine zPs (pc1 := 4) (l1 := [(0, .ref 0), (1, .int x0), (2, .ref 332)]) (st1 := [.int x0, .ref 0, .int (0 : Int32), .ref 332]) 4 rfl rfl rfl ?_
  refine zCvH (mj := 47) (k := 0) (n := 1) rfl rfl rfl rfl (by decide) rfl rfl rfl rfl rfl rfl rfl ?_
  refine e_47 hl hCI ?_
  have hx : ∀ x, (f_47 n x0 l).1 = .inr x → hs 197 x = true := x_47
  generalize f_47 n x0 l = r at k hx ⊢
  obtain ⟨o, l1⟩ := r
  cases o with
  | inr x => exact hs_exI (hx x rfl) k
  | inl v1 =>
    refine kHI ?_
    refine zPs (pc1 := 8) (l1 := [(0, .ref 0), (1, .int x0), (2, .ref 332)]) (st1 := [.long v1.toInt64, .int (0 : Int32), .ref 332]) 1 rfl rfl rfl ?_
    refine zLas (x := v1) rfl rfl ?_
    refine zPs (pc1 := 19) (l1 := [(0, .ref 0), (1, .int x0), (2, .ref 332)]) (st1 := [.int (0 : Int32)]) 2 rfl rfl rfl ?_
    refine zRi rfl rfl ?_
    exact k
theorem e_198 {n : Nat} {l : Sg} {P : MO → Sg → Prop} {x0 : Int32} (hl : n ≤ 60) (hCI : CI l n) (k : Rk (Qb P) (wo 198 (f_48 n x0 l))) : Es false 198 [.ref 0, .int x0, .ref 332] l P := by
  refine Es.of ?_
  refine zPs (pc1 := 4) (l1 := [(0, .ref 0), (1, .int x0), (2, .ref 332)]) (st1 := [.int x0, .ref 0, .int (0 : Int32), .ref 332]) 4 rfl rfl rfl ?_
  refine zCvH (mj := 48) (k := 0) (n := 1) rfl rfl rfl rfl (by decide) rfl rfl rfl rfl rfl rfl rfl ?_
  refine e_48 hl hCI ?_
  have hx : ∀ x, (f_48 n x0 l).1 = .inr x → hs 198 x = true := x_48
  generalize f_48 n x0 l = r at k hx ⊢
  obtain ⟨o, l1⟩ := r
  cases o with
  | inr x => exact hs_exI (hx x rfl) k
  | inl v1 =>
    refine kHI ?_
    refine zPs (pc1 := 8) (l1 := [(0, .ref 0), (1, .int x0), (2, .ref 332)]) (st1 := [.long v1.toInt64, .int (0 : Int32), .ref 332]) 1 rfl rfl rfl ?_
    refine zLas (x := v1) rfl rfl ?_
    refine zPs (pc1 := 19) (l1 := [(0, .ref 0), (1, .int x0), (2, .ref 332)]) (st1 := [.int (0 : Int32)]) 2 rfl rfl rfl ?_
    refine zRi rfl rfl ?_
    exact k
theorem e_199 {n : Nat} {l : Sg} {P : MO → Sg → Prop} {x0 x1 : Int32} (hl : n ≤ 60) (hCI : CI l n) (k : Rk (Qb P) (wo 199 (f_49 n x0 x1 l))) : Es false 199 [.ref 0, .int x0, .int x1, .ref 332] l P := by
  refine Es.of ?_
  refine zPs (pc1 := 5) (l1 := [(0, .ref 0), (1, .int x0), (2, .int x1), (3, .ref 332)]) (st1 := [.int x1, .int x0, .ref 0, .int (0 : Int32), .ref 332]) 5 rfl rfl rfl ?_
  refine zCvH (mj := 49) (k := 0) (n := 2) rfl rfl rfl rfl (by decide) rfl rfl rfl rfl rfl rfl rfl ?_
  refine e_49 hl hCI ?_
  have hx : ∀ x, (f_49 n x0 x1 l).1 = .inr x → hs 199 x = true := x_49
  generalize f_49 n x0 x1 l = r at k hx ⊢
  obtain ⟨o, l1⟩ := r
  cases o with
  | inr x => exact hs_exI (hx x rfl) k
  | inl v1 =>
    refine kHI ?_
    refine zPs (pc1 := 9) (l1 := [(0, .ref 0), (1, .int x0), (2, .int x1), (3, .ref 332)]) (st1 := [.long v1.toInt64, .int (0 : Int32), .ref 332]) 1 rfl rfl rfl ?_
    refine zLas (x := v1) rfl rfl ?_
    refine zPs (pc1 := 26) (l1 := [(0, .ref 0), (1, .int x0), (2, .int x1), (3, .ref 332)]) (st1 := [.int (0 : Int32)]) 2 rfl rfl rfl ?_
    refine zRi rfl rfl ?_
    exact k
theorem e_200 {n : Nat} {l : Sg} {P : MO → Sg → Prop} {x0 : Int32} (hl : n ≤ 60) (hCI : CI l n) (k : Rk (Qb P) (wo 200 (f_50 n x0 l))) : Es false 200 [.ref 0, .int x0, .ref 332] l P := by
  refine Es.of ?_
  refine zPs (pc1 := 4) (l1 := [(0, .ref 0), (1, .int x0), (2, .ref 332)]) (st1 := [.int x0, .ref 0, .int (0 : Int32), .ref 332]) 4 rfl rfl rfl ?_
  refine zCvH (mj := 50) (k := 0) (n := 1) rfl rfl rfl rfl (by decide) rfl rfl rfl rfl rfl rfl rfl ?_
  refine e_50 hl hCI ?_
  have hx : ∀ x, (f_50 n x0 l).1 = .inr x → hs 200 x = true := x_50
  generalize f_50 n x0 l = r at k hx ⊢
  obtain ⟨o, l1⟩ := r
  cases o with
  | inr x => exact hs_exI (hx x rfl) k
  | inl v1 =>
    refine kHI ?_
    refine zPs (pc1 := 8) (l1 := [(0, .ref 0), (1, .int x0), (2, .ref 332)]) (st1 := [.long v1.toInt64, .int (0 : Int32), .ref 332]) 1 rfl rfl rfl ?_
    refine zLas (x := v1) rfl rfl ?_
    refine zPs (pc1 := 19) (l1 := [(0, .ref 0), (1, .int x0), (2, .ref 332)]) (st1 := [.int (0 : Int32)]) 2 rfl rfl rfl ?_
    refine zRi rfl rfl ?_
    exact k
theorem e_201 {n : Nat} {l : Sg} {P : MO → Sg → Prop} {x0 x1 : Int32} (hl : n ≤ 60) (hCI : CI l n) (k : Rk (Qb P) (wo 201 (f_51 n x0 x1 l))) : Es false 201 [.ref 0, .int x0, .int x1, .ref 332] l P := by
  refine Es.of ?_
  refine zPs (pc1 := 5) (l1 := [(0, .ref 0), (1, .int x0), (2, .int x1), (3, .ref 332)]) (st1 := [.int x1, .int x0, .ref 0, .int (0 : Int32), .ref 332]) 5 rfl rfl rfl ?_
  refine zCvH (mj := 51) (k := 0) (n := 2) rfl rfl rfl rfl (by decide) rfl rfl rfl rfl rfl rfl rfl ?_
  refine e_51 hl hCI ?_
  have hx : ∀ x, (f_51 n x0 x1 l).1 = .inr x → hs 201 x = true := x_51
  generalize f_51 n x0 x1 l = r at k hx ⊢
  obtain ⟨o, l1⟩ := r
  cases o with
  | inr x => exact hs_exI (hx x rfl) k
  | inl v1 =>
    refine kHI ?_
    refine zPs (pc1 := 9) (l1 := [(0, .ref 0), (1, .int x0), (2, .int x1), (3, .ref 332)]) (st1 := [.long v1.toInt64, .int (0 : Int32), .ref 332]) 1 rfl rfl rfl ?_
    refine zLas (x := v1) rfl rfl ?_
    refine zPs (pc1 := 22) (l1 := [(0, .ref 0), (1, .int x0), (2, .int x1), (3, .ref 332)]) (st1 := [.int (0 : Int32)]) 2 rfl rfl rfl ?_
    refine zRi rfl rfl ?_
    exact k
theorem e_202 {n : Nat} {l : Sg} {P : MO → Sg → Prop} {x0 : Int32} (hl : n ≤ 60) (hCI : CI l n) (k : Rk (Qb P) (wo 202 (f_52 n x0 l))) : Es false 202 [.ref 0, .int x0, .ref 332] l P := by
  refine Es.of ?_
  refine zPs (pc1 := 4) (l1 := [(0, .ref 0), (1, .int x0), (2, .ref 332)]) (st1 := [.int x0, .ref 0, .int (0 : Int32), .ref 332]) 4 rfl rfl rfl ?_
  refine zCvH (mj := 52) (k := 0) (n := 1) rfl rfl rfl rfl (by decide) rfl rfl rfl rfl rfl rfl rfl ?_
  refine e_52 hl hCI ?_
  have hx : ∀ x, (f_52 n x0 l).1 = .inr x → hs 202 x = true := x_52
  generalize f_52 n x0 l = r at k hx ⊢
  obtain ⟨o, l1⟩ := r
  cases o with
  | inr x => exact hs_exI (hx x rfl) k
  | inl v1 =>
    refine kHI ?_
    refine zPs (pc1 := 8) (l1 := [(0, .ref 0), (1, .int x0), (2, .ref 332)]) (st1 := [.long v1.toInt64, .int (0 : Int32), .ref 332]) 1 rfl rfl rfl ?_
    refine zLas (x := v1) rfl rfl ?_
    refine zPs (pc1 := 19) (l1 := [(0, .ref 0), (1, .int x0), (2, .ref 332)]) (st1 := [.int (0 : Int32)]) 2 rfl rfl rfl ?_
    refine zRi rfl rfl ?_
    exact k
theorem e_203 {n : Nat} {l : Sg} {P : MO → Sg → Prop} {x0 x1 : Int32} (hl : n ≤ 60) (hCI : CI l n) (k : Rk (Qb P) (wo 203 (f_53 n x0 x1 l))) : Es false 203 [.ref 0, .int x0, .int x1, .ref 332] l P := by
  refine Es.of ?_
  refine zPs (pc1 := 5) (l1 := [(0, .ref 0), (1, .int x0), (2, .int x1), (3, .ref 332)]) (st1 := [.int x1, .int x0, .ref 0, .int (0 : Int32), .ref 332]) 5 rfl rfl rfl ?_
  refine zCvH (mj := 53) (k := 0) (n := 2) rfl rfl rfl rfl (by decide) rfl rfl rfl rfl rfl rfl rfl ?_
  refine e_53 hl hCI ?_
  have hx : ∀ x, (f_53 n x0 x1 l).1 = .inr x → hs 203 x = true := x_53
  generalize f_53 n x0 x1 l = r at k hx ⊢
  obtain ⟨o, l1⟩ := r
  cases o with
  | inr x => exact hs_exI (hx x rfl) k
  | inl v1 =>
    refine kHI ?_
    refine zPs (pc1 := 9) (l1 := [(0, .ref 0), (1, .int x0), (2, .int x1), (3, .ref 332)]) (st1 := [.long v1.toInt64, .int (0 : Int32), .ref 332]) 1 rfl rfl rfl ?_
    refine zLas (x := v1) rfl rfl ?_
    refine zPs (pc1 := 22) (l1 := [(0, .ref 0), (1, .int x0), (2, .int x1), (3, .ref 332)]) (st1 := [.int (0 : Int32)]) 2 rfl rfl rfl ?_
    refine zRi rfl rfl ?_
    exact k
theorem e_204 {n : Nat} {l : Sg} {P : MO → Sg → Prop} {x0 : Int32} (hl : n ≤ 60) (hCI : CI l n) (k : Rk (Qb P) (wo 204 (f_54 n x0 l))) : Es false 204 [.ref 0, .int x0, .ref 332] l P := by
  refine Es.of ?_
  refine zPs (pc1 := 4) (l1 := [(0, .ref 0), (1, .int x0), (2, .ref 332)]) (st1 := [.int x0, .ref 0, .int (0 : Int32), .ref 332]) 4 rfl rfl rfl ?_
  refine zCvH (mj := 54) (k := 0) (n := 1) rfl rfl rfl rfl (by decide) rfl rfl rfl rfl rfl rfl rfl ?_
  refine e_54 hl hCI ?_
  have hx : ∀ x, (f_54 n x0 l).1 = .inr x → hs 204 x = true := x_54
  generalize f_54 n x0 l = r at k hx ⊢
  obtain ⟨o, l1⟩ := r
  cases o with
  | inr x => exact hs_exI (hx x rfl) k
  | inl v1 =>
    refine kHI ?_
    refine zPs (pc1 := 8) (l1 := [(0, .ref 0), (1, .int x0), (2, .ref 332)]) (st1 := [.long v1.toInt64, .int (0 : Int32), .ref 332]) 1 rfl rfl rfl ?_
    refine zLas (x := v1) rfl rfl ?_
    refine zPs (pc1 := 19) (l1 := [(0, .ref 0), (1, .int x0), (2, .ref 332)]) (st1 := [.int (0 : Int32)]) 2 rfl rfl rfl ?_
    refine zRi rfl rfl ?_
    exact k
theorem e_205 {n : Nat} {l : Sg} {P : MO → Sg → Prop} {x0 : Int32} (hl : n ≤ 60) (hCI : CI l n) (k : Rk (Qb P) (wo 205 (f_56 n x0 l))) : Es false 205 [.ref 0, .int x0, .ref 332] l P := by
  refine Es.of ?_
  refine zPs (pc1 := 4) (l1 := [(0, .ref 0), (1, .int x0), (2, .ref 332)]) (st1 := [.int x0, .ref 0, .int (0 : Int32), .ref 332]) 4 rfl rfl rfl ?_
  refine zCvH (mj := 56) (k := 0) (n := 1) rfl rfl rfl rfl (by decide) rfl rfl rfl rfl rfl rfl rfl ?_
  refine e_56 hl hCI ?_
  have hx : ∀ x, (f_56 n x0 l).1 = .inr x → hs 205 x = true := x_56
  generalize f_56 n x0 l = r at k hx ⊢
  obtain ⟨o, l1⟩ := r
  cases o with
  | inr x => exact hs_exI (hx x rfl) k
  | inl v1 =>
    refine kHI ?_
    refine zPs (pc1 := 8) (l1 := [(0, .ref 0), (1, .int x0), (2, .ref 332)]) (st1 := [.long v1.toInt64, .int (0 : Int32), .ref 332]) 1 rfl rfl rfl ?_
    refine zLas (x := v1) rfl rfl ?_
    refine zPs (pc1 := 16) (l1 := [(0, .ref 0), (1, .int x0), (2, .ref 332)]) (st1 := [.int (0 : Int32)]) 2 rfl rfl rfl ?_
    refine zRi rfl rfl ?_
    exact k
theorem e_206 {n : Nat} {l : Sg} {P : MO → Sg → Prop} {x0 : Int32} (hl : n ≤ 60) (hCI : CI l n) (k : Rk (Qb P) (wo 206 (f_57 n x0 l))) : Es false 206 [.ref 0, .int x0, .ref 332] l P := by
  refine Es.of ?_
  refine zPs (pc1 := 4) (l1 := [(0, .ref 0), (1, .int x0), (2, .ref 332)]) (st1 := [.int x0, .ref 0, .int (0 : Int32), .ref 332]) 4 rfl rfl rfl ?_
  refine zCvH (mj := 57) (k := 0) (n := 1) rfl rfl rfl rfl (by decide) rfl rfl rfl rfl rfl rfl rfl ?_
  refine e_57 hl hCI ?_
  have hx : ∀ x, (f_57 n x0 l).1 = .inr x → hs 206 x = true := x_57
  generalize f_57 n x0 l = r at k hx ⊢
  obtain ⟨o, l1⟩ := r
  cases o with
  | inr x => exact hs_exI (hx x rfl) k
  | inl v1 =>
    refine kHI ?_
    refine zPs (pc1 := 8) (l1 := [(0, .ref 0), (1, .int x0), (2, .ref 332)]) (st1 := [.long v1.toInt64, .int (0 : Int32), .ref 332]) 1 rfl rfl rfl ?_
    refine zLas (x := v1) rfl rfl ?_
    refine zPs (pc1 := 16) (l1 := [(0, .ref 0), (1, .int x0), (2, .ref 332)]) (st1 := [.int (0 : Int32)]) 2 rfl rfl rfl ?_
    refine zRi rfl rfl ?_
    exact k
theorem e_207 {n : Nat} {l : Sg} {P : MO → Sg → Prop} {x0 : Int32} (hl : n ≤ 60) (hCI : CI l n) (k : Rk (Qb P) (wo 207 (f_58 n x0 l))) : Es false 207 [.ref 0, .int x0, .ref 332] l P := by
  refine Es.of ?_
  refine zPs (pc1 := 4) (l1 := [(0, .ref 0), (1, .int x0), (2, .ref 332)]) (st1 := [.int x0, .ref 0, .int (0 : Int32), .ref 332]) 4 rfl rfl rfl ?_
  refine zCvH (mj := 58) (k := 0) (n := 1) rfl rfl rfl rfl (by decide) rfl rfl rfl rfl rfl rfl rfl ?_
  refine e_58 hl hCI ?_
  have hx : ∀ x, (f_58 n x0 l).1 = .inr x → hs 207 x = true := x_58
  generalize f_58 n x0 l = r at k hx ⊢
  obtain ⟨o, l1⟩ := r
  cases o with
  | inr x => exact hs_exI (hx x rfl) k
  | inl v1 =>
    refine kHI ?_
    refine zPs (pc1 := 8) (l1 := [(0, .ref 0), (1, .int x0), (2, .ref 332)]) (st1 := [.long v1.toInt64, .int (0 : Int32), .ref 332]) 1 rfl rfl rfl ?_
    refine zLas (x := v1) rfl rfl ?_
    refine zPs (pc1 := 16) (l1 := [(0, .ref 0), (1, .int x0), (2, .ref 332)]) (st1 := [.int (0 : Int32)]) 2 rfl rfl rfl ?_
    refine zRi rfl rfl ?_
    exact k
theorem e_208 {n : Nat} {l : Sg} {P : MO → Sg → Prop} {x0 : Int32} (hl : n ≤ 60) (hCI : CI l n) (k : Rk (Qb P) (wo 208 (f_59 n x0 l))) : Es false 208 [.ref 0, .int x0, .ref 332] l P := by
  refine Es.of ?_
  refine zPs (pc1 := 4) (l1 := [(0, .ref 0), (1, .int x0), (2, .ref 332)]) (st1 := [.int x0, .ref 0, .int (0 : Int32), .ref 332]) 4 rfl rfl rfl ?_
  refine zCvH (mj := 59) (k := 0) (n := 1) rfl rfl rfl rfl (by decide) rfl rfl rfl rfl rfl rfl rfl ?_
  refine e_59 hl hCI ?_
  have hx : ∀ x, (f_59 n x0 l).1 = .inr x → hs 208 x = true := x_59
  generalize f_59 n x0 l = r at k hx ⊢
  obtain ⟨o, l1⟩ := r
  cases o with
  | inr x => exact hs_exI (hx x rfl) k
  | inl v1 =>
    refine kHI ?_
    refine zPs (pc1 := 8) (l1 := [(0, .ref 0), (1, .int x0), (2, .ref 332)]) (st1 := [.long v1.toInt64, .int (0 : Int32), .ref 332]) 1 rfl rfl rfl ?_
    refine zLas (x := v1) rfl rfl ?_
    refine zPs (pc1 := 16) (l1 := [(0, .ref 0), (1, .int x0), (2, .ref 332)]) (st1 := [.int (0 : Int32)]) 2 rfl rfl rfl ?_
    refine zRi rfl rfl ?_
    exact k
theorem e_209 {n : Nat} {l : Sg} {P : MO → Sg → Prop} {x0 : Int32} (hl : n ≤ 60) (hCI : CI l n) (k : Rk (Qb P) (wo 209 (f_60 n x0 l))) : Es false 209 [.ref 0, .int x0, .ref 332] l P := by
  refine Es.of ?_
  refine zPs (pc1 := 4) (l1 := [(0, .ref 0), (1, .int x0), (2, .ref 332)]) (st1 := [.int x0, .ref 0, .int (0 : Int32), .ref 332]) 4 rfl rfl rfl ?_
  refine zCvH (mj := 60) (k := 0) (n := 1) rfl rfl rfl rfl (by decide) rfl rfl rfl rfl rfl rfl rfl ?_
  refine e_60 hl hCI ?_
  have hx : ∀ x, (f_60 n x0 l).1 = .inr x → hs 209 x = true := x_60
  generalize f_60 n x0 l = r at k hx ⊢
  obtain ⟨o, l1⟩ := r
  cases o with
  | inr x => exact hs_exI (hx x rfl) k
  | inl v1 =>
    refine kHI ?_
    refine zPs (pc1 := 8) (l1 := [(0, .ref 0), (1, .int x0), (2, .ref 332)]) (st1 := [.long v1.toInt64, .int (0 : Int32), .ref 332]) 1 rfl rfl rfl ?_
    refine zLas (x := v1) rfl rfl ?_
    refine zPs (pc1 := 16) (l1 := [(0, .ref 0), (1, .int x0), (2, .ref 332)]) (st1 := [.int (0 : Int32)]) 2 rfl rfl rfl ?_
    refine zRi rfl rfl ?_
    exact k
theorem e_210 {n : Nat} {l : Sg} {P : MO → Sg → Prop} {x0 : Int32} (hl : n ≤ 60) (hCI : CI l n) (k : Rk (Qb P) (wo 210 (f_61 n x0 l))) : Es false 210 [.ref 0, .int x0, .ref 332] l P := by
  refine Es.of ?_
  refine zPs (pc1 := 4) (l1 := [(0, .ref 0), (1, .int x0), (2, .ref 332)]) (st1 := [.int x0, .ref 0, .int (0 : Int32), .ref 332]) 4 rfl rfl rfl ?_
  refine zCvH (mj := 61) (k := 0) (n := 1) rfl rfl rfl rfl (by decide) rfl rfl rfl rfl rfl rfl rfl ?_
  refine e_61 hl hCI ?_
  have hx : ∀ x, (f_61 n x0 l).1 = .inr x → hs 210 x = true := x_61
  generalize f_61 n x0 l = r at k hx ⊢
  obtain ⟨o, l1⟩ := r
  cases o with
  | inr x => exact hs_exI (hx x rfl) k
  | inl v1 =>
    refine kHI ?_
    refine zPs (pc1 := 8) (l1 := [(0, .ref 0), (1, .int x0), (2, .ref 332)]) (st1 := [.long v1.toInt64, .int (0 : Int32), .ref 332]) 1 rfl rfl rfl ?_
    refine zLas (x := v1) rfl rfl ?_
    refine zPs (pc1 := 16) (l1 := [(0, .ref 0), (1, .int x0), (2, .ref 332)]) (st1 := [.int (0 : Int32)]) 2 rfl rfl rfl ?_
    refine zRi rfl rfl ?_
    exact k
theorem e_211 {n : Nat} {l : Sg} {P : MO → Sg → Prop} {x0 : Int32} (hl : n ≤ 60) (hCI : CI l n) (k : Rk (Qb P) (wo 211 (f_62 n x0 l))) : Es false 211 [.ref 0, .int x0, .ref 332] l P := by
  refine Es.of ?_
  refine zPs (pc1 := 4) (l1 := [(0, .ref 0), (1, .int x0), (2, .ref 332)]) (st1 := [.int x0, .ref 0, .int (0 : Int32), .ref 332]) 4 rfl rfl rfl ?_
  refine zCvH (mj := 62) (k := 0) (n := 1) rfl rfl rfl rfl (by decide) rfl rfl rfl rfl rfl rfl rfl ?_
  refine e_62 hl hCI ?_
  have hx : ∀ x, (f_62 n x0 l).1 = .inr x → hs 211 x = true := x_62
  generalize f_62 n x0 l = r at k hx ⊢
  obtain ⟨o, l1⟩ := r
  cases o with
  | inr x => exact hs_exI (hx x rfl) k
  | inl v1 =>
    refine kHI ?_
    refine zPs (pc1 := 8) (l1 := [(0, .ref 0), (1, .int x0), (2, .ref 332)]) (st1 := [.long v1.toInt64, .int (0 : Int32), .ref 332]) 1 rfl rfl rfl ?_
    refine zLas (x := v1) rfl rfl ?_
    refine zPs (pc1 := 16) (l1 := [(0, .ref 0), (1, .int x0), (2, .ref 332)]) (st1 := [.int (0 : Int32)]) 2 rfl rfl rfl ?_
    refine zRi rfl rfl ?_
    exact k
theorem e_212 {n : Nat} {l : Sg} {P : MO → Sg → Prop} {x0 : Int32} (hl : n ≤ 60) (hCI : CI l n) (k : Rk (Qb P) (wo 212 (f_63 n x0 l))) : Es false 212 [.ref 0, .int x0, .ref 332] l P := by
  refine Es.of ?_
  refine zPs (pc1 := 4) (l1 := [(0, .ref 0), (1, .int x0), (2, .ref 332)]) (st1 := [.int x0, .ref 0, .int (0 : Int32), .ref 332]) 4 rfl rfl rfl ?_
  refine zCvH (mj := 63) (k := 0) (n := 1) rfl rfl rfl rfl (by decide) rfl rfl rfl rfl rfl rfl rfl ?_
  refine e_63 hl hCI ?_
  have hx : ∀ x, (f_63 n x0 l).1 = .inr x → hs 212 x = true := x_63
  generalize f_63 n x0 l = r at k hx ⊢
  obtain ⟨o, l1⟩ := r
  cases o with
  | inr x => exact hs_exI (hx x rfl) k
  | inl v1 =>
    refine kHI ?_
    refine zPs (pc1 := 8) (l1 := [(0, .ref 0), (1, .int x0), (2, .ref 332)]) (st1 := [.long v1.toInt64, .int (0 : Int32), .ref 332]) 1 rfl rfl rfl ?_
    refine zLas (x := v1) rfl rfl ?_
    refine zPs (pc1 := 16) (l1 := [(0, .ref 0), (1, .int x0), (2, .ref 332)]) (st1 := [.int (0 : Int32)]) 2 rfl rfl rfl ?_
    refine zRi rfl rfl ?_
    exact k
theorem e_213 {n : Nat} {l : Sg} {P : MO → Sg → Prop} {x0 : Int32} (hl : n ≤ 60) (hCI : CI l n) (k : Rk (Qb P) (wo 213 (f_64 n x0 l))) : Es false 213 [.ref 0, .int x0, .ref 332] l P := by
  refine Es.of ?_
  refine zPs (pc1 := 4) (l1 := [(0, .ref 0), (1, .int x0), (2, .ref 332)]) (st1 := [.int x0, .ref 0, .int (0 : Int32), .ref 332]) 4 rfl rfl rfl ?_
  refine zCvH (mj := 64) (k := 0) (n := 1) rfl rfl rfl rfl (by decide) rfl rfl rfl rfl rfl rfl rfl ?_
  refine e_64 hl hCI ?_
  have hx : ∀ x, (f_64 n x0 l).1 = .inr x → hs 213 x = true := x_64
  generalize f_64 n x0 l = r at k hx ⊢
  obtain ⟨o, l1⟩ := r
  cases o with
  | inr x => exact hs_exI (hx x rfl) k
  | inl v1 =>
    refine kHI ?_
    refine zPs (pc1 := 8) (l1 := [(0, .ref 0), (1, .int x0), (2, .ref 332)]) (st1 := [.long v1.toInt64, .int (0 : Int32), .ref 332]) 1 rfl rfl rfl ?_
    refine zLas (x := v1) rfl rfl ?_
    refine zPs (pc1 := 16) (l1 := [(0, .ref 0), (1, .int x0), (2, .ref 332)]) (st1 := [.int (0 : Int32)]) 2 rfl rfl rfl ?_
    refine zRi rfl rfl ?_
    exact k
theorem e_214 {n : Nat} {l : Sg} {P : MO → Sg → Prop} {x0 x1 : Int32} (hl : n ≤ 60) (hCI : CI l n) (k : Rk (Qb P) (wo 214 (f_65 n x0 x1 l))) : Es false 214 [.ref 0, .int x0, .int x1, .ref 332] l P := by
  refine Es.of ?_
  refine zPs (pc1 := 5) (l1 := [(0, .ref 0), (1, .int x0), (2, .int x1), (3, .ref 332)]) (st1 := [.int x1, .int x0, .ref 0, .int (0 : Int32), .ref 332]) 5 rfl rfl rfl ?_
  refine zCvH (mj := 65) (k := 0) (n := 2) rfl rfl rfl rfl (by decide) rfl rfl rfl rfl rfl rfl rfl ?_
  refine e_65 hl hCI ?_
  have hx : ∀ x, (f_65 n x0 x1 l).1 = .inr x → hs 214 x = true := x_65
  generalize f_65 n x0 x1 l = r at k hx ⊢
  obtain ⟨o, l1⟩ := r
  cases o with
  | inr x => exact hs_exI (hx x rfl) k
  | inl v1 =>
    refine kHI ?_
    refine zPs (pc1 := 9) (l1 := [(0, .ref 0), (1, .int x0), (2, .int x1), (3, .ref 332)]) (st1 := [.long v1.toInt64, .int (0 : Int32), .ref 332]) 1 rfl rfl rfl ?_
    refine zLas (x := v1) rfl rfl ?_
    refine zPs (pc1 := 18) (l1 := [(0, .ref 0), (1, .int x0), (2, .int x1), (3, .ref 332)]) (st1 := [.int (0 : Int32)]) 2 rfl rfl rfl ?_
    refine zRi rfl rfl ?_
    exact k
theorem e_215 {n : Nat} {l : Sg} {P : MO → Sg → Prop} {x0 : Int32} (hl : n ≤ 60) (hCI : CI l n) (k : Rk (Qb P) (wo 215 (f_66 n x0 l))) : Es false 215 [.ref 0, .int x0, .ref 332] l P := by
  refine Es.of ?_
  refine zPs (pc1 := 4) (l1 := [(0, .ref 0), (1, .int x0), (2, .ref 332)]) (st1 := [.int x0, .ref 0, .int (0 : Int32), .ref 332]) 4 rfl rfl rfl ?_
  refine zCvH (mj := 66) (k := 0) (n := 1) rfl rfl rfl rfl (by decide) rfl rfl rfl rfl rfl rfl rfl ?_
  refine e_66 hl hCI ?_
  have hx : ∀ x, (f_66 n x0 l).1 = .inr x → hs 215 x = true := x_66
  generalize f_66 n x0 l = r at k hx ⊢
  obtain ⟨o, l1⟩ := r
  cases o with
  | inr x => exact hs_exI (hx x rfl) k
  | inl v1 =>
    refine kHI ?_
    refine zPs (pc1 := 8) (l1 := [(0, .ref 0), (1, .int x0), (2, .ref 332)]) (st1 := [.long v1.toInt64, .int (0 : Int32), .ref 332]) 1 rfl rfl rfl ?_
    refine zLas (x := v1) rfl rfl ?_
    refine zPs (pc1 := 16) (l1 := [(0, .ref 0), (1, .int x0), (2, .ref 332)]) (st1 := [.int (0 : Int32)]) 2 rfl rfl rfl ?_
    refine zRi rfl rfl ?_
    exact k
def wh (mi : Nat) (r : PO) : Int32 × Sg := match r.1 with
  | .inl v => (0, up2 r.2 332 0 (if v = 0 then 0 else 1))
  | .inr x => (han mi x, r.2)
theorem wh_t {P : MO → Sg → Prop} {mi : Nat} {v : Int32} {l : Sg} (h : v = 0) (k : Rk (Qb P) (wh mi (.inl v, l))) : Rk (Qb P) ((0, up2 l 332 0 0) : Int32 × Sg) := by
  subst h
  exact k
theorem wh_f {P : MO → Sg → Prop} {mi : Nat} {v : Int32} {l : Sg} (h : ¬ v = 0) (k : Rk (Qb P) (wh mi (.inl v, l))) : Rk (Qb P) ((0, up2 l 332 0 1) : Int32 × Sg) := by
  unfold wh at k
  simp only [if_neg h] at k
  exact k
theorem e_194 {n : Nat} {l : Sg} {P : MO → Sg → Prop} {x0 x1 : Int32} (hl : n ≤ 60) (hCI : CI l n) (hb1 : x1 = 0 ∨ x1 = 1) (hh : ∀ i, i < 84 → l 295 i = 0 ∨ l 295 i = 1) (k : Rk (Qb P) (wh 194 (f_43 n x0 x1 l))) : Es false 194 [.ref 0, .int x0, .int x1, .ref 332] l P := by
  refine Es.of ?_
  refine zPs (pc1 := 5) (l1 := [(0, .ref 0), (1, .int x0), (2, .int x1), (3, .ref 332)]) (st1 := [.int x1, .int x0, .ref 0, .int (0 : Int32), .ref 332]) 5 rfl rfl rfl ?_
  refine zCvH (mj := 43) (k := 0) (n := 2) rfl rfl rfl rfl (by decide) rfl rfl rfl rfl rfl rfl rfl ?_
  refine e_43 hl hCI hb1 hh ?_
  have hx : ∀ x, (f_43 n x0 x1 l).1 = .inr x → hs 194 x = true := x_43
  generalize f_43 n x0 x1 l = r at k hx ⊢
  obtain ⟨o, l1⟩ := r
  cases o with
  | inr x => exact hs_exI (hx x rfl) k
  | inl v1 =>
    refine kHI ?_
    refine zIfe rfl (fun h2 => ?_) (fun h2 => ?_)
    · replace k := wh_t h2 k
      refine zPs (pc1 := 16) (l1 := [(0, .ref 0), (1, .int x0), (2, .int x1), (3, .ref 332)]) (st1 := [.long 0, .int (0 : Int32), .ref 332]) 1 rfl rfl rfl ?_
      refine zLas (x := (0 : Int32)) rfl rfl ?_
      refine zPs (pc1 := 25) (l1 := [(0, .ref 0), (1, .int x0), (2, .int x1), (3, .ref 332)]) (st1 := [.int (0 : Int32)]) 2 rfl rfl rfl ?_
      refine zRi rfl rfl ?_
      exact k
    · replace k := wh_f h2 k
      refine zPs (pc1 := 16) (l1 := [(0, .ref 0), (1, .int x0), (2, .int x1), (3, .ref 332)]) (st1 := [.long 1, .int (0 : Int32), .ref 332]) 2 rfl rfl rfl ?_
      refine zLas (x := (1 : Int32)) rfl rfl ?_
      refine zPs (pc1 := 25) (l1 := [(0, .ref 0), (1, .int x0), (2, .int x1), (3, .ref 332)]) (st1 := [.int (0 : Int32)]) 2 rfl rfl rfl ?_
      refine zRi rfl rfl ?_
      exact k
