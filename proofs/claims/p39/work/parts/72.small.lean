/-! ===== the law's small methods ===== -/
theorem kN {mi rc rs nx : Nat} {ml : ML} {rest : List Value} {P : MO → Sg → Prop} {r : PO} (h : ∀ z, P (.inl none) z → Ws false mi rc rs nx ml rest z P) (k : Rk (Qn P) r) : Rk (Qn (Kc false mi rc rs nx ml rest P)) r := by
  obtain ⟨o, l⟩ := r
  cases o with
  | inl v => exact h l k
  | inr x => exact k
def exA (x : Nat) : Int32 := if x = 0 then -71 else if x = 1 then -72 else -73
def wTe (r : PO) : Int32 × Sg := match r.1 with
  | .inl _ => (0, r.2)
  | .inr x => (exA x, r.2)
def wAc (r : PO) : Int32 × Sg := match r.1 with
  | .inl v => (v, r.2)
  | .inr x => (exA x, r.2)
def hol (r : PO) : PO := match r.1 with
  | .inl v => (.inl (if v = 0 then 0 else 1), r.2)
  | .inr x => (.inr x, r.2)
theorem han_t : ∀ x : Nat, x < 3 → ∃ v, lk2 hanL 183 x = some v ∧ v.2.2.2.1 = exA x := fun x hx => match x, hx with
  | 0, _ => ⟨_, rfl, rfl⟩
  | 1, _ => ⟨_, rfl, rfl⟩
  | 2, _ => ⟨_, rfl, rfl⟩
  | n + 3, h => absurd h (by omega)
theorem han_a : ∀ x : Nat, x < 3 → ∃ v, lk2 hanL 184 x = some v ∧ v.2.2.2.1 = exA x := fun x hx => match x, hx with
  | 0, _ => ⟨_, rfl, rfl⟩
  | 1, _ => ⟨_, rfl, rfl⟩
  | 2, _ => ⟨_, rfl, rfl⟩
  | n + 3, h => absurd h (by omega)
theorem kT {rc rs nx : Nat} {ml : ML} {rest : List Value} {P : MO → Sg → Prop} {r : PO} (hx : ∀ x, r.1 = .inr x → x < 3) (h : ∀ z, P (.inl (some (.int 0))) z → Ws false 183 rc rs nx ml rest z P) (k : Rk (Qb P) (wTe r)) : Rk (Qn (KcH 183 rc rs nx ml rest P)) r := by
  obtain ⟨o, l⟩ := r
  cases o with
  | inl v => exact h l k
  | inr x =>
    obtain ⟨v, h1, h2⟩ := han_t x (hx x rfl)
    refine ⟨v, h1, ?_⟩
    rw [h2]
    exact k
theorem kA {rc rs nx : Nat} {ml : ML} {rest : List Value} {P : MO → Sg → Prop} {r : PO} (hx : ∀ x, r.1 = .inr x → x < 3) (h : ∀ v z, P (.inl (some (.int v))) z → Ws false 184 rc rs nx ml (.int v :: rest) z P) (k : Rk (Qb P) (wAc r)) : Rk (Qp (KcH 184 rc rs nx ml rest P)) r := by
  obtain ⟨o, l⟩ := r
  cases o with
  | inl v => exact h v l k
  | inr x =>
    obtain ⟨v, h1, h2⟩ := han_a x (hx x rfl)
    refine ⟨v, h1, ?_⟩
    rw [h2]
    exact k
theorem kH {rc rs nx : Nat} {ml : ML} {rest : List Value} {P : MO → Sg → Prop} {r : PO} (hx : ∀ x, r.1 = .inr x → x < 3) (h : ∀ v z, P (.inl (some (.int (if v = 0 then 0 else 1)))) z → Ws false 184 rc rs nx ml (.int v :: rest) z P) (k : Rk (Qb P) (wAc (hol r))) : Rk (Qp (KcH 184 rc rs nx ml rest P)) r := by
  obtain ⟨o, l⟩ := r
  cases o with
  | inl v => exact h v l k
  | inr x =>
    obtain ⟨v, h1, h2⟩ := han_a x (hx x rfl)
    refine ⟨v, h1, ?_⟩
    rw [h2]
    exact k
section ZH
variable {mi rc rs pc nx d : Nat} {ml : ML} {st rest : List Value} {z : Sg} {P : MO → Sg → Prop} {ts : List (Int32 × Nat)}
/-- a static call in a method whose handlers answer a number -/
theorem zCsH {i mj kd : Nat} {li : Nat × List Nat} {as : List Value} (hE : mEnt mi pc = some (.invokestatic i, nx, ts, d)) (hf : lk2 calL (mCls mi) i = some ((mj, kd), li)) (hmx : lk2 maxL (mCls mi) i = none)
    (hb : ((kd % 3 == 0 && Nat.ble (mNA mj) st.length) && ((kd == 0 || (mHh mj).isEmpty) && (Nat.ble (mNA mj) (mNL mj) && ((st.take (mNA mj)).all (fun v => v.category == 1) && Nat.ble ((st.drop (mNA mj)).map fun v => v.category).sum 8)))) = true)
    (ha : (st.take (mNA mj)).reverse = as) (hr : st.drop (mNA mj) = rest) (hrm : rmOk mi mj rc rs = true) (hm : (mHh mi).isEmpty = false) (hal : (mHh mi).all (fun r => Nat.ble r.1 pc && Nat.blt pc r.2.1) = true)
    (k : Es false mj as z (KcH mi (rc - mMc mj) (rs - mMs mj) nx ml rest P)) : Ws false mi rc rs pc ml st z P := by
  subst ha
  subst hr
  intro w
  refine wCH hE rfl (by simp only [stepH, sMax, hmx]) (callP_s hf (Or.inl rfl) hb) hrm hm hal (Wp.imp (k w) ?_)
  rintro o g ⟨z', rfl, h2⟩
  cases o with
  | inl v => exact h2 w
  | inr x =>
    obtain ⟨v, h3, h4⟩ := h2
    exact ⟨v, h3, z', rfl, h4⟩
end ZH
theorem en_184 : mEnt 184 332 = some (.ireturn, 333, [], 0) := by decide +kernel
noncomputable def f_182 (n : Nat) (w a b c d e f : Int32) (l : Sg) : PO := (if w = (0 : Int32) then f_31 n a b c l else (if w = (1 : Int32) then f_32 n a l else (if w = (2 : Int32) then f_34 n a b c d l else (if w = (3 : Int32) then f_35 n a b c d e l else (if w = (4 : Int32) then f_36 n a b c d e f l else (if w = (5 : Int32) then f_37 n a b c l else (if w = (6 : Int32) then f_38 n a l else (if w = (7 : Int32) then f_39 n a b c d e f l else (if w = (8 : Int32) then f_40 n a b l else (if w = (9 : Int32) then f_41 n a l else f_42 n a b c l))))))))))
theorem x_182 {n : Nat} {w a b c d e f : Int32} {l : Sg} (x : Nat) (h : (f_182 n w a b c d e f l).1 = .inr x) : x < 3 := by
  unfold f_182 at h
  repeat' split at h
  all_goals first | exact x_31 _ h | exact x_32 _ h | exact x_34 _ h | exact x_35 _ h | exact x_36 _ h | exact x_37 _ h | exact x_38 _ h | exact x_39 _ h | exact x_40 _ h | exact x_41 _ h | exact x_42 _ h
theorem e_182 {l : Sg} {P : MO → Sg → Prop} {n : Nat} {w a b c d e f : Int32} (hl : n ≤ 60) (hCI : CI l n) (k : Rk (Qn P) (f_182 n w a b c d e f l)) : Es false 182 [.ref 0, .int w, .int a, .int b, .int c, .int d, .int e, .int f] l P := by
  unfold f_182 at k
  refine Es.of ?_
  refine zPs (pc1 := 1) (l1 := [(0, .ref 0), (1, .int w), (2, .int a), (3, .int b), (4, .int c), (5, .int d), (6, .int e), (7, .int f)]) (st1 := [.int w]) 1 rfl rfl rfl ?_
  refine zSw rfl rfl ?_
  refine zSwS (fun h0 => ?_) (fun h0 => ?_)
  · replace k := ite_t h0 k
    refine zPs (pc1 := 61) (l1 := [(0, .ref 0), (1, .int w), (2, .int a), (3, .int b), (4, .int c), (5, .int d), (6, .int e), (7, .int f)]) (st1 := [.int c, .int b, .int a, .ref 0]) 4 rfl rfl rfl ?_
    refine zCv (mj := 31) (k := 0) (n := 3) rfl rfl rfl rfl (by decide) rfl rfl rfl rfl rfl rfl ?_
    refine e_31 hl hCI (kN (fun z hz => ?_) k)
    refine zPs (pc1 := 181) (l1 := [(0, .ref 0), (1, .int w), (2, .int a), (3, .int b), (4, .int c), (5, .int d), (6, .int e), (7, .int f)]) (st1 := []) 1 rfl rfl rfl ?_
    exact zRv rfl rfl hz
  replace k := ite_f h0 k
  refine zSwS (fun h1 => ?_) (fun h1 => ?_)
  · replace k := ite_t h1 k
    refine zPs (pc1 := 69) (l1 := [(0, .ref 0), (1, .int w), (2, .int a), (3, .int b), (4, .int c), (5, .int d), (6, .int e), (7, .int f)]) (st1 := [.int a, .ref 0]) 2 rfl rfl rfl ?_
    refine zCv (mj := 32) (k := 0) (n := 1) rfl rfl rfl rfl (by decide) rfl rfl rfl rfl rfl rfl ?_
    refine e_32 hl hCI (kN (fun z hz => ?_) k)
    refine zPs (pc1 := 181) (l1 := [(0, .ref 0), (1, .int w), (2, .int a), (3, .int b), (4, .int c), (5, .int d), (6, .int e), (7, .int f)]) (st1 := []) 1 rfl rfl rfl ?_
    exact zRv rfl rfl hz
  replace k := ite_f h1 k
  refine zSwS (fun h2 => ?_) (fun h2 => ?_)
  · replace k := ite_t h2 k
    refine zPs (pc1 := 82) (l1 := [(0, .ref 0), (1, .int w), (2, .int a), (3, .int b), (4, .int c), (5, .int d), (6, .int e), (7, .int f)]) (st1 := [.int d, .int c, .int b, .int a, .ref 0]) 5 rfl rfl rfl ?_
    refine zCv (mj := 34) (k := 0) (n := 4) rfl rfl rfl rfl (by decide) rfl rfl rfl rfl rfl rfl ?_
    refine e_34 hl hCI (kN (fun z hz => ?_) k)
    refine zPs (pc1 := 181) (l1 := [(0, .ref 0), (1, .int w), (2, .int a), (3, .int b), (4, .int c), (5, .int d), (6, .int e), (7, .int f)]) (st1 := []) 1 rfl rfl rfl ?_
    exact zRv rfl rfl hz
  replace k := ite_f h2 k
  refine zSwS (fun h3 => ?_) (fun h3 => ?_)
  · replace k := ite_t h3 k
    refine zPs (pc1 := 97) (l1 := [(0, .ref 0), (1, .int w), (2, .int a), (3, .int b), (4, .int c), (5, .int d), (6, .int e), (7, .int f)]) (st1 := [.int e, .int d, .int c, .int b, .int a, .ref 0]) 6 rfl rfl rfl ?_
    refine zCv (mj := 35) (k := 0) (n := 5) rfl rfl rfl rfl (by decide) rfl rfl rfl rfl rfl rfl ?_
    refine e_35 hl hCI (kN (fun z hz => ?_) k)
    refine zPs (pc1 := 181) (l1 := [(0, .ref 0), (1, .int w), (2, .int a), (3, .int b), (4, .int c), (5, .int d), (6, .int e), (7, .int f)]) (st1 := []) 1 rfl rfl rfl ?_
    exact zRv rfl rfl hz
  replace k := ite_f h3 k
  refine zSwS (fun h4 => ?_) (fun h4 => ?_)
  · replace k := ite_t h4 k
    refine zPs (pc1 := 114) (l1 := [(0, .ref 0), (1, .int w), (2, .int a), (3, .int b), (4, .int c), (5, .int d), (6, .int e), (7, .int f)]) (st1 := [.int f, .int e, .int d, .int c, .int b, .int a, .ref 0]) 7 rfl rfl rfl ?_
    refine zCv (mj := 36) (k := 0) (n := 6) rfl rfl rfl rfl (by decide) rfl rfl rfl rfl rfl rfl ?_
    refine e_36 hl hCI (kN (fun z hz => ?_) k)
    refine zPs (pc1 := 181) (l1 := [(0, .ref 0), (1, .int w), (2, .int a), (3, .int b), (4, .int c), (5, .int d), (6, .int e), (7, .int f)]) (st1 := []) 1 rfl rfl rfl ?_
    exact zRv rfl rfl hz
  replace k := ite_f h4 k
  refine zSwS (fun h5 => ?_) (fun h5 => ?_)
  · replace k := ite_t h5 k
    refine zPs (pc1 := 125) (l1 := [(0, .ref 0), (1, .int w), (2, .int a), (3, .int b), (4, .int c), (5, .int d), (6, .int e), (7, .int f)]) (st1 := [.int c, .int b, .int a, .ref 0]) 4 rfl rfl rfl ?_
    refine zCv (mj := 37) (k := 0) (n := 3) rfl rfl rfl rfl (by decide) rfl rfl rfl rfl rfl rfl ?_
    refine e_37 hl hCI (kN (fun z hz => ?_) k)
    refine zPs (pc1 := 181) (l1 := [(0, .ref 0), (1, .int w), (2, .int a), (3, .int b), (4, .int c), (5, .int d), (6, .int e), (7, .int f)]) (st1 := []) 1 rfl rfl rfl ?_
    exact zRv rfl rfl hz
  replace k := ite_f h5 k
  refine zSwS (fun h6 => ?_) (fun h6 => ?_)
  · replace k := ite_t h6 k
    refine zPs (pc1 := 133) (l1 := [(0, .ref 0), (1, .int w), (2, .int a), (3, .int b), (4, .int c), (5, .int d), (6, .int e), (7, .int f)]) (st1 := [.int a, .ref 0]) 2 rfl rfl rfl ?_
    refine zCv (mj := 38) (k := 0) (n := 1) rfl rfl rfl rfl (by decide) rfl rfl rfl rfl rfl rfl ?_
    refine e_38 hl hCI (kN (fun z hz => ?_) k)
    refine zPs (pc1 := 181) (l1 := [(0, .ref 0), (1, .int w), (2, .int a), (3, .int b), (4, .int c), (5, .int d), (6, .int e), (7, .int f)]) (st1 := []) 1 rfl rfl rfl ?_
    exact zRv rfl rfl hz
  replace k := ite_f h6 k
  refine zSwS (fun h7 => ?_) (fun h7 => ?_)
  · replace k := ite_t h7 k
    refine zPs (pc1 := 150) (l1 := [(0, .ref 0), (1, .int w), (2, .int a), (3, .int b), (4, .int c), (5, .int d), (6, .int e), (7, .int f)]) (st1 := [.int f, .int e, .int d, .int c, .int b, .int a, .ref 0]) 7 rfl rfl rfl ?_
    refine zCv (mj := 39) (k := 0) (n := 6) rfl rfl rfl rfl (by decide) rfl rfl rfl rfl rfl rfl ?_
    refine e_39 hl hCI (kN (fun z hz => ?_) k)
    refine zPs (pc1 := 181) (l1 := [(0, .ref 0), (1, .int w), (2, .int a), (3, .int b), (4, .int c), (5, .int d), (6, .int e), (7, .int f)]) (st1 := []) 1 rfl rfl rfl ?_
    exact zRv rfl rfl hz
  replace k := ite_f h7 k
  refine zSwS (fun h8 => ?_) (fun h8 => ?_)
  · replace k := ite_t h8 k
    refine zPs (pc1 := 159) (l1 := [(0, .ref 0), (1, .int w), (2, .int a), (3, .int b), (4, .int c), (5, .int d), (6, .int e), (7, .int f)]) (st1 := [.int b, .int a, .ref 0]) 3 rfl rfl rfl ?_
    refine zCv (mj := 40) (k := 0) (n := 2) rfl rfl rfl rfl (by decide) rfl rfl rfl rfl rfl rfl ?_
    refine e_40 hl hCI (kN (fun z hz => ?_) k)
    refine zPs (pc1 := 181) (l1 := [(0, .ref 0), (1, .int w), (2, .int a), (3, .int b), (4, .int c), (5, .int d), (6, .int e), (7, .int f)]) (st1 := []) 1 rfl rfl rfl ?_
    exact zRv rfl rfl hz
  replace k := ite_f h8 k
  refine zSwS (fun h9 => ?_) (fun h9 => ?_)
  · replace k := ite_t h9 k
    refine zPs (pc1 := 167) (l1 := [(0, .ref 0), (1, .int w), (2, .int a), (3, .int b), (4, .int c), (5, .int d), (6, .int e), (7, .int f)]) (st1 := [.int a, .ref 0]) 2 rfl rfl rfl ?_
    refine zCv (mj := 41) (k := 0) (n := 1) rfl rfl rfl rfl (by decide) rfl rfl rfl rfl rfl rfl ?_
    refine e_41 hl hCI (kN (fun z hz => ?_) k)
    refine zPs (pc1 := 181) (l1 := [(0, .ref 0), (1, .int w), (2, .int a), (3, .int b), (4, .int c), (5, .int d), (6, .int e), (7, .int f)]) (st1 := []) 1 rfl rfl rfl ?_
    exact zRv rfl rfl hz
  replace k := ite_f h9 k
  refine zSw0 ?_
  refine zPs (pc1 := 178) (l1 := [(0, .ref 0), (1, .int w), (2, .int a), (3, .int b), (4, .int c), (5, .int d), (6, .int e), (7, .int f)]) (st1 := [.int c, .int b, .int a, .ref 0]) 4 rfl rfl rfl ?_
  refine zCv (mj := 42) (k := 0) (n := 3) rfl rfl rfl rfl (by decide) rfl rfl rfl rfl rfl rfl ?_
  refine e_42 hl hCI (kN (fun z hz => ?_) k)
  exact zRv rfl rfl hz
theorem e_183 {l : Sg} {P : MO → Sg → Prop} {n : Nat} {w a b c d e f : Int32} (hl : n ≤ 60) (hCI : CI l n) (k : Rk (Qb P) (wTe (f_182 n w a b c d e f l))) : Es false 183 [.ref 0, .int w, .int a, .int b, .int c, .int d, .int e, .int f] l P := by
  refine Es.of ?_
  refine zPs (pc1 := 12) (l1 := [(0, .ref 0), (1, .int w), (2, .int a), (3, .int b), (4, .int c), (5, .int d), (6, .int e), (7, .int f)]) (st1 := [.int f, .int e, .int d, .int c, .int b, .int a, .int w, .ref 0]) 8 rfl rfl rfl ?_
  refine zCsH (mj := 182) rfl rfl rfl rfl rfl rfl rfl rfl rfl ?_
  refine e_182 hl hCI (kT x_182 (fun z hz => ?_) k)
  refine zPs (pc1 := 16) (l1 := [(0, .ref 0), (1, .int w), (2, .int a), (3, .int b), (4, .int c), (5, .int d), (6, .int e), (7, .int f)]) (st1 := [.int (0 : Int32)]) 1 rfl rfl rfl ?_
  exact zRi rfl rfl hz
noncomputable def f_184 (n : Nat) (w a b c : Int32) (l : Sg) : PO := (if w = (0 : Int32) then f_33 n a b c l else (if w = (1 : Int32) then hol (f_43 n a (if b = 1 then 1 else 0) l) else (if w = (2 : Int32) then f_45 n a l else (if w = (3 : Int32) then f_46 n a b l else (if w = (4 : Int32) then f_47 n a l else (if w = (5 : Int32) then f_48 n a l else (if w = (6 : Int32) then f_49 n a b l else (if w = (7 : Int32) then f_50 n a l else (if w = (8 : Int32) then f_51 n a b l else (if w = (9 : Int32) then f_52 n a l else (if w = (10 : Int32) then f_53 n a b l else (if w = (11 : Int32) then f_54 n a l else (if w = (12 : Int32) then f_56 n a l else (if w = (13 : Int32) then f_57 n a l else (if w = (14 : Int32) then f_58 n a l else (if w = (15 : Int32) then f_59 n a l else (if w = (16 : Int32) then f_60 n a l else (if w = (17 : Int32) then f_61 n a l else (if w = (18 : Int32) then f_62 n a l else (if w = (19 : Int32) then f_63 n a l else (if w = (20 : Int32) then f_64 n a l else (if w = (21 : Int32) then f_65 n a b l else f_66 n a l))))))))))))))))))))))
set_option maxRecDepth 20000 in
theorem e_184 {l : Sg} {P : MO → Sg → Prop} {n : Nat} {w a b c : Int32} (hl : n ≤ 60) (hCI : CI l n) (hh : ∀ i, i < 84 → l 295 i = 0 ∨ l 295 i = 1) (k : Rk (Qb P) (wAc (f_184 n w a b c l))) : Es false 184 [.ref 0, .int w, .int a, .int b, .int c] l P := by
  unfold f_184 at k
  refine Es.of ?_
  refine zPs (pc1 := 1) (l1 := [(0, .ref 0), (1, .int w), (2, .int a), (3, .int b), (4, .int c)]) (st1 := [.int w]) 1 rfl rfl rfl ?_
  refine zIfn rfl (fun h0 => ?_) (fun h0 => ?_)
  rotate_left
  · rw [if_pos h0] at k
    refine zPs (pc1 := 9) (l1 := [(0, .ref 0), (1, .int w), (2, .int a), (3, .int b), (4, .int c)]) (st1 := [.int c, .int b, .int a, .ref 0]) 4 rfl rfl rfl ?_
    refine zCvH (mj := 33) (k := 0) (n := 3) rfl rfl rfl rfl (by decide) rfl rfl rfl rfl rfl rfl rfl ?_
    refine e_33 hl hCI (kA x_33 (fun v z hz => ?_) k)
    refine zPs (pc1 := 332) (l1 := [(0, .ref 0), (1, .int w), (2, .int a), (3, .int b), (4, .int c)]) (st1 := [.int v]) 1 rfl rfl rfl ?_
    exact zRi en_184 rfl hz
  rw [if_neg h0] at k
  refine zPs (pc1 := 17) (l1 := [(0, .ref 0), (1, .int w), (2, .int a), (3, .int b), (4, .int c)]) (st1 := [.int (1 : Int32), .int w]) 2 rfl rfl rfl ?_
  refine zCn rfl (fun h1 => ?_) (fun h1 => ?_)
  rotate_left
  · rw [if_pos h1] at k
    refine zPs (pc1 := 24) (l1 := [(0, .ref 0), (1, .int w), (2, .int a), (3, .int b), (4, .int c)]) (st1 := [.int (1 : Int32), .int b, .int a, .ref 0]) 4 rfl rfl rfl ?_
    refine zCn rfl (fun hb => ?_) (fun hb => ?_)
    · rw [if_neg hb] at k
      refine zPs (pc1 := 32) (l1 := [(0, .ref 0), (1, .int w), (2, .int a), (3, .int b), (4, .int c)]) (st1 := [.int (0 : Int32), .int a, .ref 0]) 1 rfl rfl rfl ?_
      refine zCvH (mj := 43) (k := 0) (n := 2) rfl rfl rfl rfl (by decide) rfl rfl rfl rfl rfl rfl rfl ?_
      refine e_43 hl hCI (Or.inl rfl) hh (kH x_43 (fun v z hz => ?_) k)
      refine zIfe rfl (fun hv => ?_) (fun hv => ?_)
      · rw [if_pos hv] at hz
        refine zPs (pc1 := 332) (l1 := [(0, .ref 0), (1, .int w), (2, .int a), (3, .int b), (4, .int c)]) (st1 := [.int (0 : Int32)]) 2 rfl rfl rfl ?_
        exact zRi en_184 rfl hz
      · rw [if_neg hv] at hz
        refine zPs (pc1 := 332) (l1 := [(0, .ref 0), (1, .int w), (2, .int a), (3, .int b), (4, .int c)]) (st1 := [.int (1 : Int32)]) 2 rfl rfl rfl ?_
        exact zRi en_184 rfl hz
    · rw [if_pos hb] at k
      refine zPs (pc1 := 32) (l1 := [(0, .ref 0), (1, .int w), (2, .int a), (3, .int b), (4, .int c)]) (st1 := [.int (1 : Int32), .int a, .ref 0]) 2 rfl rfl rfl ?_
      refine zCvH (mj := 43) (k := 0) (n := 2) rfl rfl rfl rfl (by decide) rfl rfl rfl rfl rfl rfl rfl ?_
      refine e_43 hl hCI (Or.inr rfl) hh (kH x_43 (fun v z hz => ?_) k)
      refine zIfe rfl (fun hv => ?_) (fun hv => ?_)
      · rw [if_pos hv] at hz
        refine zPs (pc1 := 332) (l1 := [(0, .ref 0), (1, .int w), (2, .int a), (3, .int b), (4, .int c)]) (st1 := [.int (0 : Int32)]) 2 rfl rfl rfl ?_
        exact zRi en_184 rfl hz
      · rw [if_neg hv] at hz
        refine zPs (pc1 := 332) (l1 := [(0, .ref 0), (1, .int w), (2, .int a), (3, .int b), (4, .int c)]) (st1 := [.int (1 : Int32)]) 2 rfl rfl rfl ?_
        exact zRi en_184 rfl hz
  rw [if_neg h1] at k
  refine zPs (pc1 := 48) (l1 := [(0, .ref 0), (1, .int w), (2, .int a), (3, .int b), (4, .int c)]) (st1 := [.int (2 : Int32), .int w]) 2 rfl rfl rfl ?_
  refine zCn rfl (fun h2 => ?_) (fun h2 => ?_)
  rotate_left
  · rw [if_pos h2] at k
    refine zPs (pc1 := 53) (l1 := [(0, .ref 0), (1, .int w), (2, .int a), (3, .int b), (4, .int c)]) (st1 := [.int a, .ref 0]) 2 rfl rfl rfl ?_
    refine zCvH (mj := 45) (k := 0) (n := 1) rfl rfl rfl rfl (by decide) rfl rfl rfl rfl rfl rfl rfl ?_
    refine e_45 hl hCI (kA x_45 (fun v z hz => ?_) k)
    refine zPs (pc1 := 332) (l1 := [(0, .ref 0), (1, .int w), (2, .int a), (3, .int b), (4, .int c)]) (st1 := [.int v]) 1 rfl rfl rfl ?_
    exact zRi en_184 rfl hz
  rw [if_neg h2] at k
  refine zPs (pc1 := 61) (l1 := [(0, .ref 0), (1, .int w), (2, .int a), (3, .int b), (4, .int c)]) (st1 := [.int (3 : Int32), .int w]) 2 rfl rfl rfl ?_
  refine zCn rfl (fun h3 => ?_) (fun h3 => ?_)
  rotate_left
  · rw [if_pos h3] at k
    refine zPs (pc1 := 67) (l1 := [(0, .ref 0), (1, .int w), (2, .int a), (3, .int b), (4, .int c)]) (st1 := [.int b, .int a, .ref 0]) 3 rfl rfl rfl ?_
    refine zCvH (mj := 46) (k := 0) (n := 2) rfl rfl rfl rfl (by decide) rfl rfl rfl rfl rfl rfl rfl ?_
    refine e_46 hl hCI (kA x_46 (fun v z hz => ?_) k)
    refine zPs (pc1 := 332) (l1 := [(0, .ref 0), (1, .int w), (2, .int a), (3, .int b), (4, .int c)]) (st1 := [.int v]) 1 rfl rfl rfl ?_
    exact zRi en_184 rfl hz
  rw [if_neg h3] at k
  refine zPs (pc1 := 75) (l1 := [(0, .ref 0), (1, .int w), (2, .int a), (3, .int b), (4, .int c)]) (st1 := [.int (4 : Int32), .int w]) 2 rfl rfl rfl ?_
  refine zCn rfl (fun h4 => ?_) (fun h4 => ?_)
  rotate_left
  · rw [if_pos h4] at k
    refine zPs (pc1 := 80) (l1 := [(0, .ref 0), (1, .int w), (2, .int a), (3, .int b), (4, .int c)]) (st1 := [.int a, .ref 0]) 2 rfl rfl rfl ?_
    refine zCvH (mj := 47) (k := 0) (n := 1) rfl rfl rfl rfl (by decide) rfl rfl rfl rfl rfl rfl rfl ?_
    refine e_47 hl hCI (kA x_47 (fun v z hz => ?_) k)
    refine zPs (pc1 := 332) (l1 := [(0, .ref 0), (1, .int w), (2, .int a), (3, .int b), (4, .int c)]) (st1 := [.int v]) 1 rfl rfl rfl ?_
    exact zRi en_184 rfl hz
  rw [if_neg h4] at k
  refine zPs (pc1 := 88) (l1 := [(0, .ref 0), (1, .int w), (2, .int a), (3, .int b), (4, .int c)]) (st1 := [.int (5 : Int32), .int w]) 2 rfl rfl rfl ?_
  refine zCn rfl (fun h5 => ?_) (fun h5 => ?_)
  rotate_left
  · rw [if_pos h5] at k
    refine zPs (pc1 := 93) (l1 := [(0, .ref 0), (1, .int w), (2, .int a), (3, .int b), (4, .int c)]) (st1 := [.int a, .ref 0]) 2 rfl rfl rfl ?_
    refine zCvH (mj := 48) (k := 0) (n := 1) rfl rfl rfl rfl (by decide) rfl rfl rfl rfl rfl rfl rfl ?_
    refine e_48 hl hCI (kA x_48 (fun v z hz => ?_) k)
    refine zPs (pc1 := 332) (l1 := [(0, .ref 0), (1, .int w), (2, .int a), (3, .int b), (4, .int c)]) (st1 := [.int v]) 1 rfl rfl rfl ?_
    exact zRi en_184 rfl hz
  rw [if_neg h5] at k
  refine zPs (pc1 := 102) (l1 := [(0, .ref 0), (1, .int w), (2, .int a), (3, .int b), (4, .int c)]) (st1 := [.int (6 : Int32), .int w]) 2 rfl rfl rfl ?_
  refine zCn rfl (fun h6 => ?_) (fun h6 => ?_)
  rotate_left
  · rw [if_pos h6] at k
    refine zPs (pc1 := 108) (l1 := [(0, .ref 0), (1, .int w), (2, .int a), (3, .int b), (4, .int c)]) (st1 := [.int b, .int a, .ref 0]) 3 rfl rfl rfl ?_
    refine zCvH (mj := 49) (k := 0) (n := 2) rfl rfl rfl rfl (by decide) rfl rfl rfl rfl rfl rfl rfl ?_
    refine e_49 hl hCI (kA x_49 (fun v z hz => ?_) k)
    refine zPs (pc1 := 332) (l1 := [(0, .ref 0), (1, .int w), (2, .int a), (3, .int b), (4, .int c)]) (st1 := [.int v]) 1 rfl rfl rfl ?_
    exact zRi en_184 rfl hz
  rw [if_neg h6] at k
  refine zPs (pc1 := 117) (l1 := [(0, .ref 0), (1, .int w), (2, .int a), (3, .int b), (4, .int c)]) (st1 := [.int (7 : Int32), .int w]) 2 rfl rfl rfl ?_
  refine zCn rfl (fun h7 => ?_) (fun h7 => ?_)
  rotate_left
  · rw [if_pos h7] at k
    refine zPs (pc1 := 122) (l1 := [(0, .ref 0), (1, .int w), (2, .int a), (3, .int b), (4, .int c)]) (st1 := [.int a, .ref 0]) 2 rfl rfl rfl ?_
    refine zCvH (mj := 50) (k := 0) (n := 1) rfl rfl rfl rfl (by decide) rfl rfl rfl rfl rfl rfl rfl ?_
    refine e_50 hl hCI (kA x_50 (fun v z hz => ?_) k)
    refine zPs (pc1 := 332) (l1 := [(0, .ref 0), (1, .int w), (2, .int a), (3, .int b), (4, .int c)]) (st1 := [.int v]) 1 rfl rfl rfl ?_
    exact zRi en_184 rfl hz
  rw [if_neg h7] at k
  refine zPs (pc1 := 131) (l1 := [(0, .ref 0), (1, .int w), (2, .int a), (3, .int b), (4, .int c)]) (st1 := [.int (8 : Int32), .int w]) 2 rfl rfl rfl ?_
  refine zCn rfl (fun h8 => ?_) (fun h8 => ?_)
  rotate_left
  · rw [if_pos h8] at k
    refine zPs (pc1 := 137) (l1 := [(0, .ref 0), (1, .int w), (2, .int a), (3, .int b), (4, .int c)]) (st1 := [.int b, .int a, .ref 0]) 3 rfl rfl rfl ?_
    refine zCvH (mj := 51) (k := 0) (n := 2) rfl rfl rfl rfl (by decide) rfl rfl rfl rfl rfl rfl rfl ?_
    refine e_51 hl hCI (kA x_51 (fun v z hz => ?_) k)
    refine zPs (pc1 := 332) (l1 := [(0, .ref 0), (1, .int w), (2, .int a), (3, .int b), (4, .int c)]) (st1 := [.int v]) 1 rfl rfl rfl ?_
    exact zRi en_184 rfl hz
  rw [if_neg h8] at k
  refine zPs (pc1 := 146) (l1 := [(0, .ref 0), (1, .int w), (2, .int a), (3, .int b), (4, .int c)]) (st1 := [.int (9 : Int32), .int w]) 2 rfl rfl rfl ?_
  refine zCn rfl (fun h9 => ?_) (fun h9 => ?_)
  rotate_left
  · rw [if_pos h9] at k
    refine zPs (pc1 := 151) (l1 := [(0, .ref 0), (1, .int w), (2, .int a), (3, .int b), (4, .int c)]) (st1 := [.int a, .ref 0]) 2 rfl rfl rfl ?_
    refine zCvH (mj := 52) (k := 0) (n := 1) rfl rfl rfl rfl (by decide) rfl rfl rfl rfl rfl rfl rfl ?_
    refine e_52 hl hCI (kA x_52 (fun v z hz => ?_) k)
    refine zPs (pc1 := 332) (l1 := [(0, .ref 0), (1, .int w), (2, .int a), (3, .int b), (4, .int c)]) (st1 := [.int v]) 1 rfl rfl rfl ?_
    exact zRi en_184 rfl hz
  rw [if_neg h9] at k
  refine zPs (pc1 := 160) (l1 := [(0, .ref 0), (1, .int w), (2, .int a), (3, .int b), (4, .int c)]) (st1 := [.int (10 : Int32), .int w]) 2 rfl rfl rfl ?_
  refine zCn rfl (fun h10 => ?_) (fun h10 => ?_)
  rotate_left
  · rw [if_pos h10] at k
    refine zPs (pc1 := 166) (l1 := [(0, .ref 0), (1, .int w), (2, .int a), (3, .int b), (4, .int c)]) (st1 := [.int b, .int a, .ref 0]) 3 rfl rfl rfl ?_
    refine zCvH (mj := 53) (k := 0) (n := 2) rfl rfl rfl rfl (by decide) rfl rfl rfl rfl rfl rfl rfl ?_
    refine e_53 hl hCI (kA x_53 (fun v z hz => ?_) k)
    refine zPs (pc1 := 332) (l1 := [(0, .ref 0), (1, .int w), (2, .int a), (3, .int b), (4, .int c)]) (st1 := [.int v]) 1 rfl rfl rfl ?_
    exact zRi en_184 rfl hz
  rw [if_neg h10] at k
  refine zPs (pc1 := 175) (l1 := [(0, .ref 0), (1, .int w), (2, .int a), (3, .int b), (4, .int c)]) (st1 := [.int (11 : Int32), .int w]) 2 rfl rfl rfl ?_
  refine zCn rfl (fun h11 => ?_) (fun h11 => ?_)
  rotate_left
  · rw [if_pos h11] at k
    refine zPs (pc1 := 180) (l1 := [(0, .ref 0), (1, .int w), (2, .int a), (3, .int b), (4, .int c)]) (st1 := [.int a, .ref 0]) 2 rfl rfl rfl ?_
    refine zCvH (mj := 54) (k := 0) (n := 1) rfl rfl rfl rfl (by decide) rfl rfl rfl rfl rfl rfl rfl ?_
    refine e_54 hl hCI (kA x_54 (fun v z hz => ?_) k)
    refine zPs (pc1 := 332) (l1 := [(0, .ref 0), (1, .int w), (2, .int a), (3, .int b), (4, .int c)]) (st1 := [.int v]) 1 rfl rfl rfl ?_
    exact zRi en_184 rfl hz
  rw [if_neg h11] at k
  refine zPs (pc1 := 189) (l1 := [(0, .ref 0), (1, .int w), (2, .int a), (3, .int b), (4, .int c)]) (st1 := [.int (12 : Int32), .int w]) 2 rfl rfl rfl ?_
  refine zCn rfl (fun h12 => ?_) (fun h12 => ?_)
  rotate_left
  · rw [if_pos h12] at k
    refine zPs (pc1 := 194) (l1 := [(0, .ref 0), (1, .int w), (2, .int a), (3, .int b), (4, .int c)]) (st1 := [.int a, .ref 0]) 2 rfl rfl rfl ?_
    refine zCvH (mj := 56) (k := 0) (n := 1) rfl rfl rfl rfl (by decide) rfl rfl rfl rfl rfl rfl rfl ?_
    refine e_56 hl hCI (kA x_56 (fun v z hz => ?_) k)
    refine zPs (pc1 := 332) (l1 := [(0, .ref 0), (1, .int w), (2, .int a), (3, .int b), (4, .int c)]) (st1 := [.int v]) 1 rfl rfl rfl ?_
    exact zRi en_184 rfl hz
  rw [if_neg h12] at k
  refine zPs (pc1 := 203) (l1 := [(0, .ref 0), (1, .int w), (2, .int a), (3, .int b), (4, .int c)]) (st1 := [.int (13 : Int32), .int w]) 2 rfl rfl rfl ?_
  refine zCn rfl (fun h13 => ?_) (fun h13 => ?_)
  rotate_left
  · rw [if_pos h13] at k
    refine zPs (pc1 := 208) (l1 := [(0, .ref 0), (1, .int w), (2, .int a), (3, .int b), (4, .int c)]) (st1 := [.int a, .ref 0]) 2 rfl rfl rfl ?_
    refine zCvH (mj := 57) (k := 0) (n := 1) rfl rfl rfl rfl (by decide) rfl rfl rfl rfl rfl rfl rfl ?_
    refine e_57 hl hCI (kA x_57 (fun v z hz => ?_) k)
    refine zPs (pc1 := 332) (l1 := [(0, .ref 0), (1, .int w), (2, .int a), (3, .int b), (4, .int c)]) (st1 := [.int v]) 1 rfl rfl rfl ?_
    exact zRi en_184 rfl hz
  rw [if_neg h13] at k
  refine zPs (pc1 := 217) (l1 := [(0, .ref 0), (1, .int w), (2, .int a), (3, .int b), (4, .int c)]) (st1 := [.int (14 : Int32), .int w]) 2 rfl rfl rfl ?_
  refine zCn rfl (fun h14 => ?_) (fun h14 => ?_)
  rotate_left
  · rw [if_pos h14] at k
    refine zPs (pc1 := 222) (l1 := [(0, .ref 0), (1, .int w), (2, .int a), (3, .int b), (4, .int c)]) (st1 := [.int a, .ref 0]) 2 rfl rfl rfl ?_
    refine zCvH (mj := 58) (k := 0) (n := 1) rfl rfl rfl rfl (by decide) rfl rfl rfl rfl rfl rfl rfl ?_
    refine e_58 hl hCI (kA x_58 (fun v z hz => ?_) k)
    refine zPs (pc1 := 332) (l1 := [(0, .ref 0), (1, .int w), (2, .int a), (3, .int b), (4, .int c)]) (st1 := [.int v]) 1 rfl rfl rfl ?_
    exact zRi en_184 rfl hz
  rw [if_neg h14] at k
  refine zPs (pc1 := 231) (l1 := [(0, .ref 0), (1, .int w), (2, .int a), (3, .int b), (4, .int c)]) (st1 := [.int (15 : Int32), .int w]) 2 rfl rfl rfl ?_
  refine zCn rfl (fun h15 => ?_) (fun h15 => ?_)
  rotate_left
  · rw [if_pos h15] at k
    refine zPs (pc1 := 236) (l1 := [(0, .ref 0), (1, .int w), (2, .int a), (3, .int b), (4, .int c)]) (st1 := [.int a, .ref 0]) 2 rfl rfl rfl ?_
    refine zCvH (mj := 59) (k := 0) (n := 1) rfl rfl rfl rfl (by decide) rfl rfl rfl rfl rfl rfl rfl ?_
    refine e_59 hl hCI (kA x_59 (fun v z hz => ?_) k)
    refine zPs (pc1 := 332) (l1 := [(0, .ref 0), (1, .int w), (2, .int a), (3, .int b), (4, .int c)]) (st1 := [.int v]) 1 rfl rfl rfl ?_
    exact zRi en_184 rfl hz
  rw [if_neg h15] at k
  refine zPs (pc1 := 245) (l1 := [(0, .ref 0), (1, .int w), (2, .int a), (3, .int b), (4, .int c)]) (st1 := [.int (16 : Int32), .int w]) 2 rfl rfl rfl ?_
  refine zCn rfl (fun h16 => ?_) (fun h16 => ?_)
  rotate_left
  · rw [if_pos h16] at k
    refine zPs (pc1 := 250) (l1 := [(0, .ref 0), (1, .int w), (2, .int a), (3, .int b), (4, .int c)]) (st1 := [.int a, .ref 0]) 2 rfl rfl rfl ?_
    refine zCvH (mj := 60) (k := 0) (n := 1) rfl rfl rfl rfl (by decide) rfl rfl rfl rfl rfl rfl rfl ?_
    refine e_60 hl hCI (kA x_60 (fun v z hz => ?_) k)
    refine zPs (pc1 := 332) (l1 := [(0, .ref 0), (1, .int w), (2, .int a), (3, .int b), (4, .int c)]) (st1 := [.int v]) 1 rfl rfl rfl ?_
    exact zRi en_184 rfl hz
  rw [if_neg h16] at k
  refine zPs (pc1 := 259) (l1 := [(0, .ref 0), (1, .int w), (2, .int a), (3, .int b), (4, .int c)]) (st1 := [.int (17 : Int32), .int w]) 2 rfl rfl rfl ?_
  refine zCn rfl (fun h17 => ?_) (fun h17 => ?_)
  rotate_left
  · rw [if_pos h17] at k
    refine zPs (pc1 := 264) (l1 := [(0, .ref 0), (1, .int w), (2, .int a), (3, .int b), (4, .int c)]) (st1 := [.int a, .ref 0]) 2 rfl rfl rfl ?_
    refine zCvH (mj := 61) (k := 0) (n := 1) rfl rfl rfl rfl (by decide) rfl rfl rfl rfl rfl rfl rfl ?_
    refine e_61 hl hCI (kA x_61 (fun v z hz => ?_) k)
    refine zPs (pc1 := 332) (l1 := [(0, .ref 0), (1, .int w), (2, .int a), (3, .int b), (4, .int c)]) (st1 := [.int v]) 1 rfl rfl rfl ?_
    exact zRi en_184 rfl hz
  rw [if_neg h17] at k
  refine zPs (pc1 := 273) (l1 := [(0, .ref 0), (1, .int w), (2, .int a), (3, .int b), (4, .int c)]) (st1 := [.int (18 : Int32), .int w]) 2 rfl rfl rfl ?_
  refine zCn rfl (fun h18 => ?_) (fun h18 => ?_)
  rotate_left
  · rw [if_pos h18] at k
    refine zPs (pc1 := 278) (l1 := [(0, .ref 0), (1, .int w), (2, .int a), (3, .int b), (4, .int c)]) (st1 := [.int a, .ref 0]) 2 rfl rfl rfl ?_
    refine zCvH (mj := 62) (k := 0) (n := 1) rfl rfl rfl rfl (by decide) rfl rfl rfl rfl rfl rfl rfl ?_
    refine e_62 hl hCI (kA x_62 (fun v z hz => ?_) k)
    refine zPs (pc1 := 332) (l1 := [(0, .ref 0), (1, .int w), (2, .int a), (3, .int b), (4, .int c)]) (st1 := [.int v]) 1 rfl rfl rfl ?_
    exact zRi en_184 rfl hz
  rw [if_neg h18] at k
  refine zPs (pc1 := 287) (l1 := [(0, .ref 0), (1, .int w), (2, .int a), (3, .int b), (4, .int c)]) (st1 := [.int (19 : Int32), .int w]) 2 rfl rfl rfl ?_
  refine zCn rfl (fun h19 => ?_) (fun h19 => ?_)
  rotate_left
  · rw [if_pos h19] at k
    refine zPs (pc1 := 292) (l1 := [(0, .ref 0), (1, .int w), (2, .int a), (3, .int b), (4, .int c)]) (st1 := [.int a, .ref 0]) 2 rfl rfl rfl ?_
    refine zCvH (mj := 63) (k := 0) (n := 1) rfl rfl rfl rfl (by decide) rfl rfl rfl rfl rfl rfl rfl ?_
    refine e_63 hl hCI (kA x_63 (fun v z hz => ?_) k)
    refine zPs (pc1 := 332) (l1 := [(0, .ref 0), (1, .int w), (2, .int a), (3, .int b), (4, .int c)]) (st1 := [.int v]) 1 rfl rfl rfl ?_
    exact zRi en_184 rfl hz
  rw [if_neg h19] at k
  refine zPs (pc1 := 301) (l1 := [(0, .ref 0), (1, .int w), (2, .int a), (3, .int b), (4, .int c)]) (st1 := [.int (20 : Int32), .int w]) 2 rfl rfl rfl ?_
  refine zCn rfl (fun h20 => ?_) (fun h20 => ?_)
  rotate_left
  · rw [if_pos h20] at k
    refine zPs (pc1 := 306) (l1 := [(0, .ref 0), (1, .int w), (2, .int a), (3, .int b), (4, .int c)]) (st1 := [.int a, .ref 0]) 2 rfl rfl rfl ?_
    refine zCvH (mj := 64) (k := 0) (n := 1) rfl rfl rfl rfl (by decide) rfl rfl rfl rfl rfl rfl rfl ?_
    refine e_64 hl hCI (kA x_64 (fun v z hz => ?_) k)
    refine zPs (pc1 := 332) (l1 := [(0, .ref 0), (1, .int w), (2, .int a), (3, .int b), (4, .int c)]) (st1 := [.int v]) 1 rfl rfl rfl ?_
    exact zRi en_184 rfl hz
  rw [if_neg h20] at k
  refine zPs (pc1 := 315) (l1 := [(0, .ref 0), (1, .int w), (2, .int a), (3, .int b), (4, .int c)]) (st1 := [.int (21 : Int32), .int w]) 2 rfl rfl rfl ?_
  refine zCn rfl (fun h21 => ?_) (fun h21 => ?_)
  rotate_left
  · rw [if_pos h21] at k
    refine zPs (pc1 := 321) (l1 := [(0, .ref 0), (1, .int w), (2, .int a), (3, .int b), (4, .int c)]) (st1 := [.int b, .int a, .ref 0]) 3 rfl rfl rfl ?_
    refine zCvH (mj := 65) (k := 0) (n := 2) rfl rfl rfl rfl (by decide) rfl rfl rfl rfl rfl rfl rfl ?_
    refine e_65 hl hCI (kA x_65 (fun v z hz => ?_) k)
    refine zPs (pc1 := 332) (l1 := [(0, .ref 0), (1, .int w), (2, .int a), (3, .int b), (4, .int c)]) (st1 := [.int v]) 1 rfl rfl rfl ?_
    exact zRi en_184 rfl hz
  rw [if_neg h21] at k
  refine zPs (pc1 := 329) (l1 := [(0, .ref 0), (1, .int w), (2, .int a), (3, .int b), (4, .int c)]) (st1 := [.int a, .ref 0]) 2 rfl rfl rfl ?_
  refine zCvH (mj := 66) (k := 0) (n := 1) rfl rfl rfl rfl (by decide) rfl rfl rfl rfl rfl rfl rfl ?_
  refine e_66 hl hCI (kA x_66 (fun v z hz => ?_) k)
  exact zRi en_184 rfl hz
def f_186 (a b c d e : Int32) (l : Sg) : Int32 := if l 311 a.toNatClampNeg = b then (if l 312 a.toNatClampNeg = c then (if l 313 a.toNatClampNeg = d then (if l 317 a.toNatClampNeg = e then 1 else 0) else 0) else 0) else 0
theorem e_186 {l : Sg} {P : MO → Sg → Prop} {n : Nat} {a b c d e : Int32} (hl : n ≤ 60) (hCI : CI l n) (ha : isCl n a) (k : P (.inl (some (.int (f_186 a b c d e l)))) l) : Es false 186 [.ref 0, .int a, .int b, .int c, .int d, .int e] l P := by
  unfold f_186 at k
  refine Es.of ?_
  refine zPs (pc1 := 2) (l1 := [(0, .ref 0), (1, .int a), (2, .int b), (3, .int c), (4, .int d), (5, .int e)]) (st1 := [.int a, .ref 0]) 2 rfl rfl rfl ?_
  refine zCv (mj := 56) (k := 0) (n := 1) rfl rfl rfl rfl (by decide) rfl rfl rfl rfl rfl rfl ?_
  refine e_56 hl hCI ?_
  unfold f_56
  rw [if_pos ha]
  refine kI ?_
  refine zPs (pc1 := 6) (l1 := [(0, .ref 0), (1, .int a), (2, .int b), (3, .int c), (4, .int d), (5, .int e)]) (st1 := [.int b, .int (l 311 a.toNatClampNeg)]) 1 rfl rfl rfl ?_
  refine zCn rfl (fun h0 => ?_) (fun h0 => ?_)
  · rw [if_neg h0] at k
    refine zPs (pc1 := 43) (l1 := [(0, .ref 0), (1, .int a), (2, .int b), (3, .int c), (4, .int d), (5, .int e)]) (st1 := [.int (0 : Int32)]) 1 rfl rfl rfl ?_
    exact zRz rfl rfl (Or.inl rfl) k
  rw [if_pos h0] at k
  refine zPs (pc1 := 11) (l1 := [(0, .ref 0), (1, .int a), (2, .int b), (3, .int c), (4, .int d), (5, .int e)]) (st1 := [.int a, .ref 0]) 2 rfl rfl rfl ?_
  refine zCv (mj := 57) (k := 0) (n := 1) rfl rfl rfl rfl (by decide) rfl rfl rfl rfl rfl rfl ?_
  refine e_57 hl hCI ?_
  unfold f_57
  rw [if_pos ha]
  refine kI ?_
  refine zPs (pc1 := 15) (l1 := [(0, .ref 0), (1, .int a), (2, .int b), (3, .int c), (4, .int d), (5, .int e)]) (st1 := [.int c, .int (l 312 a.toNatClampNeg)]) 1 rfl rfl rfl ?_
  refine zCn rfl (fun h1 => ?_) (fun h1 => ?_)
  · rw [if_neg h1] at k
    refine zPs (pc1 := 43) (l1 := [(0, .ref 0), (1, .int a), (2, .int b), (3, .int c), (4, .int d), (5, .int e)]) (st1 := [.int (0 : Int32)]) 1 rfl rfl rfl ?_
    exact zRz rfl rfl (Or.inl rfl) k
  rw [if_pos h1] at k
  refine zPs (pc1 := 20) (l1 := [(0, .ref 0), (1, .int a), (2, .int b), (3, .int c), (4, .int d), (5, .int e)]) (st1 := [.int a, .ref 0]) 2 rfl rfl rfl ?_
  refine zCv (mj := 58) (k := 0) (n := 1) rfl rfl rfl rfl (by decide) rfl rfl rfl rfl rfl rfl ?_
  refine e_58 hl hCI ?_
  unfold f_58
  rw [if_pos ha]
  refine kI ?_
  refine zPs (pc1 := 25) (l1 := [(0, .ref 0), (1, .int a), (2, .int b), (3, .int c), (4, .int d), (5, .int e)]) (st1 := [.int d, .int (l 313 a.toNatClampNeg)]) 1 rfl rfl rfl ?_
  refine zCn rfl (fun h2 => ?_) (fun h2 => ?_)
  · rw [if_neg h2] at k
    refine zPs (pc1 := 43) (l1 := [(0, .ref 0), (1, .int a), (2, .int b), (3, .int c), (4, .int d), (5, .int e)]) (st1 := [.int (0 : Int32)]) 1 rfl rfl rfl ?_
    exact zRz rfl rfl (Or.inl rfl) k
  rw [if_pos h2] at k
  refine zPs (pc1 := 30) (l1 := [(0, .ref 0), (1, .int a), (2, .int b), (3, .int c), (4, .int d), (5, .int e)]) (st1 := [.int a, .ref 0]) 2 rfl rfl rfl ?_
  refine zCv (mj := 59) (k := 0) (n := 1) rfl rfl rfl rfl (by decide) rfl rfl rfl rfl rfl rfl ?_
  refine e_59 hl hCI ?_
  unfold f_59
  rw [if_pos ha]
  refine kI ?_
  refine zPs (pc1 := 35) (l1 := [(0, .ref 0), (1, .int a), (2, .int b), (3, .int c), (4, .int d), (5, .int e)]) (st1 := [.int e, .int (l 317 a.toNatClampNeg)]) 1 rfl rfl rfl ?_
  refine zCn rfl (fun h3 => ?_) (fun h3 => ?_)
  · rw [if_neg h3] at k
    refine zPs (pc1 := 43) (l1 := [(0, .ref 0), (1, .int a), (2, .int b), (3, .int c), (4, .int d), (5, .int e)]) (st1 := [.int (0 : Int32)]) 1 rfl rfl rfl ?_
    exact zRz rfl rfl (Or.inl rfl) k
  rw [if_pos h3] at k
  refine zPs (pc1 := 43) (l1 := [(0, .ref 0), (1, .int a), (2, .int b), (3, .int c), (4, .int d), (5, .int e)]) (st1 := [.int (1 : Int32)]) 2 rfl rfl rfl ?_
  exact zRz rfl rfl (Or.inr rfl) k
