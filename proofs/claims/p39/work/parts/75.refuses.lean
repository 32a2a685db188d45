/-! ===== refuses answers true and leaves the memory as it is ===== -/
section RI
variable {n : Nat} {l : Sg} {P : MO → Sg → Prop} {x y z : Int32} {pc rc rs : Nat} {ml : ML} {st : List Value} {E : ME}
theorem ri_call {q : Nat × Int32} (hl : n ≤ 60) (hCI : CI l n) (hh : ∀ i, i < 84 → l 295 i = 0 ∨ l 295 i = 1) (hE : mEnt 185 pc = some E) (hq : riC n E st = some q) (hrm : rmOk 185 q.1 rc rs = true) (k : Ws false 185 (rc - mMc q.1) (rs - mMs q.1) E.2.1 ml [.int q.2] l P) : Ws false 185 rc rs pc ml st l P := by
  obtain ⟨i, nx, ts, d⟩ := E
  cases i
  case invokestatic i0 =>
    simp only [riC] at hq
    split at hq
    · rename_i q9 f e d9 c b a w k0 hf
      obtain ⟨⟨mj, kd⟩, li⟩ := q9
      cases hb : (Nat.beq mj 183 && Nat.beq kd 0) && Nat.beq k0 0
      · dsimp only at hq
        rw [hb] at hq; cases hq
      · dsimp only at hq
        rw [hb] at hq
        simp only [cond_true] at hq
        simp only [Bool.and_eq_true, Nat.beq_eq] at hb
        obtain ⟨⟨rfl, rfl⟩, rfl⟩ := hb
        split at hq
        · rename_i x9 hv
          cases hq
          refine zCs (mj := 183) (rest := []) hE hf rfl rfl rfl rfl hrm rfl ?_
          refine e_183 hl hCI ?_
          rw [vD_ok hv]
          exact k
        · cases hq
    · rename_i q9 c b a w k0 hf
      obtain ⟨⟨mj, kd⟩, li⟩ := q9
      cases hb : (Nat.beq mj 184 && Nat.beq kd 0) && Nat.beq k0 0
      · dsimp only at hq
        rw [hb] at hq; cases hq
      · dsimp only at hq
        rw [hb] at hq
        simp only [cond_true] at hq
        simp only [Bool.and_eq_true, Nat.beq_eq] at hb
        obtain ⟨⟨rfl, rfl⟩, rfl⟩ := hb
        split at hq
        · rename_i x9 hv
          cases hq
          refine zCs (mj := 184) (rest := []) hE hf rfl rfl rfl rfl hrm rfl ?_
          refine e_184 hl hCI hh ?_
          rw [vC_ok hv]
          exact k
        · cases hq
    · cases hq
  all_goals exact absurd hq (by simp [riC])
theorem ri_ldc {v : Int32} (hE : mEnt 185 pc = some E) (hq : riL E = some v) (k : Ws false 185 rc rs E.2.1 ml (.int v :: st) l P) : Ws false 185 rc rs pc ml st l P := by
  obtain ⟨i, nx, ts, d⟩ := E
  cases i
  case ldc i0 =>
    simp only [riL] at hq
    split at hq
    · rename_i q hf
      obtain ⟨v9, wi⟩ := q
      cases hq
      exact zLdc hE hf k
    · cases hq
  case ldc_w i0 =>
    simp only [riL] at hq
    split at hq
    · rename_i q hf
      obtain ⟨v9, wi⟩ := q
      cases hq
      exact zLdcw hE hf k
    · cases hq
  all_goals exact absurd hq (by simp [riL])
theorem ri_sound (hl : n ≤ 60) (hCI : CI l n) (hh : ∀ i, i < 84 → l 295 i = 0 ∨ l 295 i = 1) {stop : Nat} : ∀ (g pc : Nat) (ml : ML) (st : List Value) (rc rs : Nat) (ml' : ML) (rc' rs' : Nat), ri n stop g pc ml st rc rs = some (ml', rc', rs') → Ws false 185 rc' rs' stop (ml' ++ X3 x y z) [] l P → Ws false 185 rc rs pc (ml ++ X3 x y z) st l P := by
  intro g
  induction g with
  | zero => intro pc ml st rc rs ml' rc' rs' h; simp [ri] at h
  | succ g ih =>
    intro pc ml st rc rs ml' rc' rs' h k
    simp only [ri] at h
    cases hs : Nat.beq pc stop && st.isEmpty
    · rw [hs] at h
      simp only [cond_false] at h
      split at h
      · cases h
      · rename_i E hE
        have hE' := ent_185 hE
        split at h
        · rename_i q hq
          obtain ⟨pc1, l1, st1⟩ := q
          cases ho : okS E
          · rw [ho] at h; cases h
          · rw [ho] at h
            have k2 := ih _ _ _ _ _ _ _ _ h k
            exact fun w => wP hE' (stepP_app ho hq) (k2 w)
        · split at h
          · rename_i q hq
            cases hrm : rmOk 185 q.1 rc rs
            · rw [hrm] at h; cases h
            · rw [hrm] at h
              simp only [cond_true, sN_eq] at h
              exact ri_call hl hCI hh hE' hq hrm (ih _ _ _ _ _ _ _ _ h k)
          · split at h
            · rename_i v hv
              exact ri_ldc hE' hv (ih _ _ _ _ _ _ _ _ h k)
            · cases h
    · rw [hs] at h
      simp only [cond_true] at h
      cases h
      rw [Bool.and_eq_true, Nat.beq_eq, List.isEmpty_iff] at hs
      obtain ⟨rfl, rfl⟩ := hs
      exact k
end RI
theorem zP1 {mi rc rs pc pc1 : Nat} {ml l1 : ML} {st st1 : List Value} {z : Sg} {P : MO → Sg → Prop} {E : ME} (hE : mEnt mi pc = some E) (hs : stepP (mNL mi) E ml st = some (pc1, l1, st1)) (k : Ws false mi rc rs pc1 l1 st1 z P) : Ws false mi rc rs pc ml st z P := fun w => wP hE hs (k w)
theorem en_1604 : mEnt 185 1604 = some (.aload_n 0, 1605, [], 0) := ent_185 (by decide +kernel)
theorem en_1605 : mEnt 185 1605 = some (.invokevirtual 147, 1608, [], 0) := ent_185 (by decide +kernel)
theorem en_1608 : mEnt 185 1608 = some (.iload_n 1, 1609, [], 0) := ent_185 (by decide +kernel)
theorem en_1609 : mEnt 185 1609 = some (.if_icmp .ne 34, 1612, [], 1643) := ent_185 (by decide +kernel)
theorem en_1612 : mEnt 185 1612 = some (.aload_n 0, 1613, [], 0) := ent_185 (by decide +kernel)
theorem en_1613 : mEnt 185 1613 = some (.invokevirtual 133, 1616, [], 0) := ent_185 (by decide +kernel)
theorem en_1616 : mEnt 185 1616 = some (.iload_n 2, 1617, [], 0) := ent_185 (by decide +kernel)
theorem en_1617 : mEnt 185 1617 = some (.if_icmp .ne 26, 1620, [], 1643) := ent_185 (by decide +kernel)
theorem en_1620 : mEnt 185 1620 = some (.aload_n 0, 1621, [], 0) := ent_185 (by decide +kernel)
theorem en_1621 : mEnt 185 1621 = some (.iconst 0, 1622, [(0, 0)], 0) := ent_185 (by decide +kernel)
theorem en_1622 : mEnt 185 1622 = some (.invokevirtual 118, 1625, [], 0) := ent_185 (by decide +kernel)
theorem en_1625 : mEnt 185 1625 = some (.iload_n 3, 1626, [], 0) := ent_185 (by decide +kernel)
theorem en_1626 : mEnt 185 1626 = some (.if_icmp .ne 17, 1629, [], 1643) := ent_185 (by decide +kernel)
theorem en_1629 : mEnt 185 1629 = some (.aload_n 0, 1630, [], 0) := ent_185 (by decide +kernel)
theorem en_1630 : mEnt 185 1630 = some (.iconst 0, 1631, [(0, 0)], 0) := ent_185 (by decide +kernel)
theorem en_1631 : mEnt 185 1631 = some (.invokevirtual 121, 1634, [], 0) := ent_185 (by decide +kernel)
theorem en_1634 : mEnt 185 1634 = some (.iload 4, 1636, [], 0) := ent_185 (by decide +kernel)
theorem en_1636 : mEnt 185 1636 = some (.if_icmp .ne 7, 1639, [], 1643) := ent_185 (by decide +kernel)
theorem en_1639 : mEnt 185 1639 = some (.iconst 1, 1640, [(1, 0)], 0) := ent_185 (by decide +kernel)
theorem en_1640 : mEnt 185 1640 = some (.goto 4, 1643, [], 1644) := ent_185 (by decide +kernel)
theorem en_1644 : mEnt 185 1644 = some (.ireturn, 1645, [], 0) := ent_185 (by decide +kernel)
def ml185 (n : Nat) : ML := [(0, .ref 0), (1, .int (i32 n))]
noncomputable def riOK (n : Nat) : Bool := match ri n 1604 30000 18 (ml185 n) [] (mMc 185 - mMc 44 - mMc 62 - mMc 63) (mMs 185 - mMs 44 - mMs 62 - mMs 63) with
  | some (ml, rc, rs) => (decide (lget ml 0 = some (.ref 0)) && decide (lget ml 1 = some (.int (i32 n)))) && ((cat1 ml && ((lget ml 2).isNone && ((lget ml 3).isNone && (lget ml 4).isNone))) && (Nat.ble 10 rc && Nat.ble 60 rs))
  | none => false
theorem lget_none : ∀ {l X : ML} {i : Nat}, (lget l i).isNone = true → lget (l ++ X) i = lget X i
  | [], _, _, _ => rfl
  | q :: r, X, i, h => by
    simp only [lget, List.cons_append] at h ⊢
    cases hq : q.1 == i
    · rw [hq] at h
      exact lget_none h
    · rw [hq] at h
      cases h
theorem rm_ge {mi mj rc rs : Nat} (h : (Nat.ble (mHt mj + 1) (mHt mi) && Nat.ble (19 + mNL mj + mLo mj) (mLo mi)) = true) (h1 : mMc mj ≤ rc) (h2 : mMs mj ≤ rs) : rmOk mi mj rc rs = true := by
  unfold rmOk
  rw [h, Nat.ble_eq.mpr h1, Nat.ble_eq.mpr h2]
  rfl
theorem e_185 {n : Nat} {l : Sg} {P : MO → Sg → Prop} (hl : n ≤ 60) (hCI : CI l n) (hh : ∀ i, i < 84 → l 295 i = 0 ∨ l 295 i = 1) (hr : riOK n = true) (k : P (.inl (some (.int 1))) l) : Es false 185 [.ref 0, .int (i32 n)] l P := by
  refine Es.of ?_
  refine zPs (pc1 := 1) (l1 := ml185 n) (st1 := [.ref 0]) 1 rfl rfl rfl ?_
  refine zCv (mj := 44) (k := 0) (n := 0) rfl rfl rfl rfl (by decide) rfl rfl rfl rfl rfl rfl ?_
  refine e_44 ?_
  refine kI ?_
  obtain ⟨op, hop⟩ : ∃ op, op = f_44 l := ⟨_, rfl⟩
  rw [← hop]
  refine zPs (pc1 := 7) (l1 := [(2, .int op), (0, .ref 0), (1, .int (i32 n))]) (st1 := [.int 0, .ref 0]) 3 rfl rfl rfl ?_
  refine zCv (mj := 62) (k := 0) (n := 1) rfl rfl rfl rfl (by decide) rfl rfl rfl rfl rfl rfl ?_
  refine e_62 hl hCI ?_
  have h62 : f_62 n 0 l = (.inl (f_102 n 0 l), l) := by
    unfold f_62
    rw [if_pos (by decide)]
  rw [h62]
  obtain ⟨wt, hwt⟩ : ∃ wt, wt = f_102 n 0 l := ⟨_, rfl⟩
  rw [← hwt]
  refine kI ?_
  refine zPs (pc1 := 13) (l1 := [(3, .int wt), (2, .int op), (0, .ref 0), (1, .int (i32 n))]) (st1 := [.int 0, .ref 0]) 3 rfl rfl rfl ?_
  refine zCv (mj := 63) (k := 0) (n := 1) rfl rfl rfl rfl (by decide) rfl rfl rfl rfl rfl rfl ?_
  refine e_63 hl hCI ?_
  have h63 : f_63 n 0 l = (.inl (l 326 0), l) := by
    unfold f_63
    rw [if_pos (by decide)]
    rfl
  rw [h63]
  refine kI ?_
  refine zPs (pc1 := 18) (l1 := [(4, .int (l 326 0)), (3, .int wt), (2, .int op), (0, .ref 0), (1, .int (i32 n))]) (st1 := []) 1 rfl rfl rfl ?_
  refine zMl (ml' := ml185 n ++ X3 op wt (l 326 0)) ⟨rfl, rfl, rfl, rfl, rfl, trivial⟩ rfl rfl ?_
  unfold riOK at hr
  split at hr
  · rename_i ml rc rs hri
    simp only [Bool.and_eq_true, decide_eq_true_eq, Nat.ble_eq] at hr
    obtain ⟨⟨g0, g1⟩, ⟨gc, g2, g3, g4⟩, g5, g6⟩ := hr
    refine ri_sound hl hCI hh _ _ _ _ _ _ _ _ _ hri ?_
    have hc : cat1 (ml ++ X3 op wt (l 326 0)) = true := by
      unfold cat1 at gc ⊢
      rw [List.all_append, gc]
      rfl
    refine zMl (ml' := [(0, .ref 0), (1, .int (i32 n)), (2, .int op), (3, .int wt), (4, .int (l 326 0))]) ⟨lget_app g0, lget_app g1, lget_none g2, lget_none g3, lget_none g4, trivial⟩ hc rfl ?_
    have e55 : mMc 55 = 0 ∧ mMs 55 = 0 ∧ mMc 44 = 0 ∧ mMs 44 = 0 ∧ mMc 62 = 1 ∧ mMs 62 = 6 ∧ mMc 63 = 1 ∧ mMs 63 = 6 := by decide
    refine zP1 (pc1 := 1605) (l1 := [(0, .ref 0), (1, .int (i32 n)), (2, .int op), (3, .int wt), (4, .int (l 326 0))]) (st1 := [.ref 0]) en_1604 rfl ?_
    refine zCv (mj := 55) (k := 0) (n := 0) en_1605 rfl rfl rfl (by decide) rfl rfl rfl rfl (rm_ge rfl (by omega) (by omega)) rfl ?_
    refine e_55 hl hCI ?_
    refine kI ?_
    refine zP1 (pc1 := 1609) (l1 := [(0, .ref 0), (1, .int (i32 n)), (2, .int op), (3, .int wt), (4, .int (l 326 0))]) (st1 := [.int (i32 n), .int (i32 n)]) en_1608 rfl ?_
    refine zCn en_1609 (fun h => absurd rfl h) (fun _ => ?_)
    refine zP1 (pc1 := 1613) (l1 := [(0, .ref 0), (1, .int (i32 n)), (2, .int op), (3, .int wt), (4, .int (l 326 0))]) (st1 := [.ref 0]) en_1612 rfl ?_
    refine zCv (mj := 44) (k := 0) (n := 0) en_1613 rfl rfl rfl (by decide) rfl rfl rfl rfl (rm_ge rfl (by omega) (by omega)) rfl ?_
    refine e_44 ?_
    rw [← hop]
    refine kI ?_
    refine zP1 (pc1 := 1617) (l1 := [(0, .ref 0), (1, .int (i32 n)), (2, .int op), (3, .int wt), (4, .int (l 326 0))]) (st1 := [.int op, .int op]) en_1616 rfl ?_
    refine zCn en_1617 (fun h => absurd rfl h) (fun _ => ?_)
    refine zP1 (pc1 := 1621) (l1 := [(0, .ref 0), (1, .int (i32 n)), (2, .int op), (3, .int wt), (4, .int (l 326 0))]) (st1 := [.ref 0]) en_1620 rfl ?_
    refine zP1 (pc1 := 1622) (l1 := [(0, .ref 0), (1, .int (i32 n)), (2, .int op), (3, .int wt), (4, .int (l 326 0))]) (st1 := [.int 0, .ref 0]) en_1621 rfl ?_
    refine zCv (mj := 62) (k := 0) (n := 1) en_1622 rfl rfl rfl (by decide) rfl rfl rfl rfl (rm_ge rfl (by omega) (by omega)) rfl ?_
    refine e_62 hl hCI ?_
    rw [h62, ← hwt]
    refine kI ?_
    refine zP1 (pc1 := 1626) (l1 := [(0, .ref 0), (1, .int (i32 n)), (2, .int op), (3, .int wt), (4, .int (l 326 0))]) (st1 := [.int wt, .int wt]) en_1625 rfl ?_
    refine zCn en_1626 (fun h => absurd rfl h) (fun _ => ?_)
    refine zP1 (pc1 := 1630) (l1 := [(0, .ref 0), (1, .int (i32 n)), (2, .int op), (3, .int wt), (4, .int (l 326 0))]) (st1 := [.ref 0]) en_1629 rfl ?_
    refine zP1 (pc1 := 1631) (l1 := [(0, .ref 0), (1, .int (i32 n)), (2, .int op), (3, .int wt), (4, .int (l 326 0))]) (st1 := [.int 0, .ref 0]) en_1630 rfl ?_
    refine zCv (mj := 63) (k := 0) (n := 1) en_1631 rfl rfl rfl (by decide) rfl rfl rfl rfl (rm_ge rfl (by omega) (by omega)) rfl ?_
    refine e_63 hl hCI ?_
    rw [h63]
    refine kI ?_
    refine zP1 (pc1 := 1636) (l1 := [(0, .ref 0), (1, .int (i32 n)), (2, .int op), (3, .int wt), (4, .int (l 326 0))]) (st1 := [.int (l 326 0), .int (l 326 0)]) en_1634 rfl ?_
    refine zCn en_1636 (fun h => absurd rfl h) (fun _ => ?_)
    refine zP1 (pc1 := 1640) (l1 := [(0, .ref 0), (1, .int (i32 n)), (2, .int op), (3, .int wt), (4, .int (l 326 0))]) (st1 := [.int 1]) en_1639 rfl ?_
    refine zP1 (pc1 := 1644) (l1 := [(0, .ref 0), (1, .int (i32 n)), (2, .int op), (3, .int wt), (4, .int (l 326 0))]) (st1 := [.int 1]) en_1640 rfl ?_
    exact zRz en_1644 rfl (Or.inr rfl) k
  · cases hr
