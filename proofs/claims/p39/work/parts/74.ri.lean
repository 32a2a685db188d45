/-! ===== refuses: its steps while the memory stays as it is ===== -/
def lkB : List (Nat × List (Nat × ME)) → Nat → Option ME
  | [], _ => none
  | b :: r, pc => bif Nat.ble pc b.1 then lk b.2 pc else lkB r pc
theorem lk_app : ∀ {a b : List (Nat × ME)} {pc : Nat} {E : ME}, lk a pc = some E → lk (a ++ b) pc = some E
  | q :: r, b, pc, E, h => by
    simp only [lk, List.cons_append] at h ⊢
    cases hq : q.1 == pc
    · rw [hq] at h
      exact lk_app h
    · rw [hq] at h
      exact h
theorem lk_skip : ∀ {a b : List (Nat × ME)} {pc : Nat}, a.all (fun q => !(q.1 == pc)) = true → lk (a ++ b) pc = lk b pc
  | [], _, _, _ => rfl
  | q :: r, b, pc, h => by
    rw [List.all_cons, Bool.and_eq_true, Bool.not_eq_true'] at h
    simp only [lk, List.cons_append]
    rw [h.1]
    exact lk_skip h.2
def okB (T : List (Nat × List (Nat × ME))) : Bool := T.all (fun b => b.2.all (fun q => Nat.ble q.1 b.1))
theorem lkB_lk : ∀ {T : List (Nat × List (Nat × ME))} {pc : Nat} {E : ME}, okB T = true → lkB T pc = some E → lk (T.flatMap (fun b => b.2)) pc = some E
  | b :: r, pc, E, hk, h => by
    unfold okB at hk
    rw [List.all_cons, Bool.and_eq_true] at hk
    simp only [lkB] at h
    rw [List.flatMap_cons]
    cases hq : Nat.ble pc b.1
    · rw [hq] at h
      rw [lk_skip]
      · exact lkB_lk hk.2 h
      · rw [List.all_eq_true]
        intro q hm
        have h1 := Nat.le_of_ble_eq_true (List.all_eq_true.mp hk.1 q hm)
        have h2 : ¬ pc ≤ b.1 := fun z => by rw [Nat.ble_eq.mpr z] at hq; cases hq
        simp only [Bool.not_eq_true', beq_eq_false_iff_ne, ne_eq]
        omega
    · rw [hq] at h
      exact lk_app h
def T_185 : List (Nat × List (Nat × ME)) := [(43, k_185_0), (96, k_185_1), (148, k_185_2), (189, k_185_3), (227, k_185_4), (266, k_185_5), (311, k_185_6), (349, k_185_7), (393, k_185_8), (438, k_185_9), (476, k_185_10), (518, k_185_11), (562, k_185_12), (602, k_185_13), (642, k_185_14), (684, k_185_15), (724, k_185_16), (768, k_185_17), (808, k_185_18), (854, k_185_19), (902, k_185_20), (946, k_185_21), (991, k_185_22), (1040, k_185_23), (1086, k_185_24), (1139, k_185_25), (1190, k_185_26), (1238, k_185_27), (1287, k_185_28), (1337, k_185_29), (1387, k_185_30), (1435, k_185_31), (1487, k_185_32), (1539, k_185_33), (1588, k_185_34), (1639, k_185_35), (1644, k_185_36)]
theorem T_185_ok : okB T_185 = true := by decide +kernel
theorem T_185_k : T_185.flatMap (fun b => b.2) = k_185 := by
  unfold T_185 k_185
  simp only [List.flatMap_cons, List.flatMap_nil, List.append_nil]
theorem ent_185 {pc : Nat} {E : ME} (h : lkB T_185 pc = some E) : mEnt 185 pc = some E := by
  have h1 := lkB_lk T_185_ok h
  rw [T_185_k] at h1
  exact h1
/-- the step leaves the locals 2, 3, 4 as they are -/
def okS (E : ME) : Bool := match E.1 with
  | .istore k => !(k == 2 || (k == 3 || k == 4))
  | .istore_n k => !(k.val == 2 || (k.val == 3 || k.val == 4))
  | .astore _ => false
  | .astore_n _ => false
  | .iinc k _ => !(k == 2 || (k == 3 || k == 4))
  | _ => true
def X3 (x y z : Int32) : ML := [(2, .int x), (3, .int y), (4, .int z)]
theorem lget_app : ∀ {l X : ML} {i : Nat} {v : Value}, lget l i = some v → lget (l ++ X) i = some v
  | q :: r, X, i, v, h => by
    simp only [lget, List.cons_append] at h ⊢
    cases hq : q.1 == i
    · rw [hq] at h
      exact lget_app h
    · rw [hq] at h
      exact h
theorem lset_app {l : ML} {i : Nat} {v : Value} {x y z : Int32} (h : (!(i == 2 || (i == 3 || i == 4))) = true) : lset (l ++ X3 x y z) i v = lset l i v ++ X3 x y z := by
  simp only [Bool.not_eq_true', Bool.or_eq_false_iff, beq_eq_false_iff_ne, ne_eq] at h
  obtain ⟨h1, h2, h3⟩ := h
  unfold lset X3
  rw [List.filter_append, List.cons_append]
  congr 2
  have a1 : (2 == i) = false := by rw [beq_eq_false_iff_ne]; exact fun q => h1 q.symm
  have a2 : (3 == i) = false := by rw [beq_eq_false_iff_ne]; exact fun q => h2 q.symm
  have a3 : (4 == i) = false := by rw [beq_eq_false_iff_ne]; exact fun q => h3 q.symm
  have c : ∀ w : Int32, ((Value.int w).category == 2) = false := fun w => rfl
  simp only [List.filter_cons, List.filter_nil, a1, a2, a3, c, Bool.and_false, Bool.not_false, Bool.and_self, if_true]
section APP
variable {nL pc1 : Nat} {E : ME} {ml l1 : ML} {st st1 : List Value} {x y z : Int32}
theorem ldI_app {k : Nat} (h : ldI E ml st k = some (pc1, l1, st1)) : ldI E (ml ++ X3 x y z) st k = some (pc1, l1 ++ X3 x y z, st1) := by
  unfold ldI at h ⊢
  split at h
  · rename_i v hv
    rw [lget_app hv]
    cases h
    rfl
  · cases h
theorem ldA_app {k : Nat} (h : ldA E ml st k = some (pc1, l1, st1)) : ldA E (ml ++ X3 x y z) st k = some (pc1, l1 ++ X3 x y z, st1) := by
  unfold ldA at h ⊢
  split at h
  · rename_i v hv
    rw [lget_app hv]
    cases h
    rfl
  · cases h
theorem stI_app {k : Nat} (hk : (!(k == 2 || (k == 3 || k == 4))) = true) (h : stI nL E ml st k = some (pc1, l1, st1)) : stI nL E (ml ++ X3 x y z) st k = some (pc1, l1 ++ X3 x y z, st1) := by
  unfold stI at h ⊢
  split at h
  · rename_i v st0
    cases hb : Nat.blt k nL
    · rw [hb] at h; cases h
    · rw [hb] at h
      simp only [cond_true] at h ⊢
      cases h
      rw [lset_app hk]
  · cases h
theorem inc_app {k : Nat} (hk : (!(k == 2 || (k == 3 || k == 4))) = true) (h : inc nL E ml st k = some (pc1, l1, st1)) : inc nL E (ml ++ X3 x y z) st k = some (pc1, l1 ++ X3 x y z, st1) := by
  unfold inc at h ⊢
  split at h
  · rename_i v q r hv hq
    rw [lget_app hv, hq]
    cases hb : Nat.blt k nL
    · rw [hb] at h; cases h
    · rw [hb] at h
      simp only [cond_true] at h ⊢
      cases h
      rw [lset_app hk]
  · cases h
theorem kst_app (h : kst E ml st = some (pc1, l1, st1)) : kst E (ml ++ X3 x y z) st = some (pc1, l1 ++ X3 x y z, st1) := by
  unfold kst at h ⊢
  split at h
  · cases h
  · cases h
    rfl
theorem bin_app {f : Int32 → Int32 → Int32} (h : bin f E ml st = some (pc1, l1, st1)) : bin f E (ml ++ X3 x y z) st = some (pc1, l1 ++ X3 x y z, st1) := by
  unfold bin at h ⊢
  split at h
  · cases h
    rfl
  · cases h
theorem stepP_app (hs : okS E = true) (h : stepP nL E ml st = some (pc1, l1, st1)) : stepP nL E (ml ++ X3 x y z) st = some (pc1, l1 ++ X3 x y z, st1) := by
  obtain ⟨i, nx, ts, d⟩ := E
  cases i
  case iconst n => exact kst_app h
  case bipush n => exact kst_app h
  case sipush n => exact kst_app h
  case iload_n k => exact ldI_app h
  case iload k => exact ldI_app h
  case aload_n k => exact ldA_app h
  case aload k => exact ldA_app h
  case istore_n k => exact stI_app hs h
  case istore k => exact stI_app hs h
  case astore_n k => exact absurd hs (by simp [okS])
  case astore k => exact absurd hs (by simp [okS])
  case iinc k n => exact inc_app hs h
  case iadd => exact bin_app h
  case isub => exact bin_app h
  case imul => exact bin_app h
  case iand => exact bin_app h
  case ior => exact bin_app h
  case ishl => exact bin_app h
  case ishr => exact bin_app h
  case goto o =>
    simp only [stepP] at h ⊢
    cases h
    rfl
  case ineg =>
    simp only [stepP] at h ⊢
    split at h
    · cases h
      rfl
    · cases h
  case ifCond c o =>
    simp only [stepP] at h ⊢
    split at h
    · cases h
      rfl
    · cases h
  case if_icmp c o =>
    simp only [stepP] at h ⊢
    split at h
    · cases h
      rfl
    · cases h
  case lconst n =>
    simp only [stepP] at h ⊢
    cases h
    rfl
  case idiv =>
    simp only [stepP, bind0] at h ⊢
    split at h
    · split at h
      · cases h
      · rename_i hz
        rw [if_neg hz]
        cases h
        rfl
    · cases h
  case irem =>
    simp only [stepP, bind0] at h ⊢
    split at h
    · split at h
      · cases h
      · rename_i hz
        rw [if_neg hz]
        cases h
        rfl
    · cases h
  case i2l =>
    simp only [stepP] at h ⊢
    split at h
    · cases h
      rfl
    · cases h
  case lcmp =>
    simp only [stepP] at h ⊢
    split at h
    · cases h
      rfl
    · cases h
  case dup =>
    simp only [stepP] at h ⊢
    split at h
    · rename_i v st0
      cases hb : v.category == 1
      · rw [hb] at h; cases h
      · rw [hb] at h
        simp only [cond_true] at h ⊢
        cases h
        rfl
    · cases h
  case pop =>
    simp only [stepP] at h ⊢
    split at h
    · rename_i v st0
      cases hb : v.category == 1
      · rw [hb] at h; cases h
      · rw [hb] at h
        simp only [cond_true] at h ⊢
        cases h
        rfl
    · cases h
  case dup2 =>
    simp only [stepP] at h ⊢
    split at h
    · rename_i v w st0
      cases hb : v.category == 1 && w.category == 1
      · rw [hb] at h; cases h
      · rw [hb] at h
        simp only [cond_true] at h ⊢
        cases h
        rfl
    · cases h
  case tableswitch a b c e =>
    simp only [stepP] at h ⊢
    split at h
    · cases h
      rfl
    · cases h
  case lookupswitch a b =>
    simp only [stepP] at h ⊢
    split at h
    · cases h
      rfl
    · cases h
  all_goals exact absurd h (by simp [stepP])
end APP
/-- what a refused call of tell (183), act (184) answers, whatever the memory holds -/
noncomputable def riC (n : Nat) (E : ME) (st : List Value) : Option (Nat × Int32) := match E.1 with
  | .invokestatic i => match lk2 calL 10 i, st with
    | some q, [.int f, .int e, .int d, .int c, .int b, .int a, .int w, .ref k] => bif (Nat.beq q.1.1 183 && Nat.beq q.1.2 0) && Nat.beq k 0 then (match vD n w a b c d e f with | some x => some (183, exA x) | none => none) else none
    | some q, [.int c, .int b, .int a, .int w, .ref k] => bif (Nat.beq q.1.1 184 && Nat.beq q.1.2 0) && Nat.beq k 0 then (match vC n w a b c with | some x => some (184, exA x) | none => none) else none
    | _, _ => none
  | _ => none
def riL (E : ME) : Option Int32 := match E.1 with
  | .ldc i => match lk2 ldcL 10 i with
    | some q => some q.1
    | none => none
  | .ldc_w i => match lk2 ldcL 10 i with
    | some q => some q.1
    | none => none
  | _ => none
noncomputable def ri (n stop : Nat) : Nat → Nat → ML → List Value → Nat → Nat → Option (ML × Nat × Nat)
  | 0, _, _, _, _, _ => none
  | g + 1, pc, ml, st, rc, rs => bif Nat.beq pc stop && st.isEmpty then some (ml, rc, rs) else match lkB T_185 pc with
    | none => none
    | some E => match stepP (mNL 185) E ml st with
      | some q => bif okS E then ri n stop g q.1 q.2.1 q.2.2 rc rs else none
      | none => match riC n E st with
        | some q => bif rmOk 185 q.1 rc rs then sN (rc - mMc q.1) fun rc => sN (rs - mMs q.1) fun rs => ri n stop g E.2.1 ml [.int q.2] rc rs else none
        | none => match riL E with
          | some v => ri n stop g E.2.1 ml (.int v :: st) rc rs
          | none => none
