/-! ===== the heap behind the constructors: numbers by place, references fixed =====
0 Menuline; 1 nodes; 2 lines; 3 desks; 4 Week (5 from, 6 to, 7 holidays); 8 Journal (9 who, 10 skill, 11 priority, 12 when, 13 open); 14 wayCounts (15 + i its rows); 45 begunCounts;
46 + 4 i Node i (47 + 4 i its Keys, 48 + 4 i codes, 49 + 4 i targets); 166 + 2 c Line c (167 + 2 c its backs); 286 + a Desk a; 292 the model (292 + f, f ≤ 18, and 291 + f, f ≥ 20, its arrays by field); 332 out -/
abbrev Sg : Type := Nat → Nat → Int32
def moL : List Nat := [7, 7, 84, 30, 30, 30, 30, 30, 30, 30, 30, 30, 30, 30, 300, 300, 930, 30, 60, 60, 60, 60, 60, 60, 60, 60, 240, 60, 60, 60, 60, 60, 60, 6, 6, 6, 6, 6, 6]
def tagK (k : Nat) : Nat :=
  if k < 46 then (if k = 0 then 6 else if k ≤ 3 then 102 + k else if k = 4 then 5 else if k ≤ 6 then 100 else if k = 7 then 101 else if k = 8 then 1 else if k = 14 then 106 else 100)
  else if k < 166 then (if (k - 46) % 4 = 0 then 4 else if (k - 46) % 4 = 1 then 2 else 100)
  else if k < 286 then (if (k - 166) % 2 = 0 then 3 else 100)
  else if k < 292 then 0 else if k = 292 then 7 else if k = 295 then 101 else if k < 332 then 100 else 102
def lenK (k : Nat) : Nat :=
  if k < 46 then (if k = 0 then 9 else if k = 1 then 30 else if k = 2 then 60 else if k = 3 then 6 else if k = 4 then 3 else if k ≤ 6 then 7 else if k = 7 then 84 else if k = 8 then 6 else if k ≤ 12 then 1024 else if k = 13 then 60 else if k = 14 then 30 else if k ≤ 44 then 31 else 30)
  else if k < 166 then (if (k - 46) % 4 = 0 then 16 else if (k - 46) % 4 = 1 then 3 else 10)
  else if k < 286 then (if (k - 166) % 2 = 0 then 18 else 4)
  else if k < 292 then 6 else if k = 292 then 42 else if k < 332 then moL.getD (k - 293) 0 else 1
def refK (k j : Nat) : Option Nat :=
  if k < 46 then (if k = 0 then (if j = 0 then some 1 else if j = 1 then some 2 else if j = 2 then some 3 else if j = 3 then some 4 else if j = 4 then some 8 else if j = 5 then some 14 else if j = 6 then some 45 else none)
    else if k = 1 then some (46 + 4 * j) else if k = 2 then some (166 + 2 * j) else if k = 3 then some (286 + j) else if k = 4 then some (5 + j)
    else if k = 8 then (if j = 0 then some 9 else if j = 1 then some 10 else if j = 2 then some 11 else if j = 3 then some 12 else if j = 5 then some 13 else none) else if k = 14 then some (15 + j) else none)
  else if k < 166 then (if (k - 46) % 4 = 0 then (if j = 15 then some (k + 1) else none) else if (k - 46) % 4 = 1 then (if j = 0 then some (k + 1) else if j = 1 then some (k + 2) else none) else none)
  else if k < 286 then (if (k - 166) % 2 = 0 ∧ j = 16 then some (k + 1) else none)
  else if k = 292 then (if j = 0 then none else if j ≤ 18 then some (292 + j) else if j = 19 then none else if j ≤ 40 then some (291 + j) else none) else none
def valK (g : Sg) (k j : Nat) : Value := match refK k j with
  | some r => .ref r
  | none => if tagK k = 102 then .long (g k j).toInt64 else .int (g k j)
def cellK (g : Sg) (k : Nat) : MC := (tagK k, (List.range (lenK k)).map (valK g k))
def heapOf (g : Sg) : MH := (List.range 292).map (cellK g)
def up2 (g : Sg) (k j : Nat) (x : Int32) : Sg := fun a i => if a = k ∧ i = j then x else g a i
theorem heapOf_len {g : Sg} : (heapOf g).length = 292 := by simp [heapOf]
theorem heapOf_at {g : Sg} {k : Nat} (hk : k < 292) : (heapOf g)[k]? = some (cellK g k) := by
  unfold heapOf
  rw [List.getElem?_map, List.getElem?_range hk]
  rfl
theorem gF_h {g : Sg} {k t j : Nat} (hk : k < 292) (ht : tagK k = t) (hj : j < lenK k) : gF (heapOf g) k t j = some (valK g k j) := by
  unfold gF
  rw [heapOf_at hk]
  subst ht
  show (bif tagK k == tagK k then ((List.range (lenK k)).map (valK g k))[j]? else none) = _
  rw [beq_self_eq_true, cond_true, List.getElem?_map, List.getElem?_range hj]
  rfl
theorem valK_up {g : Sg} {k j a i : Nat} {x : Int32} (h : ¬ (a = k ∧ i = j)) : valK (up2 g k j x) a i = valK g a i := by
  unfold valK up2
  split
  · rfl
  · rw [if_neg h]
theorem valK_int {g : Sg} {k j : Nat} (hr : refK k j = none) (ht : tagK k ≠ 102) : valK g k j = .int (g k j) := by
  unfold valK
  rw [hr]
  simp only [if_neg ht]
theorem valK_ref {g : Sg} {k j r : Nat} (hr : refK k j = some r) : valK g k j = .ref r := by
  unfold valK
  rw [hr]
theorem pF_h' {g : Sg} {k t j : Nat} {x : Int32} {v : Value} (hk : k < 292) (ht : tagK k = t) (hj : j < lenK k) (hv : valK (up2 g k j x) k j = v) : pF (heapOf g) k t j v = some (heapOf (up2 g k j x)) := by
  unfold pF
  rw [heapOf_at hk]
  subst ht
  have hb : Nat.blt j ((List.range (lenK k)).map (valK g k)).length = true := by rw [List.length_map, List.length_range]; exact Nat.blt_eq.mpr hj
  show (bif tagK k == tagK k && Nat.blt j ((List.range (lenK k)).map (valK g k)).length then some ((heapOf g).set k (tagK k, ((List.range (lenK k)).map (valK g k)).set j v)) else none) = _
  rw [beq_self_eq_true, hb, Bool.and_self, cond_true]
  congr 1
  apply List.ext_getElem?
  intro a
  rw [List.getElem?_set]
  by_cases ha : k = a
  · subst ha
    rw [if_pos rfl, heapOf_len, if_pos hk, heapOf_at hk]
    unfold cellK
    congr 2
    apply List.ext_getElem?
    intro i
    rw [List.getElem?_set, List.length_map, List.length_range]
    by_cases hi : j = i
    · subst hi
      rw [if_pos rfl, if_pos hj, List.getElem?_map, List.getElem?_range hj, ← hv]
      rfl
    · rw [if_neg hi, List.getElem?_map, List.getElem?_map]
      by_cases hl : i < lenK k
      · rw [List.getElem?_range hl]
        exact congrArg some (valK_up (fun z => hi z.2.symm)).symm
      · rw [List.getElem?_eq_none (by rw [List.length_range]; omega)]
        rfl
  · rw [if_neg ha]
    by_cases hl : a < 292
    · rw [heapOf_at hl, heapOf_at hl]
      unfold cellK
      congr 2
      apply List.map_congr_left
      intro i _
      exact (valK_up (fun z => ha z.1.symm)).symm
    · rw [List.getElem?_eq_none (by rw [heapOf_len]; omega), List.getElem?_eq_none (by rw [heapOf_len]; omega)]
theorem pF_h {g : Sg} {k t j : Nat} {x : Int32} (hk : k < 292) (ht : tagK k = t) (hj : j < lenK k) (hr : refK k j = none) (h2 : t ≠ 102) : pF (heapOf g) k t j (.int x) = some (heapOf (up2 g k j x)) :=
  pF_h' hk ht hj (by rw [valK_int hr (by rw [ht]; exact h2)]; unfold up2; rw [if_pos ⟨rfl, rfl⟩])
/-- more fuel answers the same -/
theorem run_mono : ∀ (n mi rc rs : Nat) (al : Bool) (pc : Nat) (ml : ML) (st : List Value) (h : MH) (r : MO × MH), run n mi rc rs al pc ml st h = some r → ∀ k, run (n + k) mi rc rs al pc ml st h = some r := by
  intro n
  induction n with
  | zero => intro mi rc rs al pc ml st h r hr; simp [run] at hr
  | succ n ih =>
    intro mi rc rs al pc ml st h r hr k
    rw [Nat.add_right_comm]
    simp only [run] at hr ⊢
    split at hr
    · cases hr
    · split at hr
      · exact ih _ _ _ _ _ _ _ _ _ hr k
      · split at hr
        · exact ih _ _ _ _ _ _ _ _ _ hr k
        · split at hr
          · rename_i q hq
            cases hrm : rmOk mi q.1 rc rs
            · rw [hrm] at hr; cases hr
            · rw [hrm] at hr
              simp only [cond_true] at hr ⊢
              split at hr
              · rename_i v h1 h9
                rw [ih _ _ _ _ _ _ _ _ _ h9 k]
                exact ih _ _ _ _ _ _ _ _ _ hr k
              · rename_i x h1 h9
                rw [ih _ _ _ _ _ _ _ _ _ h9 k]
                exact hr
              · cases hr
          · exact hr
theorem run_le {n n' mi rc rs : Nat} {al : Bool} {pc : Nat} {ml : ML} {st : List Value} {h : MH} {r : MO × MH} (hr : run n mi rc rs al pc ml st h = some r) (hn : n ≤ n') : run n' mi rc rs al pc ml st h = some r := by
  have := run_mono n mi rc rs al pc ml st h r hr (n' - n)
  rwa [show n + (n' - n) = n' by omega] at this
/-! ===== what a run comes to ===== -/
/-- from here the method mi comes to an end with Q -/
def Wp (mi rc rs pc : Nat) (ml : ML) (st : List Value) (g : Sg) (Q : MO → Sg → Prop) : Prop := ∃ n o g', run n mi rc rs false pc ml st (heapOf g) = some (o, heapOf g') ∧ Q o g'
/-- a call of mi with these arguments comes to an end with Q -/
def Ex (mi : Nat) (as : List Value) (g : Sg) (Q : MO → Sg → Prop) : Prop := Wp mi (mMc mi) (mMs mi) 0 (lv_args 0 as) [] g Q
theorem Wp.imp {mi rc rs pc : Nat} {ml : ML} {st : List Value} {g : Sg} {Q Q' : MO → Sg → Prop} (h : Wp mi rc rs pc ml st g Q) (hq : ∀ o g', Q o g' → Q' o g') : Wp mi rc rs pc ml st g Q' := by
  obtain ⟨n, o, g', h1, h2⟩ := h
  exact ⟨n, o, g', h1, hq o g' h2⟩
section WPS
variable {mi rc rs pc : Nat} {ml : ML} {st : List Value} {g : Sg} {Q : MO → Sg → Prop} {E : ME}
theorem wP {pc1 : Nat} {l1 : ML} {st1 : List Value} (hE : mEnt mi pc = some E) (hs : stepP (mNL mi) E ml st = some (pc1, l1, st1)) (k : Wp mi rc rs pc1 l1 st1 g Q) : Wp mi rc rs pc ml st g Q := by
  obtain ⟨n, o, g', h1, h2⟩ := k
  refine ⟨n + 1, o, g', ?_, h2⟩
  simp only [run, hE, hs]
  exact h1
theorem wH {st1 : List Value} {g1 : Sg} {rc1 rs1 : Nat} (hE : mEnt mi pc = some E) (hp : stepP (mNL mi) E ml st = none) (hs : stepH mi false rc rs E st (heapOf g) = some (st1, heapOf g1, rc1, rs1)) (k : Wp mi rc1 rs1 E.2.1 ml st1 g1 Q) : Wp mi rc rs pc ml st g Q := by
  obtain ⟨n, o, g', h1, h2⟩ := k
  refine ⟨n + 1, o, g', ?_, h2⟩
  simp only [run, hE, hp, hs]
  exact h1
theorem wC {mj : Nat} {as rest : List Value} (hE : mEnt mi pc = some E) (hp : stepP (mNL mi) E ml st = none) (hh : stepH mi false rc rs E st (heapOf g) = none) (hc : stepC (mCls mi) E st (heapOf g) = some (mj, as, rest)) (hr : rmOk mi mj rc rs = true) (hm : mHh mi = [])
    (k : Ex mj as g (fun o g1 => match o with | .inl v => Wp mi (rc - mMc mj) (rs - mMs mj) E.2.1 ml (v.toList ++ rest) g1 Q | .inr x => Q (.inr x) g1)) : Wp mi rc rs pc ml st g Q := by
  obtain ⟨n, o, g1, h1, h2⟩ := k
  cases o with
  | inl v =>
    obtain ⟨n2, o2, g2, h3, h4⟩ := h2
    refine ⟨(n + n2) + 1, o2, g2, ?_, h4⟩
    simp only [run, hE, hp, hh, hc, hr, cond_true]
    rw [run_le h1 (Nat.le_add_right n n2)]
    exact run_le h3 (Nat.le_add_left n2 n)
  | inr x =>
    refine ⟨n + 1, .inr x, g1, ?_, h2⟩
    simp only [run, hE, hp, hh, hc, hr, cond_true]
    rw [h1]
    simp only [hm]
theorem wR {o : MO} (hE : mEnt mi pc = some E) (hp : stepP (mNL mi) E ml st = none) (hh : stepH mi false rc rs E st (heapOf g) = none) (hc : stepC (mCls mi) E st (heapOf g) = none) (hr : stepR mi pc rc rs false E st = some o) (k : Q o g) : Wp mi rc rs pc ml st g Q := by
  refine ⟨1, o, g, ?_, k⟩
  simp only [run, hE, hp, hh, hc, hr]
end WPS
