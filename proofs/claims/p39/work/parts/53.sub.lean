/-! ===== more locals do no harm ===== -/
def cat1 (l : ML) : Bool := l.all (fun q => q.2.category == 1)
def Sb (l' l : ML) : Prop := ∀ i v, lget l' i = some v → lget l i = some v
def SubL : ML → ML → Prop
  | [], _ => True
  | q :: r, l => lget l q.1 = some q.2 ∧ SubL r l
theorem SubL.sb : ∀ {l' l : ML}, SubL l' l → Sb l' l
  | [], _, _, i, v, h => by cases h
  | q :: r, l, hs, i, v, h => by
    simp only [lget] at h
    cases hq : q.1 == i
    · rw [hq] at h
      exact SubL.sb hs.2 i v h
    · rw [hq] at h
      have e := beq_iff_eq.mp hq
      simp only [cond_true] at h
      cases h
      rw [← e]
      exact hs.1
theorem lget_filter : ∀ {l : ML} {i k : Nat}, cat1 l = true → i ≠ k → lget (l.filter (fun q => !(q.1 == k) && !(q.1 + 1 == k && q.2.category == 2))) i = lget l i
  | [], _, _, _, _ => rfl
  | q :: r, i, k, hc, hi => by
    simp only [cat1, List.all_cons, Bool.and_eq_true, beq_iff_eq] at hc
    have ih := lget_filter (l := r) (i := i) (k := k) hc.2 hi
    rw [List.filter_cons]
    by_cases hk : q.1 = k
    · have e : (!(q.1 == k) && !(q.1 + 1 == k && q.2.category == 2)) = false := by simp [hk]
      rw [e]
      simp only [lget]
      have e2 : (q.1 == i) = false := by rw [beq_eq_false_iff_ne]; rw [hk]; exact fun z => hi z.symm
      rw [e2]
      exact ih
    · have e : (!(q.1 == k) && !(q.1 + 1 == k && q.2.category == 2)) = true := by simp [hk, hc.1]
      rw [e]
      simp only [if_true, lget]
      rw [ih]
theorem lset_sb {l' l : ML} {k : Nat} {v : Value} (h : Sb l' l) (c : cat1 l = true) (c' : cat1 l' = true) : Sb (lset l' k v) (lset l k v) := by
  intro i u hu
  unfold lset at hu ⊢
  simp only [lget] at hu ⊢
  by_cases hi : k = i
  · have e : (k == i) = true := beq_iff_eq.mpr hi
    rw [e] at hu ⊢
    exact hu
  · have e : (k == i) = false := beq_eq_false_iff_ne.mpr hi
    rw [e] at hu ⊢
    simp only [cond_false] at hu ⊢
    rw [lget_filter c' (fun z => hi z.symm)] at hu
    rw [lget_filter c (fun z => hi z.symm)]
    exact h i u hu
theorem lset_cat {l : ML} {k : Nat} {v : Value} (c : cat1 l = true) (hv : v.category = 1) : cat1 (lset l k v) = true := by
  unfold lset cat1
  rw [List.all_cons, hv]
  simp only [beq_self_eq_true, Bool.true_and]
  rw [List.all_eq_true]
  intro q hq
  exact List.all_eq_true.mp c q (List.mem_filter.mp hq).1
def isLo (i : Instr) : Bool := match i with
  | .iload_n _ => true
  | .iload _ => true
  | .aload_n _ => true
  | .aload _ => true
  | .istore_n _ => true
  | .istore _ => true
  | .astore_n _ => true
  | .astore _ => true
  | .iinc _ _ => true
  | _ => false
theorem bind_b {α : Type} {c : Bool} {x y : α} : (bif c then x else y) = if c = true then x else y := by cases c <;> rfl
theorem stepP_nl {nL : Nat} {e : ME} {l : ML} {st : List Value} (h : isLo e.1 = false) : stepP nL e l st = (stepP nL e [] st).map (fun q => (q.1, l, q.2.2)) := by
  obtain ⟨i, nx, ts, d⟩ := e
  cases i <;> first
    | rfl
    | (simp [isLo] at h; done)
    | (simp only [stepP, kst, bin, bind0, bind_b]; repeat' split
       all_goals first | rfl | (rename_i h9; simp_all) | simp_all)
theorem stepP_sub {nL : Nat} {e : ME} {l l' : ML} {st : List Value} {q : Nat × ML × List Value} (h : Sb l' l) (c : cat1 l = true) (c' : cat1 l' = true) (hq : stepP nL e l' st = some q) : ∃ l1, stepP nL e l st = some (q.1, l1, q.2.2) ∧ Sb q.2.1 l1 ∧ cat1 l1 = true ∧ cat1 q.2.1 = true := by
  cases hL : isLo e.1
  · rw [stepP_nl hL] at hq ⊢
    cases hs : stepP nL e [] st with
    | none => rw [hs] at hq; cases hq
    | some r =>
      rw [hs] at hq
      cases hq
      exact ⟨l, rfl, h, c, c'⟩
  · have hI : ∀ k, ldI e l' st k = some q → ∃ l1, ldI e l st k = some (q.1, l1, q.2.2) ∧ Sb q.2.1 l1 ∧ cat1 l1 = true ∧ cat1 q.2.1 = true := fun k hk => by
      unfold ldI at hk ⊢
      split at hk
      · rename_i x hx
        cases hk
        rw [h _ _ hx]
        exact ⟨l, rfl, h, c, c'⟩
      · cases hk
    have hA : ∀ k, ldA e l' st k = some q → ∃ l1, ldA e l st k = some (q.1, l1, q.2.2) ∧ Sb q.2.1 l1 ∧ cat1 l1 = true ∧ cat1 q.2.1 = true := fun k hk => by
      unfold ldA at hk ⊢
      split at hk
      · rename_i x hx
        cases hk
        rw [h _ _ hx]
        exact ⟨l, rfl, h, c, c'⟩
      · cases hk
    have hSI : ∀ k, stI nL e l' st k = some q → ∃ l1, stI nL e l st k = some (q.1, l1, q.2.2) ∧ Sb q.2.1 l1 ∧ cat1 l1 = true ∧ cat1 q.2.1 = true := fun k hk => by
      unfold stI at hk ⊢
      split at hk
      · rename_i x r
        cases hb : Nat.blt k nL
        · rw [hb] at hk; cases hk
        · rw [hb] at hk
          cases hk
          exact ⟨_, rfl, lset_sb h c c', lset_cat c rfl, lset_cat c' rfl⟩
      · cases hk
    have hSA : ∀ k, stA nL e l' st k = some q → ∃ l1, stA nL e l st k = some (q.1, l1, q.2.2) ∧ Sb q.2.1 l1 ∧ cat1 l1 = true ∧ cat1 q.2.1 = true := fun k hk => by
      unfold stA at hk ⊢
      split at hk
      · rename_i x r
        cases hb : Nat.blt k nL
        · rw [hb] at hk; cases hk
        · rw [hb] at hk
          cases hk
          exact ⟨_, rfl, lset_sb h c c', lset_cat c rfl, lset_cat c' rfl⟩
      · cases hk
    have hN : ∀ k, inc nL e l' st k = some q → ∃ l1, inc nL e l st k = some (q.1, l1, q.2.2) ∧ Sb q.2.1 l1 ∧ cat1 l1 = true ∧ cat1 q.2.1 = true := fun k hk => by
      unfold inc at hk ⊢
      split at hk
      · rename_i x r w hx hw
        cases hb : Nat.blt k nL
        · rw [hb] at hk; cases hk
        · rw [hb] at hk
          cases hk
          rw [h _ _ hx, hw]
          simp only [cond_true]
          exact ⟨_, rfl, lset_sb h c c', lset_cat c rfl, lset_cat c' rfl⟩
      · cases hk
    obtain ⟨i, nx, ts, d⟩ := e
    cases i
    case iload_n k => exact hI _ hq
    case iload k => exact hI _ hq
    case aload_n k => exact hA _ hq
    case aload k => exact hA _ hq
    case istore_n k => exact hSI _ hq
    case istore k => exact hSI _ hq
    case astore_n k => exact hSA _ hq
    case astore k => exact hSA _ hq
    case iinc k n => exact hN _ hq
    all_goals (simp [isLo] at hL; done)
theorem run_sub : ∀ (n mi rc rs : Nat) (al : Bool) (pc : Nat) (l l' : ML) (st : List Value) (h : MH) (r : MO × MH), Sb l' l → cat1 l = true → cat1 l' = true → run n mi rc rs al pc l' st h = some r → run n mi rc rs al pc l st h = some r := by
  intro n
  induction n with
  | zero => intro mi rc rs al pc l l' st h r _ _ _ hr; simp [run] at hr
  | succ n ih =>
    intro mi rc rs al pc l l' st h r hs c c' hr
    simp only [run] at hr ⊢
    cases hE : mEnt mi pc with
    | none => rw [hE] at hr; cases hr
    | some E =>
      rw [hE] at hr
      dsimp only at hr ⊢
      cases hP : stepP (mNL mi) E l' st with
      | some q =>
        rw [hP] at hr
        obtain ⟨l1, h1, h2, h3, h4⟩ := stepP_sub hs c c' hP
        rw [h1]
        exact ih _ _ _ _ _ _ _ _ _ _ h2 h3 h4 hr
      | none =>
        rw [hP] at hr
        dsimp only at hr
        cases hL : isLo E.1
        · have hP2 : stepP (mNL mi) E l st = none := by
            rw [stepP_nl hL] at hP ⊢
            cases hs2 : stepP (mNL mi) E [] st with
            | none => rfl
            | some r => rw [hs2] at hP; cases hP
          rw [hP2]
          dsimp only
          split at hr
          · exact ih _ _ _ _ _ _ _ _ _ _ hs c c' hr
          · split at hr
            · rename_i q hq
              cases hrm : rmOk mi q.1 rc rs
              · rw [hrm] at hr; cases hr
              · rw [hrm] at hr
                simp only [cond_true] at hr ⊢
                split at hr
                · exact ih _ _ _ _ _ _ _ _ _ _ hs c c' hr
                · exact hr
                · cases hr
            · exact hr
        · exfalso
          obtain ⟨i, nx, ts, d⟩ := E
          cases i
          case iload_n k => simp [stepH, stepC, stepR] at hr
          case iload k => simp [stepH, stepC, stepR] at hr
          case aload_n k => simp [stepH, stepC, stepR] at hr
          case aload k => simp [stepH, stepC, stepR] at hr
          case istore_n k => simp [stepH, stepC, stepR] at hr
          case istore k => simp [stepH, stepC, stepR] at hr
          case astore_n k => simp [stepH, stepC, stepR] at hr
          case astore k => simp [stepH, stepC, stepR] at hr
          case iinc k n => simp [stepH, stepC, stepR] at hr
          all_goals (simp [isLo] at hL; done)
theorem zMl {σ : Bool} {mi rc rs pc : Nat} {ml ml' : ML} {st : List Value} {z : Sg} {P : MO → Sg → Prop} (h : SubL ml' ml) (c : cat1 ml = true) (c' : cat1 ml' = true) (k : Ws σ mi rc rs pc ml' st z P) : Ws σ mi rc rs pc ml st z P := by
  intro w
  obtain ⟨n, o, g, h1, h2⟩ := k w
  exact ⟨n, o, g, run_sub _ _ _ _ _ _ _ _ _ _ _ h.sb c c' h1, h2⟩
