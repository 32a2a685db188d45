/-! ===== a script by hand: a run of calls on memory as a number ===== -/
def takeI : Nat → List Value → Option (List Int32 × List Value)
  | 0, st => some ([], st)
  | k + 1, .int x :: st => match takeI k st with
    | some q => some (q.1 ++ [x], q.2)
    | none => none
  | _ + 1, _ => none
theorem takeI_ok : ∀ {k : Nat} {st : List Value} {xs : List Int32} {r : List Value}, takeI k st = some (xs, r) → st = (xs.map Value.int).reverse ++ r ∧ xs.length = k
  | 0, st, xs, r, h => by
    cases h
    exact ⟨rfl, rfl⟩
  | k + 1, st, xs, r, h => by
    cases st with
    | nil => simp [takeI] at h
    | cons v st0 =>
      cases v
      case int x =>
        simp only [takeI] at h
        cases hq : takeI k st0 with
        | none => rw [hq] at h; cases h
        | some q =>
          rw [hq] at h
          obtain ⟨ys, r0⟩ := q
          obtain ⟨h1, h2⟩ := takeI_ok hq
          cases h
          refine ⟨?_, by rw [List.length_append, h2]; rfl⟩
          rw [h1]
          simp
      all_goals exact absurd h (by simp [takeI])
/-- what callP asks of a call, but the receiver -/
def hbF (op kd mj : Nat) (st : List Value) : Bool := (kd % 3 == op && Nat.ble (mNA mj) st.length) && ((kd == 0 || (mHh mj).isEmpty) && (Nat.ble (mNA mj) (mNL mj) && ((st.take (mNA mj)).all (fun v => v.category == 1) && Nat.ble ((st.drop (mNA mj)).map fun v => v.category).sum 8)))
def lc1 (op i : Nat) (st : List Value) : Option (Nat × Nat × Nat × List Int32 × List Value) := match lk2 calL 10 i with
  | some q => bif hbF op q.1.2 q.1.1 st && Nat.blt 0 (mNA q.1.1) then match takeI (mNA q.1.1 - 1) st with
      | some (xs, .ref k :: rest) => bif Nat.beq k 0 && (op == 0 || Nat.beq (mCls q.1.1) 6) then some (op, i, q.1.1, xs, rest) else none
      | _ => none
    else none
  | none => none
def lcall (E : ME) (st : List Value) : Option (Nat × Nat × Nat × List Int32 × List Value) := match E.1 with
  | .invokevirtual i => lc1 1 i st
  | .invokestatic i => lc1 0 i st
  | _ => none
theorem lc1_ok {op i mj : Nat} {op' i' : Nat} {st rest : List Value} {xs : List Int32} {g : Sg} (hop : op < 2) (h : lc1 op i st = some (op', i', mj, xs, rest)) : op' = op ∧ i' = i ∧ callP op 10 i st (heapOf g) = some (mj, .ref 0 :: xs.map Value.int, rest) := by
  unfold lc1 at h
  split at h
  · rename_i q hq
    obtain ⟨⟨m0, kd⟩, li⟩ := q
    dsimp only at h
    cases hb : hbF op kd m0 st && Nat.blt 0 (mNA m0)
    · rw [hb] at h; cases h
    · rw [hb] at h
      simp only [cond_true] at h
      rw [Bool.and_eq_true, Nat.blt_eq] at hb
      obtain ⟨hb1, hb2⟩ := hb
      split at h
      · rename_i ys k r ht
        cases hk : Nat.beq k 0 && (op == 0 || Nat.beq (mCls m0) 6)
        · rw [hk] at h; cases h
        · rw [hk] at h
          simp only [cond_true] at h
          cases h
          rw [Bool.and_eq_true, Nat.beq_eq, Bool.or_eq_true, beq_iff_eq, Nat.beq_eq] at hk
          obtain ⟨rfl, hk2⟩ := hk
          obtain ⟨hst, hlen⟩ := takeI_ok ht
          have hrl : ((xs.map Value.int).reverse).length = mNA mj - 1 := by rw [List.length_reverse, List.length_map, hlen]
          have hat : st[mNA mj - 1]? = some (.ref 0) := by
            rw [hst, ← hrl, List.getElem?_append_right (Nat.le_refl _), Nat.sub_self]
            rfl
          have htk : st.take (mNA mj) = (xs.map Value.int).reverse ++ [.ref 0] := by
            rw [hst, show mNA mj = ((xs.map Value.int).reverse).length + 1 by omega, List.take_length_add_append]
            rfl
          have hdr : st.drop (mNA mj) = rest := by
            rw [hst, show mNA mj = ((xs.map Value.int).reverse).length + 1 by omega, List.drop_length_add_append]
            rfl
          have h0 : op = 0 ∨ rcv (mNA mj) st (heapOf g) (mCls mj) = true := by
            rcases hk2 with h2 | h2
            · exact Or.inl h2
            · refine Or.inr ?_
              rw [show mNA mj = (mNA mj - 1) + 1 by omega]
              simp only [rcv, hat]
              rw [heapOf_at (by decide)]
              rw [h2]
              rfl
          have hc := callP_s (h := heapOf g) hq h0 hb1
          rw [htk, hdr, List.reverse_append, List.reverse_reverse] at hc
          exact ⟨rfl, rfl, hc⟩
      · cases h
  · cases h
noncomputable def lr (T : List (Nat × List (Nat × ME))) (nL ht lo stop : Nat) (est : List Value) : Nat → Nat → ML → List Value → Nat → Nat → Nat → Option (Nat × Nat × Nat)
  | 0, _, _, _, _, _, _ => none
  | f + 1, pc, ml, st, m, rc, rs => bif Nat.beq pc stop && decide (st = est) then some (m, rc, rs) else match lkB T pc with
    | none => none
    | some E => match stepP nL E ml st with
      | some q => lr T nL ht lo stop est f q.1 q.2.1 q.2.2 m rc rs
      | none => match lcall E st with
        | none => none
        | some (_, _, mj, xs, rest) => bif okM m && ((Nat.ble (mHt mj + 1) ht && Nat.ble (19 + mNL mj + mLo mj) lo) && (Nat.ble (mMc mj) rc && Nat.ble (mMs mj) rs)) then match apiV mj xs (nF m) m with
            | none => none
            | some (v, m1) => sN m1 fun m1 => sN (rc - mMc mj) fun rc => sN (rs - mMs mj) fun rs => lr T nL ht lo stop est f E.2.1 ml (v.toList ++ rest) m1 rc rs
          else none
theorem lkB_ch {cc : ByteArray} : ∀ {T : List (Nat × List (Nat × ME))} {pc : Nat} {E : ME}, T.all (fun b => b.2.all (fun q => chE cc q.1 q.2)) = true → lkB T pc = some E → chE cc pc E = true
  | b :: r, pc, E, hk, h => by
    rw [List.all_cons, Bool.and_eq_true] at hk
    simp only [lkB] at h
    cases hq : Nat.ble pc b.1
    · rw [hq] at h
      exact lkB_ch hk.2 h
    · rw [hq] at h
      exact List.all_eq_true.mp hk.1 (pc, E) (lk_mem h)
def w0 : Sg := fun _ _ => 0
section BGS
variable {p : Program} {l0 : Launch} {e : Env} {R : Room} {s : State} {m : MethodId} {args : Array Value} {below : List Frame} {meth : Method} {c : Code}
variable {b nL : Nat} {cc : ByteArray} {D : va_G} {cy : Nat → ClassId} {Q : State → Prop}
/-- what holds in a body of the law's -/
def BC (p : Program) (s : State) (m : MethodId) (args : Array Value) (c : Code) (b nL : Nat) (cc : ByteArray) (D : va_G) (cy : Nat → ClassId) : Prop :=
  p.tables.exec = Jvm.exec ∧ c.code = cc ∧ c.maxLocals = nL ∧ s.vm.findClass (cN 10) = some m.cls ∧ (∀ w ∈ TBL, w.before args s = true) ∧ Wd b D cy s
/-- from here it comes to Q, with this room left -/
def BG (p : Program) (l0 : Launch) (e : Env) (R : Room) (s : State) (m : MethodId) (args : Array Value) (below : List Frame) (meth : Method) (c : Code) (b nL : Nat) (cy : Nat → ClassId) (D : va_G) (Q : State → Prop) (rc rs pc : Nat) (ml : ML) (st : List Value) (g : Sg) : Prop :=
  ∀ (H : Heap) (locs : List Loc) (cells slots : Nat) (ls : Array Slot), va_P D vwC (wsOf b cy (heapOf g)) H → va_S (AB b) s.heap H locs → lv_has ls nL (trL b ml) → cells + rc ≤ R.cells → slots + rs ≤ R.slots → W p l0 e R s m args below meth c H locs cells slots Q (F0 m pc ls (st.map (tv b)))
/-- a call that returns -/
theorem BG_call {op i mj pc rc rs : Nat} {ml : ML} {st as rest : List Value} {v : Option Value} {g g1 : Sg} (C : BC p s m args c b nL cc D cy) (hfl : l0.stackTraces = false) (hex : Ex mj as g (fun o g' => o = .inl v ∧ g' = g1)) (hcp : callP op 10 i st (heapOf g) = some (mj, as, rest))
    (hd : (op = 0 ∧ decode cc pc = .ok (.invokestatic i, 3)) ∨ (op = 1 ∧ decode cc pc = .ok (.invokevirtual i, 3)) ∨ (op = 2 ∧ decode cc pc = .ok (.invokespecial i, 3)))
    (hrm : mHt mj + 1 ≤ R.frames ∧ 19 + mNL mj + mLo mj ≤ R.locals) (hc : mMc mj ≤ rc) (hs : mMs mj ≤ rs)
    (K : BG p l0 e R s m args below meth c b nL cy D Q (rc - mMc mj) (rs - mMs mj) (pc + 3) ml (v.toList ++ rest) g1) : BG p l0 e R s m args below meth c b nL cy D Q rc rs pc ml st g := by
  intro H locs cells slots ls hP hS hl hcl hsl
  obtain ⟨hx, hb, hml, hown, hts, hWd⟩ := C
  obtain ⟨n, o, g', hr, ho, rfl⟩ := hex
  obtain ⟨kd, li, hq2, b1, b2, b3, b4, b5, b6, b7, b8, b9⟩ := callP_spec hcp
  obtain ⟨f1, f2, f3, f4, f5, f6, f7, f8, f9, f10, f11, f12, f13, f14, f15⟩ := cal_of hq2
  have hcat : as.all (fun v => v.category == 1) = true := by rw [b8]; exact rev_all b6
  have hlen : as.length ≤ mNL mj := by rw [b8, List.length_reverse, List.length_take]; omega
  have M := met_of (b := b) (D := D) (cy := cy) f9 f10 f13 hcat hlen (run_sound hfl _ _ _ _ _ _ _ _ _ _ _ hr)
  refine call_go (call_runG (cls := 10) (R := R) (al := false) hx hb hml hown hts hWd hcp hd hl.1 hP hS (fun q => by cases q) hrm (by omega) (by omega) M) hS (fun v' hv H1 locs1 hP1 _ hS1 => ?_) (fun x hx9 => ?_)
  · rw [ho] at hv
    cases hv
    have h10 := K H1 locs1 (cells + mMc mj) (slots + mMs mj) ls hP1 hS1 hl (by omega) (by omega)
    have hst : (v.toList ++ rest).map (tv b) = (v.map (tv b)).toList ++ rest.map (tv b) := by cases v <;> rfl
    rw [hst] at h10
    exact h10
  · rw [ho] at hx9
    cases hx9
theorem lr_sound (C : BC p s m args c b nL cc D cy) (hfl : l0.stackTraces = false) {T : List (Nat × List (Nat × ME))} (hT : T.all (fun b => b.2.all (fun q => chE cc q.1 q.2)) = true) {stop : Nat} {est : List Value} :
    ∀ (f pc : Nat) (ml : ML) (st : List Value) (m9 rc rs m1 rc1 rs1 : Nat), lr T nL R.frames R.locals stop est f pc ml st m9 rc rs = some (m1, rc1, rs1) →
      (∀ ml1, BG p l0 e R s m args below meth c b nL cy D Q rc1 rs1 stop ml1 est (GG false (dec m1) w0)) → BG p l0 e R s m args below meth c b nL cy D Q rc rs pc ml st (GG false (dec m9) w0) := by
  intro f
  induction f with
  | zero => intro pc ml st m9 rc rs m1 rc1 rs1 h; simp [lr] at h
  | succ f ih =>
    intro pc ml st m9 rc rs m1 rc1 rs1 h K
    rw [lr] at h
    cases hs : Nat.beq pc stop && decide (st = est)
    · rw [hs] at h
      simp only [cond_false] at h
      split at h
      · cases h
      · rename_i E hE
        have hch := lkB_ch hT hE
        split at h
        · rename_i q hq
          obtain ⟨pc1, l1, st1⟩ := q
          have ih1 := ih _ _ _ _ _ _ _ _ _ h K
          intro H locs cells slots ls hP hS hl hcl hsl
          exact stepP_sound C.1 C.2.1 hch hl hq (fun ls' hl' => ih1 H locs cells slots ls' hP hS hl' hcl hsl)
        · split at h
          · cases h
          · rename_i op i mj xs rest hlc
            cases hok : okM m9 && ((Nat.ble (mHt mj + 1) R.frames && Nat.ble (19 + mNL mj + mLo mj) R.locals) && (Nat.ble (mMc mj) rc && Nat.ble (mMs mj) rs))
            · rw [hok] at h; cases h
            · rw [hok] at h
              simp only [cond_true] at h
              simp only [Bool.and_eq_true, Nat.ble_eq] at hok
              obtain ⟨hok, ⟨r1, r2⟩, r3, r4⟩ := hok
              obtain ⟨hl60, hCI⟩ := okM_ci hok
              split at h
              · cases h
              · rename_i v m2 hapi
                simp only [sN_eq] at h
                have ih1 := ih _ _ _ _ _ _ _ _ _ h K
                have hes := api_sound hl60 hCI hapi w0
                have hex : Ex mj (.ref 0 :: xs.map Value.int) (GG false (dec m9) w0) (fun o g' => o = .inl v ∧ g' = GG false (dec m2) w0) := Wp.imp hes (by
                  rintro o g ⟨z', rfl, h1, rfl⟩
                  exact ⟨h1, rfl⟩)
                obtain ⟨i0, nx, ts, d⟩ := E
                cases i0
                case invokevirtual i1 =>
                  simp only [chE, Bool.and_eq_true, decide_eq_true_eq] at hch
                  obtain ⟨hd, hn⟩ := hch
                  try dsimp only at hn
                  subst hn
                  rw [Nat.add_sub_cancel_left] at hd
                  obtain ⟨rfl, rfl, hcp⟩ := lc1_ok (g := GG false (dec m9) w0) (by decide) hlc
                  exact BG_call C hfl hex hcp (Or.inr (Or.inl ⟨rfl, hd⟩)) ⟨r1, r2⟩ r3 r4 ih1
                case invokestatic i1 =>
                  simp only [chE, Bool.and_eq_true, decide_eq_true_eq] at hch
                  obtain ⟨hd, hn⟩ := hch
                  try dsimp only at hn
                  subst hn
                  rw [Nat.add_sub_cancel_left] at hd
                  obtain ⟨rfl, rfl, hcp⟩ := lc1_ok (g := GG false (dec m9) w0) (by decide) hlc
                  exact BG_call C hfl hex hcp (Or.inl ⟨rfl, hd⟩) ⟨r1, r2⟩ r3 r4 ih1
                all_goals exact absurd hlc (by simp [lcall])
    · rw [hs] at h
      simp only [cond_true] at h
      cases h
      rw [Bool.and_eq_true, Nat.beq_eq, decide_eq_true_eq] at hs
      obtain ⟨rfl, rfl⟩ := hs
      exact K ml
end BGS
