/-! ===== every run of the mini machine is one of the machine ===== -/
/-- the handlers' facts -/
theorem han_c1 : hanL.all (fun q => (match (mHh q.1.1)[q.2.2.2.2.2]? with | some r => r.2.2.1 == q.2.1 && r.2.2.2 == 54 + 2 * q.1.2 | none => false) && (decide (q.1.2 < 3) && (decide (mCls q.1.1 = 10) && (decide (mRt q.1.1 = some .int) && ((mHh q.1.1).take q.2.2.2.2.2).all (fun r => ncL.any (fun z => z.1 == q.1.2 && r.2.2.2 == 54 + 2 * z.2)))))) = true := by decide +kernel
theorem han_c2 : hanL.all (fun q => (match mEnt q.1.1 q.2.1 with | some E => (E.2.1 == q.2.2.1 && Nat.blt q.2.2.2.1 (mNL q.1.1)) && (match E.1 with | .astore_n k => k.val == q.2.2.2.1 | .astore k => k == q.2.2.2.1 | _ => false) | none => false)) = true := by decide +kernel
theorem han_c3 : hanL.all (fun q => (match mEnt q.1.1 q.2.2.1 with | some E => (kc E q.2.2.2.2.1 && ((match E.1 with | .iconst _ => true | .bipush _ => true | _ => false) && (match mEnt q.1.1 E.2.1 with | some E => (match E.1 with | .ireturn => true | _ => false) | none => false))) | none => false)) = true := by decide +kernel
theorem han_w : ∀ x : Nat, x < 3 → Jvm.Cond.classLink (cN 10) (54 + 2 * x) (exN x) ∈ TBL := fun x hx => match x, hx with
  | 0, _ => tbl_of (i := 698) (by decide +kernel) rfl
  | 1, _ => tbl_of (i := 699) (by decide +kernel) rfl
  | 2, _ => tbl_of (i := 700) (by decide +kernel) rfl
  | n + 3, h => absurd h (by omega)
theorem cast_w : ∀ x : Nat, x < 3 → Jvm.Cond.castable (exN x) (exN x) ∈ xwL := fun x hx => xw_of hx _ (by
  unfold vx_atS
  refine List.mem_filter.mpr ⟨?_, rfl⟩
  unfold Bundle.ownAtoms
  simp)
section RUNSOUND
variable {b : Nat} {D : va_G} {cy : Nat → ClassId}
theorem han_go {p : Program} {l : Launch} {e : Env} {s : State} {m : MethodId} {args : Array Value} {below : List Frame} {meth : Method} {c : Code} {H1 : Heap} {locs1 : List Loc} {cells slots mi pc x : Nat} {ls : Array Slot} {ml : ML} {rest : List Value} {h1 : MH} {ce : Cell} {q : Addr} {v : Nat × Nat × Nat × Int32 × Nat}
    (C0 : CtxM b D cy mi p s m args meth c) (hl : lv_has ls (mNL mi) (trL b ml)) (hv : lk2 hanL mi x = some v) (hcov : (mHh mi).all (fun r => Nat.ble r.1 pc && Nat.blt pc r.2.1) = true)
    (hP : va_P D vwC (wsOf b cy h1) H1) (hS : va_S (AB b) s.heap H1 locs1) (hcell : H1[q]? = some ce) (hvm : ce.vm = .none) (hcl : s.vm.findClass (exN x) = some ce.cls) (hc : cells ≤ mMc mi) (hs : slots ≤ mMs mi) :
    vx_W p l e (rmM mi) s m args below meth c H1 locs1 cells slots (vx_MQ below (Qc9 b D cy (.inl (some (.int v.2.2.2.1))) h1 false) (XC9 b D cy (.inl (some (.int v.2.2.2.1))) h1) args s (mMc mi) (mMs mi) (AB b)) (F0 m pc ls rest) q := by
  obtain ⟨hx, hb, hml, hown, hts, hWd, hlk, hrt, hini, htab⟩ := C0
  obtain ⟨hK, hbs, hU, hN, hstr, hxw, hnc, -⟩ := hWd
  have hm := lk2_mem hv
  have a1 := List.all_eq_true.mp han_c1 _ hm
  have a2 := List.all_eq_true.mp han_c2 _ hm
  have a3 := List.all_eq_true.mp han_c3 _ hm
  obtain ⟨hpc, nx, kk, cst, idx⟩ := v
  simp only [Bool.and_eq_true, decide_eq_true_eq] at a1 a2
  obtain ⟨b1, b2, b3, b4, b5⟩ := a1
  rw [b3] at hown
  split at b1
  · rename_i r hr
    rw [Bool.and_eq_true, beq_iff_eq, beq_iff_eq] at b1
    have hidx := (List.getElem?_eq_some_iff.mp hr).1
    have hsp : mHh mi = (mHh mi).take idx ++ r :: (mHh mi).drop (idx + 1) := by
      have h9 := (List.getElem?_eq_some_iff.mp hr).2
      rw [← h9]
      simp
    have hcv : ∀ z ∈ mHh mi, covers ⟨z.1, z.2.1, z.2.2.1, z.2.2.2⟩ pc = true := fun z hz => by
      have h9 := List.all_eq_true.mp hcov z hz
      simp only [Bool.and_eq_true, Nat.ble_eq, Nat.blt_eq] at h9
      simp [covers, h9.1, h9.2]
    have hrm : r ∈ mHh mi := List.mem_of_getElem? hr
    refine vx_catch (own := cN 10) (name := exN x) (E := exN x) hown (((mHh mi).take idx).map fun q => ⟨q.1, q.2.1, q.2.2.1, q.2.2.2⟩) ⟨r.1, r.2.1, r.2.2.1, r.2.2.2⟩ (((mHh mi).drop (idx + 1)).map fun q => ⟨q.1, q.2.1, q.2.2.1, q.2.2.2⟩) ?_ ?_ (hcv r hrm) ?_ ?_ ?_ hcell hvm hcl ?_
    · rw [htab]
      have h9 := congrArg (List.map (fun q : Nat × Nat × Nat × Nat => (⟨q.1, q.2.1, q.2.2.1, q.2.2.2⟩ : ExceptionTableEntry))) hsp
      rw [List.map_append, List.map_cons] at h9
      exact h9
    · intro z hz
      obtain ⟨y, hy, rfl⟩ := List.mem_map.mp hz
      have h9 := List.all_eq_true.mp b5 y hy
      rw [List.any_eq_true] at h9
      obtain ⟨w, hw, h10⟩ := h9
      rw [Bool.and_eq_true, beq_iff_eq, beq_iff_eq] at h10
      have hw3 : w.2 < 3 := by
        have : ∀ w ∈ ncL, w.2 < 3 := by decide
        exact this w hw
      refine Or.inr ⟨by show y.2.2.2 ≠ 0; omega, exN w.2, ?_, ?_⟩
      · show (Cond.classLink (cN 10) y.2.2.2 (exN w.2)).before args s = true
        rw [h10.2]
        exact hts _ (han_w w.2 hw3)
      · have := hnc w hw
        rw [h10.1] at this
        exact this
    · show r.2.2.2 ≠ 0
      omega
    · show (Cond.classLink (cN 10) r.2.2.2 (exN x)).before args s = true
      rw [b1.2]
      exact hts _ (han_w x b2)
    · exact xwK_move (State.WarmedH.refl s) rfl (hxw _ (List.mem_append_left _ (cast_w x b2)))
    · -- the handler: astore, iconst, ireturn
      show W p l e (rmM mi) s m args below meth c H1 locs1 cells slots _ (F0 m r.2.2.1 ls [.ref q])
      rw [b1.1]
      split at a2
      · rename_i E1 hE1
        simp only [Bool.and_eq_true, beq_iff_eq, Nat.blt_eq] at a2
        obtain ⟨⟨c1, c2⟩, c3⟩ := a2
        have hl0 : lv_has ls (mNL mi) (trL 0 []) := lv_sub hl [] rfl
        have e1 : stepP (mNL mi) E1 [] [.ref q] = some (E1.2.1, lset [] kk (.ref q), []) := by
          obtain ⟨i1, nx1, ts1, d1⟩ := E1
          cases i1
          case astore_n k0 =>
            simp only [beq_iff_eq] at c3
            simp only [stepP, stA, c3, Nat.blt_eq.mpr c2, cond_true]
          case astore k0 =>
            simp only [beq_iff_eq] at c3
            simp only [stepP, stA, c3, Nat.blt_eq.mpr c2, cond_true]
          all_goals exact absurd c3 (by simp)
        have hq0 : ([.ref q] : List Value) = ([.ref q] : List Value).map (tv 0) := by simp [tv]
        rw [hq0]
        refine stepP_sound (b := 0) hx hb (mEnt_ok hE1) hl0 e1 (fun ls1 hl1 => ?_)
        rw [c1]
        split at a3
        · rename_i E2 hE2
          rw [Bool.and_eq_true, Bool.and_eq_true] at a3
          obtain ⟨g2, g3, a32⟩ := a3
          obtain ⟨r9, hr9⟩ := kc_eq g2
          have e2 : stepP (mNL mi) E2 (lset [] kk (.ref q)) [] = some (E2.2.1, lset [] kk (.ref q), [.int cst]) := by
            obtain ⟨i1, nx1, ts1, d1⟩ := E2
            cases i1
            case iconst n0 =>
              simp only [stepP, kst]
              dsimp only at hr9
              rw [hr9]
            case bipush n0 =>
              simp only [stepP, kst]
              dsimp only at hr9
              rw [hr9]
            all_goals exact absurd g3 (by simp)
          refine stepP_sound (b := 0) hx hb (mEnt_ok hE2) hl1 e2 (fun ls2 hl2 => ?_)
          split at a32
          · rename_i E3 hE3
            split at a32
            · rename_i hi3
              have hch := mEnt_ok hE3
              have hd : decode (mBy mi) E2.2.1 = .ok (.ireturn, 1) := by
                obtain ⟨i3, n3, t3, d3⟩ := E3
                dsimp only at hi3
                subst hi3
                simp only [chE, Bool.and_eq_true, decide_eq_true_eq] at hch
                obtain ⟨hd, hn⟩ := hch
                try dsimp only at hn
                subst hn
                rw [Nat.add_sub_cancel_left] at hd
                exact hd
              refine W.widen (k := mMc mi) (n := mMs mi) hc hs (vx_ret ?_)
              exact W.iret hx hb (hrt.trans b4) (fun t ht hW => ⟨some (.int cst), rfl, rfl, by rw [ht]; exact hP, (fun z => nomatch z), hS.F ht⟩) hS.2.2 hd hlk
            · cases a32
          · cases a32
        · cases a3
      · cases a2
  · cases b1
theorem run_sound {l : Launch} (hfl : l.stackTraces = false) : ∀ (n mi rc rs : Nat) (al : Bool) (pc : Nat) (ml : ML) (st : List Value) (h : MH) (o : MO) (h' : MH), run n mi rc rs al pc ml st h = some (o, h') → RW9 b D cy l mi rc rs al pc ml st h o h' := by
  intro n
  induction n with
  | zero => intro mi rc rs al pc ml st h o h' hr; simp [run] at hr
  | succ n ih =>
    intro mi rc rs al pc ml st h o h' hr p e s m args below meth c H locs cells slots ls C0 hl hP hS hsz hcl hsl
    have C0' := C0
    obtain ⟨hx, hb, hml, hown, hts, hWd, hlk, hrt, hini, htab⟩ := C0'
    simp only [run] at hr
    split at hr
    · cases hr
    · rename_i E hE
      have hch := mEnt_ok hE
      split at hr
      · rename_i q hq
        obtain ⟨pc1, l1, st1⟩ := q
        exact stepP_sound hx hb hch hl hq (fun ls' hl' => ih _ _ _ _ _ _ _ _ _ _ hr p e s m args below meth c H locs cells slots ls' C0 hl' hP hS hsz hcl hsl)
      · rename_i z9; clear z9
        split at hr
        · rename_i q hq
          obtain ⟨st1, h1, rc1, rs1⟩ := q
          exact stepH_sound C0 hch hq hl.1 hP hS hsz hcl hsl (fun H1 locs1 cells1 slots1 hP1 hS1 hz1 hc1 hs1 => ih _ _ _ _ _ _ _ _ _ _ hr p e s m args below meth c H1 locs1 cells1 slots1 ls C0 hl hP1 hS1 hz1 hc1 hs1)
        · rename_i z9; clear z9
          split at hr
          · rename_i q hq
            obtain ⟨mj, as, rest⟩ := q
            cases hrm : rmOk mi mj rc rs
            · rw [hrm] at hr; cases hr
            · rw [hrm] at hr
              simp only [cond_true] at hr
              simp only [rmOk, Bool.and_eq_true, Nat.ble_eq] at hrm
              obtain ⟨⟨r1, r2⟩, r3, r4⟩ := hrm
              -- the callee's contract
              have hop : ∃ op i, callP op (mCls mi) i st h = some (mj, as, rest) ∧ E.2.1 = pc + 3 ∧ ((op = 0 ∧ decode (mBy mi) pc = .ok (.invokestatic i, 3)) ∨ (op = 1 ∧ decode (mBy mi) pc = .ok (.invokevirtual i, 3)) ∨ (op = 2 ∧ decode (mBy mi) pc = .ok (.invokespecial i, 3))) := by
                obtain ⟨i, nx, ts, d⟩ := E
                cases i
                case invokestatic i0 =>
                  simp only [chE, Bool.and_eq_true, decide_eq_true_eq] at hch
                  obtain ⟨hd, hn⟩ := hch
                  try dsimp only at hn
                  subst hn
                  rw [Nat.add_sub_cancel_left] at hd
                  exact ⟨0, i0, hq, rfl, Or.inl ⟨rfl, hd⟩⟩
                case invokevirtual i0 =>
                  simp only [chE, Bool.and_eq_true, decide_eq_true_eq] at hch
                  obtain ⟨hd, hn⟩ := hch
                  try dsimp only at hn
                  subst hn
                  rw [Nat.add_sub_cancel_left] at hd
                  exact ⟨1, i0, hq, rfl, Or.inr (Or.inl ⟨rfl, hd⟩)⟩
                case invokespecial i0 =>
                  simp only [chE, Bool.and_eq_true, decide_eq_true_eq] at hch
                  obtain ⟨hd, hn⟩ := hch
                  try dsimp only at hn
                  subst hn
                  rw [Nat.add_sub_cancel_left] at hd
                  exact ⟨2, i0, hq, rfl, Or.inr (Or.inr ⟨rfl, hd⟩)⟩
                all_goals exact absurd hq (by simp [stepC])
              obtain ⟨op, i, hcp, hnx, hd⟩ := hop
              obtain ⟨kd, li, hq2, b1, b2, b3, b4, b5, b6, b7, b8, b9⟩ := callP_spec hcp
              obtain ⟨f1, f2, f3, f4, f5, f6, f7, f8, f9, f10, f11, f12, f13, f14, f15⟩ := cal_of hq2
              have hcat : as.all (fun v => v.category == 1) = true := by rw [b8]; exact rev_all b6
              have hlen : as.length ≤ mNL mj := by rw [b8, List.length_reverse, List.length_take]; omega
              have hgo : ∀ (o1 : MO) (h1 : MH), run n mj (mMc mj) (mMs mj) al 0 (lv_args 0 as) [] h = some (o1, h1) → vx_Run p l e (rmM mi) s m args below meth c H locs cells slots (mMc mj) (mMs mj) (F0 m pc ls (st.map (tv b))) (rest.map (tv b)) (Qc9 b D cy o1 h1 al (as.map (tv b)).toArray) (XC9 b D cy o1 h1) (AB b) := fun o1 h1 h9 =>
                call_run C0 hcp hd hl.1 hP hS hsz ⟨r1, r2⟩ (by omega) (by omega) (met_of f9 f10 f13 hcat hlen (ih _ _ _ _ _ _ _ _ _ _ h9))
              split at hr
              · rename_i v h1 h9
                refine call_go (hgo _ _ h9) hS (fun v' hv H1 locs1 hP1 hz1 hS1 => ?_) (fun x hx9 => by cases hx9)
                cases hv
                have h10 := ih _ _ _ _ _ _ _ _ _ _ hr p e s m args below meth c H1 locs1 (cells + mMc mj) (slots + mMs mj) ls C0 hl hP1 hS1 hz1 (by omega) (by omega)
                rw [hnx] at h10
                have hst : (v.toList ++ rest).map (tv b) = (v.map (tv b)).toList ++ rest.map (tv b) := by cases v <;> rfl
                rw [hst] at h10
                exact h10
              · rename_i x h1 h9
                refine call_go (hgo _ _ h9) hS (fun v' hv => by cases hv) (fun x' hx9 ce q H1 locs1 hP1 hS1 hce hcv hcls => ?_)
                cases hx9
                split at hr
                · rename_i hh
                  cases hr
                  exact vx_out (fun z hz => by rw [htab, hh] at hz; cases hz) hlk hce hcv hcls (fun t ht _ => ⟨x, rfl, rfl, by rw [ht]; exact hP1, hS1.F ht⟩) hS1.2.2 (by omega) (by omega)
                · split at hr
                  · rename_i v hv
                    cases hcov : !al && (mHh mi).all (fun r => Nat.ble r.1 pc && Nat.blt pc r.2.1)
                    · rw [hcov] at hr; cases hr
                    · rw [hcov] at hr
                      cases hr
                      rw [Bool.and_eq_true] at hcov
                      cases al
                      · exact han_go C0 hl hv hcov.2 hP1 hS1 hce hcv hcls (by omega) (by omega)
                      · exact absurd hcov.1 (by decide)
                  · cases hr
              · cases hr
          · rename_i z9; clear z9
            split at hr
            · rename_i o1 ho
              cases hr
              obtain ⟨i, nx, ts, d⟩ := E
              cases i
              case return_ =>
                simp only [chE, Bool.and_eq_true, decide_eq_true_eq] at hch
                obtain ⟨hd, hn⟩ := hch
                try dsimp only at hn
                subst hn
                rw [Nat.add_sub_cancel_left] at hd
                simp only [stepR] at ho
                split at ho
                · rename_i hr0
                  cases ho
                  refine W.widen (k := mMc mi) (n := mMs mi) (by omega) (by omega) (vx_ret ?_)
                  exact W.vret hx hb (hrt.trans hr0) (fun t ht hW => ⟨none, rfl, rfl, by rw [ht]; exact hP, fun q => by rw [ht]; exact hsz q, hS.F ht⟩) hS.2.2 hd hlk
                · cases ho
              case ireturn =>
                simp only [chE, Bool.and_eq_true, decide_eq_true_eq] at hch
                obtain ⟨hd, hn⟩ := hch
                try dsimp only at hn
                subst hn
                rw [Nat.add_sub_cancel_left] at hd
                simp only [stepR] at ho
                split at ho
                · rename_i v hr0
                  cases ho
                  refine W.widen (k := mMc mi) (n := mMs mi) (by omega) (by omega) (vx_ret ?_)
                  exact W.iret hx hb (hrt.trans hr0) (fun t ht hW => ⟨some (.int v), rfl, rfl, by rw [ht]; exact hP, fun q => by rw [ht]; exact hsz q, hS.F ht⟩) hS.2.2 hd hlk
                · rename_i v hr0
                  cases h01 : v == 0 || v == 1
                  · rw [h01] at ho; cases ho
                  · rw [h01] at ho
                    cases ho
                    rw [Bool.or_eq_true, beq_iff_eq, beq_iff_eq] at h01
                    have hnar : narrow .boolean (.int v) = .int v := by rcases h01 with rfl | rfl <;> rfl
                    refine W.widen (k := mMc mi) (n := mMs mi) (by omega) (by omega) (vx_ret ?_)
                    exact W.zret hx hb (hrt.trans hr0) hnar (fun t ht hW => ⟨some (.int v), rfl, rfl, by rw [ht]; exact hP, fun q => by rw [ht]; exact hsz q, hS.F ht⟩) hS.2.2 hd hlk
                · cases ho
              case new i0 =>
                simp only [stepR] at ho
                split at ho
                · rename_i q hq0
                  cases hg : (!al && (Nat.ble 1 rc && Nat.ble 6 rs)) && (Nat.ble 6 (mHt mi) && (Nat.ble 82 (mLo mi) && (mHh mi).isEmpty))
                  · rw [hg] at ho; cases ho
                  · rw [hg] at ho
                    cases ho
                    simp only [Bool.and_eq_true, Nat.ble_eq, List.isEmpty_iff, Bool.not_eq_true'] at hg
                    obtain ⟨⟨g1, g2, g3⟩, g4, g5, g6⟩ := hg
                    exact thr_go hfl C0 hq0 g6 hl.1 hP hS g4 g5 (by omega) (by omega)
                · cases ho
              all_goals exact absurd ho (by simp [stepR])
            · cases hr
end RUNSOUND
