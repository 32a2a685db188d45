/-! ===== a call of the mini machine is a call of the machine ===== -/
theorem cal_kd : calL.all (fun q => decide (q.2.1.2 < 6)) = true := by decide +kernel
theorem rcv_spec {n t : Nat} {st : List Value} {h : MH} (hr : rcv n st h t = true) : ∃ n' k vs, n = n' + 1 ∧ st[n']? = some (.ref k) ∧ h[k]? = some (t, vs) := by
  cases n with
  | zero => simp [rcv] at hr
  | succ n' =>
    simp only [rcv] at hr
    split at hr
    · rename_i k hk
      split at hr
      · rename_i c hc
        exact ⟨n', k, c.2, rfl, hk, by rw [hc, ← beq_iff_eq.mp hr]⟩
      · cases hr
    · cases hr
theorem callP_spec {op cls i mj : Nat} {st as rest : List Value} {h : MH} (hc : callP op cls i st h = some (mj, as, rest)) :
    ∃ (kd : Nat) (li : Nat × List Nat), lk2 calL cls i = some ((mj, kd), li) ∧ kd % 3 = op ∧ mNA mj ≤ st.length ∧ (op = 0 ∨ rcv (mNA mj) st h (mCls mj) = true) ∧ (kd = 0 ∨ mHh mj = []) ∧ mNA mj ≤ mNL mj ∧ (st.take (mNA mj)).all (fun v => v.category == 1) = true ∧ ((st.drop (mNA mj)).map fun v => v.category).sum ≤ 8 ∧ as = (st.take (mNA mj)).reverse ∧ rest = st.drop (mNA mj) := by
  unfold callP at hc
  split at hc
  · rename_i q hq
    cases hb : (q.1.2 % 3 == op && (Nat.ble (mNA q.1.1) st.length && (op == 0 || rcv (mNA q.1.1) st h (mCls q.1.1)))) && ((q.1.2 == 0 || (mHh q.1.1).isEmpty) && (Nat.ble (mNA q.1.1) (mNL q.1.1) && ((st.take (mNA q.1.1)).all (fun v => v.category == 1) && Nat.ble ((st.drop (mNA q.1.1)).map fun v => v.category).sum 8)))
    · rw [hb] at hc; cases hc
    · rw [hb] at hc
      cases hc
      simp only [Bool.and_eq_true, Bool.or_eq_true, beq_iff_eq, Nat.ble_eq, List.isEmpty_iff] at hb
      obtain ⟨⟨b1, b2, b3⟩, b4, b5, b6, b7⟩ := hb
      exact ⟨q.1.2, q.2, hq, b1, b2, b3, b4, b5, b6, b7, rfl, rfl⟩
  · cases hc
theorem rev_all {st : List Value} {f : Value → Bool} (h : st.all f = true) : st.reverse.all f = true := by rw [List.all_reverse]; exact h
section CALLSG
variable {p : Program} {l : Launch} {e : Env} {s : State} {m : MethodId} {args : Array Value} {below : List Frame} {meth : Method} {c : Code} {H : Heap} {locs : List Loc} {cells slots : Nat}
variable {b pc cls nL : Nat} {R : Room} {cc : ByteArray} {ls : Array Slot} {D : va_G} {cy : Nat → ClassId} {h h' : MH} {al : Bool}
theorem call_runW {i mj : Nat} {kd : Nat} {li : Nat × List Nat} {as rest : List Value} {o : MO} (hx : p.tables.exec = Jvm.exec) (hb : c.code = cc) (hml : c.maxLocals = nL) (hown : s.vm.findClass (cN cls) = some m.cls) (hts : ∀ w ∈ TBL, w.before args s = true) (hWd : Wd b D cy s)
    (hq : lk2 calL cls i = some ((mj, kd), li)) (hk0 : kd = 0) (hna : as.length = mNA mj) (hh : ∃ z zs, mHh mj = z :: zs) (hW8 : ((rest.map (tv b)).map fun v => v.category).sum ≤ 8) (hd : decode cc pc = .ok (.invokestatic i, 3))
    (hsize : ls.size = nL) (hP : va_P D vwC (wsOf b cy h) H) (hS : va_S (AB b) s.heap H locs) (hsz : al = true → H.size = b + h.length) (hrm : mHt mj + 1 ≤ R.frames ∧ 19 + mNL mj + mLo mj ≤ R.locals) (hcl : cells + mMc mj ≤ R.cells) (hsl : slots + mMs mj ≤ R.slots)
    (hM : vx_Met l (mNm mj) (wsM mj) (rmM mj) (Pc9 b D cy as h al) (Qc9 b D cy o h' al) (XC9 b D cy o h') (mMc mj) (mMs mj) (AB b)) :
    vx_Run p l e R s m args below meth c H locs cells slots (mMc mj) (mMs mj) (F0 m pc ls ((as.reverse ++ rest).map (tv b))) (rest.map (tv b)) (Qc9 b D cy o h' al (as.map (tv b)).toArray) (XC9 b D cy o h') (AB b) := by
  obtain ⟨f1, f2, f3, f4, f5, f6, f7, f8, f9, f10, f11, f12, f13, f14, f15⟩ := cal_of hq
  dsimp only at f1 f2 f3 f4 f5 f6 f7 f8 f9 f10 f11 f12 f13 f14 f15
  subst hk0
  obtain ⟨z, zs, hh⟩ := hh
  have hw : wsM mj = Jvm.Cond.codeWith (mNm mj) (mBy mj) (mNL mj) (mRt mj) (z :: zs) :: TBL := by unfold wsM; rw [hh]
  have hcw : Jvm.Cond.codeWith (mNm mj) (mBy mj) (mNL mj) (mRt mj) (z :: zs) ∈ TBL := by
    have h1 := cw_all mj f3
    unfold cwP at h1
    rw [show (row mj).2.2.2.2.1 = z :: zs from hh] at h1
    exact tbl_of h1 rfl
  have hG : GoodIn TBL (va_wsS (cN cls) i (mNm mj) (wsM mj)) := by
    unfold va_wsS
    refine good_cons (f1 (by decide)) (good_cons (f5 rfl) (good_cons f4 ?_))
    rw [hw]
    intro w hw
    rcases List.mem_cons.mp hw with rfl | hw
    · exact ⟨hcw, good_of_word rfl⟩
    · exact ⟨hw, good_of_word (tbl_good hw)⟩
  rw [if_pos rfl] at f8
  have hR : (rmM mj).frames + 1 ≤ R.frames ∧ 8 + (mNL mj + 11) + (rmM mj).locals ≤ R.locals := ⟨hrm.1, by show 8 + (mNL mj + 11) + mLo mj ≤ R.locals; omega⟩
  have hpre : ∀ U : State, U.heap = H → s.WarmedH U.vm → Pc9 b D cy as h al ((as.map (tv b)).toArray) U := fun U hU hW => ⟨rfl, Wd_move hW hU hS hWd, by rw [hU]; exact hP, fun q => by rw [hU]; exact hsz q⟩
  have hstk : (as.reverse ++ rest).map (tv b) = (as.map (tv b)).reverse ++ rest.map (tv b) := by rw [List.map_append, List.map_reverse]
  exact vx_runSX (hh := z :: zs) (nL := nL) (Ts := TBL) (n := mNA mj) ⟨hx, hb, hml, hown, hts⟩ hM (vx_cwSW (mNA mj) hts hG hw rfl rfl f8 hR) ⟨Pc9_blind, hpre⟩ rfl (by rw [List.length_map]; exact hna) hsize hstk (lv_room hW8) hd ⟨hcl, hsl⟩
theorem call_runG {op i mj : Nat} {st as rest : List Value} {o : MO} (hx : p.tables.exec = Jvm.exec) (hb : c.code = cc) (hml : c.maxLocals = nL) (hown : s.vm.findClass (cN cls) = some m.cls) (hts : ∀ w ∈ TBL, w.before args s = true) (hWd : Wd b D cy s) (hcp : callP op cls i st h = some (mj, as, rest))
    (hd : (op = 0 ∧ decode cc pc = .ok (.invokestatic i, 3)) ∨ (op = 1 ∧ decode cc pc = .ok (.invokevirtual i, 3)) ∨ (op = 2 ∧ decode cc pc = .ok (.invokespecial i, 3)))
    (hsize : ls.size = nL) (hP : va_P D vwC (wsOf b cy h) H) (hS : va_S (AB b) s.heap H locs) (hsz : al = true → H.size = b + h.length) (hrm : mHt mj + 1 ≤ R.frames ∧ 19 + mNL mj + mLo mj ≤ R.locals) (hcl : cells + mMc mj ≤ R.cells) (hsl : slots + mMs mj ≤ R.slots)
    (hM : vx_Met l (mNm mj) (wsM mj) (rmM mj) (Pc9 b D cy as h al) (Qc9 b D cy o h' al) (XC9 b D cy o h') (mMc mj) (mMs mj) (AB b)) :
    vx_Run p l e R s m args below meth c H locs cells slots (mMc mj) (mMs mj) (F0 m pc ls (st.map (tv b))) (rest.map (tv b)) (Qc9 b D cy o h' al (as.map (tv b)).toArray) (XC9 b D cy o h') (AB b) := by
  have hK := hWd.1
  have hxw := hWd.2.2.2.2.2.1
  obtain ⟨kd, li, hq, b1, b2, b3, b4, b5, b6, b7, rfl, rfl⟩ := callP_spec hcp
  obtain ⟨f1, f2, f3, f4, f5, f6, f7, f8, f9, f10, f11, f12, f13, f14, f15⟩ := cal_of hq
  dsimp only at f1 f2 f3 f4 f5 f6 f7 f8 f9 f10 f11 f12 f13 f14 f15
  have hR : (rmM mj).frames + 1 ≤ R.frames ∧ 8 + (mNL mj + 11) + (rmM mj).locals ≤ R.locals := ⟨hrm.1, by show 8 + (mNL mj + 11) + mLo mj ≤ R.locals; omega⟩
  have hpre : ∀ U : State, U.heap = H → s.WarmedH U.vm → Pc9 b D cy (st.take (mNA mj)).reverse h al (((st.take (mNA mj)).reverse).map (tv b)).toArray U := fun U hU hW => ⟨rfl, Wd_move hW hU hS hWd, by rw [hU]; exact hP, fun q => by rw [hU]; exact hsz q⟩
  have hrest : ((st.drop (mNA mj)).map (tv b)).map (fun v => v.category) = (st.drop (mNA mj)).map fun v => v.category := by rw [List.map_map]; exact List.map_congr_left fun v _ => tv_cat b v
  have hW8 : (((st.drop (mNA mj)).map (tv b)).map fun v => v.category).sum ≤ 8 := by rw [hrest]; exact b7
  have hstk : st.map (tv b) = (((st.take (mNA mj)).reverse).map (tv b)).reverse ++ (st.drop (mNA mj)).map (tv b) := by
    rw [← List.map_reverse, List.reverse_reverse, ← List.map_append, List.take_append_drop]
  have hlen : (((st.take (mNA mj)).reverse).map (tv b)).length = mNA mj := by rw [List.length_map, List.length_reverse, List.length_take]; omega
  rcases hd with ⟨rfl, hd⟩ | ⟨rfl, hd⟩ | ⟨rfl, hd⟩
  · by_cases h3 : kd < 3
    · have hk0 : kd = 0 := by omega
      cases hh9 : mHh mj with
      | cons z zs =>
        have hcat9 : (st.take (mNA mj)).reverse.length = mNA mj := by rw [List.length_reverse, List.length_take]; omega
        have W9 := call_runW (e := e) (below := below) (meth := meth) (rest := st.drop (mNA mj)) (pc := pc) (ls := ls) (al := al) (cc := cc) (R := R) (locs := locs) hx hb hml hown hts hWd hq hk0 hcat9 ⟨z, zs, hh9⟩ hW8 hd hsize hP hS hsz hrm hcl hsl hM
        rw [List.reverse_reverse, List.take_append_drop] at W9
        exact W9
      | nil =>
      have b4 : mHh mj = [] := hh9
      rw [if_pos b1] at f8
      exact vx_runS (nL := nL) (Ts := TBL) (n := mNA mj) ⟨hx, hb, hml, hown, hts⟩ hM ⟨callB_of (mNA mj) hts (wsM_good f3 b4) (wsM_nil b4) rfl rfl (hts _ f4) (hts _ (f1 h3)) f8 hR, hts _ (f5 b1)⟩ ⟨Pc9_blind, hpre⟩ rfl hlen hsize hstk (lv_room hW8) hd ⟨hcl, hsl⟩
    · have b4 := b4.resolve_left (fun q => h3 (by rw [q]; decide))
      rw [if_pos b1] at f8
      exact vx_runSN (nL := nL) (Ts := TBL) (n := mNA mj) (host := "Menuline") ⟨hx, hb, hml, hown, hts⟩ hM ⟨va_cnB (mNA mj) hts (wsM_good f3 b4) (wsM_nil b4) rfl rfl (hxw _ (List.mem_append_right _ (f2 h3))) (hts _ f4) f8 hR, hts _ (f5 b1), trivial⟩ ⟨Pc9_blind, hpre⟩ rfl hlen hsize hstk (lv_room hW8) hd ⟨hcl, hsl⟩
  · have h0 : ¬ kd % 3 = 0 := by omega
    have b4 := b4.resolve_left (fun q => h0 (by rw [q]))
    have hkd : kd = 1 := by
      have : kd < 6 := by
        have hm := List.all_eq_true.mp cal_kd _ (lk2_mem hq)
        exact of_decide_eq_true hm
      omega
    obtain ⟨n', k0, vs, hn, hk, hh0⟩ := rcv_spec (b3.resolve_left (by decide))
    rw [if_neg h0, hn, Nat.add_sub_cancel] at f8
    have htk : st.take (mNA mj) = st.take n' ++ [.ref k0] := by rw [hn, List.take_add_one, hk]; rfl
    have hstk2 : st.map (tv b) = (((st.take n').reverse).map (tv b)).reverse ++ .ref (b + k0) :: (st.drop (mNA mj)).map (tv b) := by
      rw [hstk, htk]
      simp [tv]
    have hlen2 : (((st.take n').reverse).map (tv b)).length = n' := by
      have : n' < st.length := (List.getElem?_eq_some_iff.mp hk).1
      rw [List.length_map, List.length_reverse, List.length_take]; omega
    have harr : (Value.ref (b + k0) :: ((st.take n').reverse).map (tv b)).toArray = (((st.take (mNA mj)).reverse).map (tv b)).toArray := by rw [htk]; simp [tv]
    have hci := f15.resolve_left h0
    have he := wsOf_get (b := b) (cy := cy) hh0
    rw [trC_obj (by omega)] at he
    have hrv := va_recv hK hP (vw_at hci) he
    exact vx_runV (nL := nL) (Ts := TBL) (n := n') (C := (mNm mj).cls) (b := b + k0) (As := ((st.take n').reverse).map (tv b)) ⟨hx, hb, hml, hown, hts⟩ hM ⟨callB_of n' hts (wsM_good f3 b4) (wsM_nil b4) rfl rfl (hts _ f4) (hts _ (f1 (by omega))) f8 hR, hts _ (f6 h0), hts _ (f7 hkd)⟩
      ⟨Pc9_blind, by rw [f10]; exact hrv, fun U hU hW => by rw [harr]; exact hpre U hU hW⟩ rfl hlen2 hsize hstk2 (lv_room hW8) hd ⟨hcl, hsl⟩
  · have h0 : ¬ kd % 3 = 0 := by omega
    have b4 := b4.resolve_left (fun q => h0 (by rw [q]))
    obtain ⟨n', k0, vs, hn, hk, hh0⟩ := rcv_spec (b3.resolve_left (by decide))
    rw [if_neg h0, hn, Nat.add_sub_cancel] at f8
    have htk : st.take (mNA mj) = st.take n' ++ [.ref k0] := by rw [hn, List.take_add_one, hk]; rfl
    have hstk2 : st.map (tv b) = (((st.take n').reverse).map (tv b)).reverse ++ .ref (b + k0) :: (st.drop (mNA mj)).map (tv b) := by
      rw [hstk, htk]
      simp [tv]
    have hlen2 : (((st.take n').reverse).map (tv b)).length = n' := by
      have : n' < st.length := (List.getElem?_eq_some_iff.mp hk).1
      rw [List.length_map, List.length_reverse, List.length_take]; omega
    have harr : (Value.ref (b + k0) :: ((st.take n').reverse).map (tv b)).toArray = (((st.take (mNA mj)).reverse).map (tv b)).toArray := by rw [htk]; simp [tv]
    obtain ⟨hin1, hin2⟩ := f11 b1
    have hpre2 : PreS s H (Pc9 b D cy (st.take (mNA mj)).reverse h al) (.ref (b + k0) :: ((st.take n').reverse).map (tv b)) := ⟨Pc9_blind, fun U hU hW => by rw [harr]; exact hpre U hU hW⟩
    by_cases h3 : kd < 3
    · have cb : CallB R s args (cN cls) i (mNm mj) (mBy mj) (mNL mj) (mRt mj) (wsM mj) (rmM mj) (mMc mj) (mMs mj) n' := callB_of n' hts (wsM_good f3 b4) (wsM_nil b4) rfl rfl (hts _ f4) (hts _ (f1 h3)) f8 hR
      rw [hin2] at cb
      exact vx_runI (nL := nL) (Ts := TBL) (n := n') (b := b + k0) (As := ((st.take n').reverse).map (tv b)) ⟨hx, hb, hml, hown, hts⟩ hM ⟨cb, hin1, hts _ (f6 h0)⟩ hpre2 rfl hlen2 hsize hstk2 (lv_room hW8) hd ⟨hcl, hsl⟩
    · have cb : va_CN R s args (cN cls) i (mNm mj) "Menuline" (mBy mj) (mNL mj) (mRt mj) (wsM mj) (rmM mj) (mMc mj) (mMs mj) n' := va_cnB n' hts (wsM_good f3 b4) (wsM_nil b4) rfl rfl (hxw _ (List.mem_append_right _ (f2 h3))) (hts _ f4) f8 hR
      rw [hin2] at cb
      exact vx_runIN (nL := nL) (Ts := TBL) (n := n') (b := b + k0) (As := ((st.take n').reverse).map (tv b)) ⟨hx, hb, hml, hown, hts⟩ hM ⟨cb, hin1, hts _ (f6 h0)⟩ hpre2 rfl hlen2 hsize hstk2 (lv_room hW8) hd ⟨hcl, hsl⟩
theorem call_run {mi : Nat} {op i mj : Nat} {st as rest : List Value} {o : MO} (C0 : CtxM b D cy mi p s m args meth c) (hcp : callP op (mCls mi) i st h = some (mj, as, rest))
    (hd : (op = 0 ∧ decode (mBy mi) pc = .ok (.invokestatic i, 3)) ∨ (op = 1 ∧ decode (mBy mi) pc = .ok (.invokevirtual i, 3)) ∨ (op = 2 ∧ decode (mBy mi) pc = .ok (.invokespecial i, 3)))
    (hsize : ls.size = mNL mi) (hP : va_P D vwC (wsOf b cy h) H) (hS : va_S (AB b) s.heap H locs) (hsz : al = true → H.size = b + h.length) (hrm : mHt mj + 1 ≤ mHt mi ∧ 19 + mNL mj + mLo mj ≤ mLo mi) (hcl : cells + mMc mj ≤ mMc mi) (hsl : slots + mMs mj ≤ mMs mi)
    (hM : vx_Met l (mNm mj) (wsM mj) (rmM mj) (Pc9 b D cy as h al) (Qc9 b D cy o h' al) (XC9 b D cy o h') (mMc mj) (mMs mj) (AB b)) :
    vx_Run p l e (rmM mi) s m args below meth c H locs cells slots (mMc mj) (mMs mj) (F0 m pc ls (st.map (tv b))) (rest.map (tv b)) (Qc9 b D cy o h' al (as.map (tv b)).toArray) (XC9 b D cy o h') (AB b) := by
  obtain ⟨hx, hb, hml, hown, hts, hWd, hlk, hrt, hini, htab⟩ := C0
  exact call_runG (R := rmM mi) hx hb hml hown hts hWd hcp hd hsize hP hS hsz hrm hcl hsl hM
end CALLSG
