/-! ===== calls, answers, throws: the whole run ===== -/
theorem cal_of {cls i : Nat} {q : (Nat × Nat) × Nat × List Nat} (h : lk2 calL cls i = some q) :
    (q.1.2 < 3 → Jvm.Cond.methodLink (cN cls) i (mNm q.1.1) ∈ TBL) ∧ (¬ q.1.2 < 3 → Jvm.Cond.methodLinkNest (cN cls) i (mNm q.1.1) "Menuline" ∈ nestL) ∧ q.1.1 < mN ∧ Jvm.Cond.initialized (mNm q.1.1).cls ∈ TBL ∧
    (q.1.2 % 3 = 0 → Jvm.Cond.static (mNm q.1.1) ∈ TBL) ∧ (q.1.2 % 3 ≠ 0 → Jvm.Cond.instanceMethod (mNm q.1.1) ∈ TBL) ∧ (q.1.2 = 1 → Jvm.Cond.selects (mNm q.1.1).cls (mNm q.1.1) (mNm q.1.1) ∈ TBL) ∧
    ((mNm q.1.1).cls ≠ "java/lang/invoke/MethodHandle" ∧ (mNm q.1.1).cls ≠ "java/lang/invoke/VarHandle" ∧ (parseMethodDescriptor (mNm q.1.1).desc).map (fun d => d.parameters.length) = some (if q.1.2 % 3 = 0 then mNA q.1.1 else mNA q.1.1 - 1)) ∧
    plainName (mNm q.1.1).cls = true ∧ (mNm q.1.1).cls = cN (mCls q.1.1) ∧ (q.1.2 % 3 = 2 → (mNm q.1.1).name = "<init>" ∧ mRt q.1.1 = none) ∧ (q.1.2 % 3 = 0 ∨ 0 < mNA q.1.1) ∧ mIni q.1.1 = decide ((mNm q.1.1).name = "<init>") ∧ q.1.2 ≠ 4 ∧ (q.1.2 % 3 = 0 ∨ mCls q.1.1 < 7) := by
  have hm := lk2_mem h
  have a1 := of_decide_eq_true (List.all_eq_true.mp cal_c1 _ hm)
  have a2 := of_decide_eq_true (List.all_eq_true.mp cal_c2 _ hm)
  have a3 := of_decide_eq_true (List.all_eq_true.mp cal_c3 _ hm)
  have a4 := of_decide_eq_true (List.all_eq_true.mp cal_c4 _ hm)
  have a5 := of_decide_eq_true (List.all_eq_true.mp cal_c5 _ hm)
  have a6 := of_decide_eq_true (List.all_eq_true.mp cal_c6 _ hm)
  have a7 := List.all_eq_true.mp cal_c7 _ hm
  have a8 := of_decide_eq_true (List.all_eq_true.mp cal_c8 _ hm)
  have a9 := of_decide_eq_true (List.all_eq_true.mp cal_c9 _ hm)
  have a10 := of_decide_eq_true (List.all_eq_true.mp cal_c10 _ hm)
  have a11 := beq_iff_eq.mp (List.all_eq_true.mp cal_c11 _ hm)
  have a12 := of_decide_eq_true (List.all_eq_true.mp cal_c12 _ hm)
  have a13 := of_decide_eq_true (List.all_eq_true.mp cal_c13 _ hm)
  refine ⟨fun z => ?_, fun z => ?_, a2, tbl_of a3 rfl, fun z => ?_, fun z => ?_, fun z => tbl_of (a5 z) rfl, a6, a7, a8, a9, a10, a11, a12, a13⟩
  · rw [if_pos z] at a1
    exact tbl_of a1 rfl
  · refine List.mem_filterMap.mpr ⟨_, hm, ?_⟩
    rw [if_neg z]
  · rw [if_pos z] at a4
    exact tbl_of a4 rfl
  · rw [if_neg z] at a4
    exact tbl_of a4 rfl
theorem cw_of {mi : Nat} (h : mi < mN) (hh : mHh mi = []) : Jvm.Cond.code (mNm mi) (mBy mi) (mNL mi) (mRt mi) ∈ TBL := by
  have h1 := cw_all mi h
  unfold cwP at h1
  rw [show (row mi).2.2.2.2.1 = [] from hh] at h1
  exact tbl_of h1 rfl
def wsM (mi : Nat) : List Jvm.Cond := (match mHh mi with
  | [] => Jvm.Cond.code (mNm mi) (mBy mi) (mNL mi) (mRt mi)
  | q :: hh => Jvm.Cond.codeWith (mNm mi) (mBy mi) (mNL mi) (mRt mi) (q :: hh)) :: TBL
theorem wsM_nil {mi : Nat} (hh : mHh mi = []) : wsM mi = Jvm.Cond.code (mNm mi) (mBy mi) (mNL mi) (mRt mi) :: TBL := by
  unfold wsM
  rw [hh]
theorem wsM_good {mi : Nat} (h : mi < mN) (hh : mHh mi = []) : GoodIn TBL (wsM mi) := by
  intro w hw
  rw [wsM_nil hh] at hw
  rcases List.mem_cons.mp hw with rfl | hw
  · exact ⟨cw_of h hh, good_of_word rfl⟩
  · exact ⟨hw, good_of_word (tbl_good hw)⟩
theorem good_cons {w : Jvm.Cond} {L : List Jvm.Cond} (hw : w ∈ TBL) (h : GoodIn TBL L) : GoodIn TBL (w :: L) := fun v hv => by
  rcases List.mem_cons.mp hv with rfl | hv
  · exact ⟨hw, good_of_word (tbl_good hw)⟩
  · exact h v hv
theorem lv_args_tv (b : Nat) : ∀ (as : List Value) (i : Nat), trL b (lv_args i as) = lv_args i (as.map (tv b))
  | [], _ => rfl
  | v :: vs, i => by
    show (i, tv b v) :: trL b (lv_args _ vs) = (i, tv b v) :: lv_args _ (vs.map (tv b))
    rw [lv_args_tv b vs, tv_cat]
theorem lg_sl_len {b : Nat} : ∀ {as : List Value}, as.all (fun v => v.category == 1) = true → (lg_sl (as.map (tv b))).length = as.length
  | [], _ => rfl
  | v :: vs, h => by
    rw [List.all_cons, Bool.and_eq_true, beq_iff_eq] at h
    have ih := lg_sl_len (b := b) h.2
    unfold lg_sl at ih ⊢
    rw [List.map_cons, List.flatMap_cons, List.length_append, ih, if_neg (by rw [tv_cat]; omega)]
    simp [Nat.add_comm]
section RUNS
variable {b : Nat} {D : va_G} {cy : Nat → ClassId}
/-- a stretch of the mini machine's run is one of the machine's -/
def RW9 (b : Nat) (D : va_G) (cy : Nat → ClassId) (l : Launch) (mi rc rs : Nat) (al : Bool) (pc : Nat) (ml : ML) (st : List Value) (h : MH) (o : MO) (h' : MH) : Prop :=
  ∀ (p : Program) (e : Env) (s : State) (m : MethodId) (args : Array Value) (below : List Frame) (meth : Method) (c : Code) (H : Heap) (locs : List Loc) (cells slots : Nat) (ls : Array Slot),
    CtxM b D cy mi p s m args meth c → lv_has ls (mNL mi) (trL b ml) → va_P D vwC (wsOf b cy h) H → va_S (AB b) s.heap H locs → (al = true → H.size = b + h.length) → cells + rc ≤ mMc mi → slots + rs ≤ mMs mi →
    W p l e (rmM mi) s m args below meth c H locs cells slots (vx_MQ below (Qc9 b D cy o h' al) (XC9 b D cy o h') args s (mMc mi) (mMs mi) (AB b)) (F0 m pc ls (st.map (tv b)))
theorem met_of {l : Launch} {mj : Nat} {as : List Value} {h h' : MH} {o : MO} {al : Bool} (hpl : plainName (mNm mj).cls = true) (hcn : (mNm mj).cls = cN (mCls mj)) (hini : mIni mj = decide ((mNm mj).name = "<init>")) (hcat : as.all (fun v => v.category == 1) = true) (hlen : as.length ≤ mNL mj)
    (hr : RW9 b D cy l mj (mMc mj) (mMs mj) al 0 (lv_args 0 as) [] h o h') : vx_Met l (mNm mj) (wsM mj) (rmM mj) (Pc9 b D cy as h al) (Qc9 b D cy o h' al) (XC9 b D cy o h') (mMc mj) (mMs mj) (AB b) := by
  have key : ∀ (p : Program) (e : Env) (s : State) (m : MethodId) (args : Array Value) (below : List Frame) (meth : Method) (c : Code) (s₁ : State), BodyLoose p l (mNm mj) (headSpec (wsM mj) (rmM mj)) (mBy mj) (mNL mj) (mRt mj) e s m args below meth c s₁ → c.maxLocals = mNL mj → c.exceptionTable.toList = tableOf (mHh mj) → Pc9 b D cy as h al args s →
      W p l e (headSpec (wsM mj) (rmM mj)).room s m args below meth c s.heap [] 0 0 (vx_MQ below (Qc9 b D cy o h' al) (XC9 b D cy o h') args s (mMc mj) (mMs mj) (AB b)) (entryFrame m args (mNL mj)) := by
    intro p e s m args below meth c s₁ B hml ht hv
    obtain ⟨rfl, hWd, hP, hal⟩ := hv
    rw [lg_entry_eq]
    have hl := lv_entry (as.map (tv b)) (n := mNL mj) (by rw [lg_sl_len hcat]; exact hlen)
    rw [← lv_args_tv] at hl
    exact hr p e s m _ below meth c s.heap [] 0 0 _ ⟨B.exec, B.bytes, hml, by rw [← hcn]; exact findClass_of_methodNamed B.named, fun w hw => atoms_spec (ws := wsM mj) B.pre w (List.mem_cons_of_mem _ hw), hWd, B.notSynchronized, B.returns, fun z => by
      rw [hini, decide_eq_true_eq] at z
      exact ((name_of_methodNamed B.named B.method).1).trans z, ht⟩ hl hP va_S.rf hal (by omega) (by omega)
  cases hh : mHh mj with
  | nil =>
    refine vx_ofW (cc := mBy mj) (maxL := mNL mj) (ret := mRt mj) hpl (wsM_nil hh) ?_
    intro p e s m args below meth c s₁ B hml ht hv
    refine key p e s m args below meth c s₁ B hml ?_ hv
    rw [hh]
    exact List.eq_nil_iff_forall_not_mem.mpr (fun x hx => ht x hx)
  | cons q hq =>
    have hw : wsM mj = Jvm.Cond.codeWith (mNm mj) (mBy mj) (mNL mj) (mRt mj) (q :: hq) :: TBL := by unfold wsM; rw [hh]
    refine vx_ofWH (cc := mBy mj) (maxL := mNL mj) (ret := mRt mj) (hh := q :: hq) hpl hw ?_
    intro p e s m args below meth c s₁ B hml hv
    refine key p e s m args below meth c s₁ B hml ?_ hv
    rw [hh]
    exact vx_table (x := mNm mj) B (atoms_spec (ws := wsM mj) B.pre _ (by rw [hw]; exact List.mem_cons_self))
end RUNS
