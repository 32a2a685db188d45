/-! ===== the mini machine's other steps are the machine's ===== -/
def TYS (cy : Nat → ClassId) : List (ClassId × FieldType) := [(cy 100, .int), (cy 101, .boolean), (cy 100, .int), (cy 103, .object "Menuline$Node"), (cy 104, .object "Menuline$Line"), (cy 105, .object "Menuline$Desk"), (cy 106, .array .int)]
abbrev AB (b : Nat) : Nat → Prop := fun q => b ≤ q
def ncL : List (Nat × Nat) := [(0, 1), (0, 2), (1, 0), (1, 2), (2, 0), (2, 1)]
def nestL : List Jvm.Cond := calL.filterMap (fun q => if q.2.1.2 < 3 then none else some (Jvm.Cond.methodLinkNest (cN q.1.1) q.1.2 (mNm q.2.1.1) "Menuline"))
theorem nestL_ok : nestL.all xwK = true := by decide +kernel
def AO (ty : FieldType) (U : State) : Prop := (Cond.arrayOver ty).before #[] U = true
def Wd (b : Nat) (D : va_G) (cy : Nat → ClassId) (U : State) : Prop :=
  va_K D vwC (TYS cy) U ∧ b ≤ U.heap.size ∧ vx_Zq Bundle.tN "UNASSIGNED_STACK" Bundle.steD (AB b) U U.heap ∧ vx_Zq Bundle.tN "SUPPRESSED_SENTINEL" Bundle.listD (AB b) U U.heap ∧
  (∀ q ∈ thrL, ∃ a, vk_R RX6 q.2.1.2.2.1 q.2.2 a U) ∧ (∀ w ∈ xwL ++ nestL, w.before #[] U = true) ∧ (∀ q ∈ ncL, va_Nc (exN q.1) (exN q.2) U) ∧ AO (.object "Menuline$Node") U ∧ AO (.object "Menuline$Line") U ∧ AO (.object "Menuline$Desk") U ∧ AO (.array .int) U
theorem AO.moved {ty : FieldType} {u U : State} (hvm : u.vm.Alike U.vm) (h : AO ty u) : AO ty U := by
  show (Cond.arrayOver ty).before #[] (u.setVm U.vm) = true
  rw [Cond.arrayOver_setVmC hvm]
  exact h
theorem xw_all : (xwL ++ nestL).all xwK = true := by rw [List.all_append, xwL_ok, nestL_ok]; rfl
theorem vw_at {ci : Nat} (h : ci < 7) : vwC[ci]? = some (cN ci, clT ci, clN ci) := match ci, h with
  | 0, _ => rfl
  | 1, _ => rfl
  | 2, _ => rfl
  | 3, _ => rfl
  | 4, _ => rfl
  | 5, _ => rfl
  | 6, _ => rfl
  | n + 7, h => absurd h (by omega)
theorem lay_in {ci : Nat} (h : ci < 7) : ∀ w ∈ u_ws (cN ci) (clT ci) (clN ci), w ∈ TBL := match ci, h with
  | 0, _ => lay_0
  | 1, _ => lay_1
  | 2, _ => lay_2
  | 3, _ => lay_3
  | 4, _ => lay_4
  | 5, _ => lay_5
  | 6, _ => lay_6
  | n + 7, h => absurd h (by omega)
theorem ty_ok {ci : Nat} (h : ci < 7) : ∀ k, k < clN ci → parseFieldDescriptor (clT ci k).2.2.1 = some (clY ci k) := match ci, h with
  | 0, _ => tyX0_ok
  | 1, _ => tyX1_ok
  | 2, _ => tyX2_ok
  | 3, _ => tyX3_ok
  | 4, _ => tyX4_ok
  | 5, _ => tyX5_ok
  | 6, _ => tyX6_ok
  | n + 7, h => absurd h (by omega)
theorem nm_ok {ci : Nat} (h : ci < 7) : ∀ a, a < clN ci → ∀ b, b < clN ci → a ≠ b → (clT ci a).2.1 ≠ (clT ci b).2.1 := match ci, h with
  | 0, _ => nmX0
  | 1, _ => nmX1
  | 2, _ => nmX2
  | 3, _ => nmX3
  | 4, _ => nmX4
  | 5, _ => nmX5
  | 6, _ => nmX6
  | n + 7, h => absurd h (by omega)
theorem ins_ok {ci : Nat} (h : ci < 7) : Jvm.Cond.instantiable (cN ci) (clN ci) ∈ TBL ∧ Jvm.Cond.initialized (cN ci) ∈ TBL := match ci, h with
  | 0, _ => ins_0
  | 1, _ => ins_1
  | 2, _ => ins_2
  | 3, _ => ins_3
  | 4, _ => ins_4
  | 5, _ => ins_5
  | 6, _ => ins_6
  | n + 7, h => absurd h (by omega)
theorem dflt_ok {ci b : Nat} (h : ci < 7) : ∀ j, j < clN ci → defaultValue (clY ci j) = vp_V ((dflt ci).map (tv b)) j := by
  intro j hj
  unfold vp_V dflt
  have hd : ∀ ty : FieldType, tv b (defaultValue ty) = defaultValue ty := fun ty => by cases ty <;> rfl
  rw [List.getD_eq_getElem?_getD, List.getElem?_map, List.getElem?_map, List.getElem?_range hj]
  exact (hd _).symm
/-- what a field's kind says of a value -/
def tyK (t : Nat) (ty : FieldType) : Bool := match t with
  | 0 => decide (ty = .int)
  | 1 => decide (ty = .boolean)
  | _ => ty.isReference
theorem okV_ok {t b : Nat} {ty : FieldType} {v : Value} (hk : tyK t ty = true) (hv : okV t v = true) : narrow ty (tv b v) = tv b v ∧ fits ty (tv b v) = true := by
  unfold okV at hv
  split at hv
  · have e : ty = .int := by simpa [tyK] using hk
    subst e; exact ⟨rfl, rfl⟩
  · rename_i x
    have e : ty = .boolean := by simpa [tyK] using hk
    subst e
    rw [Bool.or_eq_true, beq_iff_eq, beq_iff_eq] at hv
    rcases hv with rfl | rfl <;> exact ⟨rfl, rfl⟩
  · have e : ty.isReference = true := by simpa [tyK] using hk
    cases ty <;> first | exact ⟨rfl, rfl⟩ | (simp [FieldType.isReference] at e)
  · cases hv
theorem fld_of {cls i : Nat} {q : (Nat × Nat × Nat × Bool) × Nat} (h : lk2 fldL cls i = some q) :
    Jvm.Cond.fieldLink (cN cls) i (cN q.1.1) (clT q.1.1 q.1.2.1).2.1 (clT q.1.1 q.1.2.1).2.2.1 ∈ TBL ∧ q.1.2.1 < clN q.1.1 ∧ (clT q.1.1 q.1.2.1).2.2.2 = q.1.2.2.2 ∧ q.1.1 < 7 ∧ (clT q.1.1 q.1.2.1).1 = cN q.1.1 ∧ tyK q.1.2.2.1 (clY q.1.1 q.1.2.1) = true := by
  have h1 := List.all_eq_true.mp fld_ck _ (lk2_mem h)
  unfold ckF at h1
  simp only [Bool.and_eq_true, decide_eq_true_eq, beq_iff_eq] at h1
  obtain ⟨a1, a2, a3, a4, a5, a6⟩ := h1
  refine ⟨tbl_of a1 rfl, a2, a3, a4, a5, ?_⟩
  unfold tyK
  exact a6
theorem Wd_move {b : Nat} {D : va_G} {cy : Nat → ClassId} {s U : State} {H : Heap} {locs : List Loc} (hW : s.WarmedH U.vm) (hh : U.heap = H) (hS : va_S (AB b) s.heap H locs) (h : Wd b D cy s) : Wd b D cy U := by
  obtain ⟨h1, h2, h3, h4, h5, h6, h7, h8, h9, h10, h11⟩ := h
  subst hh
  refine ⟨va_K.moved hW.alike h1, Nat.le_trans h2 hS.1, vx_Zq.moved hW.alike (h3.kept hS.2.1), vx_Zq.moved hW.alike (h4.kept hS.2.1), fun q hq => ?_, fun w hw => ?_, fun q hq => (h7 q hq).moved hW.alike, h8.moved hW.alike, h9.moved hW.alike, h10.moved hW.alike, h11.moved hW.alike⟩
  · obtain ⟨a, ha⟩ := h5 q hq
    exact ⟨a, vk_R.warm hW ha⟩
  · exact xwK_move hW (List.all_eq_true.mp xw_all w hw) (h6 w hw)
theorem Wd_calling {b : Nat} {D : va_G} {cy : Nat → ClassId} {U : State} (g : JFrame) (mk : MethodId) (a : Array Value) (h : Wd b D cy U) : Wd b D cy (U.calling g mk a) :=
  Wd_move (s := U) (U := U.calling g mk a) (State.WarmedH.refl U) rfl va_S.rf h
def Pc9 (b : Nat) (D : va_G) (cy : Nat → ClassId) (as : List Value) (h : MH) (al : Bool) : Array Value → State → Prop := fun v U => v = (as.map (tv b)).toArray ∧ Wd b D cy U ∧ va_P D vwC (wsOf b cy h) U.heap ∧ (al = true → U.heap.size = b + h.length)
def Qc9 (b : Nat) (D : va_G) (cy : Nat → ClassId) (o : MO) (h' : MH) (al : Bool) : Array Value → State → Outcome → State → Prop := fun _ st oc t => ∃ v : Option Value, o = .inl v ∧ oc = .returned (v.map (tv b)) ∧ va_P D vwC (wsOf b cy h') t.heap ∧ (al = true → t.heap.size = b + h'.length) ∧ va_F (AB b) st t
def XC9 (b : Nat) (D : va_G) (cy : Nat → ClassId) (o : MO) (h' : MH) : String → State → State → Prop := fun E st t => ∃ x : Nat, o = .inr x ∧ E = exN x ∧ va_P D vwC (wsOf b cy h') t.heap ∧ va_F (AB b) st t
theorem Pc9_blind {b : Nat} {D : va_G} {cy : Nat → ClassId} {as : List Value} {h : MH} {al : Bool} : FrameBlind (Pc9 b D cy as h al) := fun a U g mk q => ⟨q.1, Wd_calling g mk a q.2.1, q.2.2.1, q.2.2.2⟩
section SND
variable {p : Program} {l : Launch} {e : Env} {R : Room} {s : State} {m : MethodId} {args : Array Value} {below : List Frame} {meth : Method} {c : Code} {H : Heap} {locs : List Loc} {cells slots : Nat} {Q : State → Prop}
variable {b pc mi rc rs : Nat} {ls : Array Slot} {D : va_G} {cy : Nat → ClassId} {h h1 : MH} {E : ME} {st st1 : List Value} {al : Bool} {rc1 rs1 : Nat}
/-- what holds in a method's body -/
def CtxM (b : Nat) (D : va_G) (cy : Nat → ClassId) (mi : Nat) (p : Program) (s : State) (m : MethodId) (args : Array Value) (meth : Method) (c : Code) : Prop :=
  p.tables.exec = Jvm.exec ∧ c.code = mBy mi ∧ c.maxLocals = mNL mi ∧ s.vm.findClass (cN (mCls mi)) = some m.cls ∧ (∀ w ∈ TBL, w.before args s = true) ∧ Wd b D cy s ∧ meth.locks = false ∧ meth.sig.returnType = mRt mi ∧ (mIni mi = true → meth.name = "<init>") ∧ c.exceptionTable.toList = tableOf (mHh mi)
theorem call_go {mc ms : Nat} {o : MO} {a : Array Value} {st0 rest : List Value} (hr : vx_Run p l e R s m args below meth c H locs cells slots mc ms (F0 m pc ls st0) rest (Qc9 b D cy o h1 al a) (XC9 b D cy o h1) (AB b)) (hS : va_S (AB b) s.heap H locs)
    (kk : ∀ v, o = .inl v → ∀ (H1 : Heap) (locs1 : List Loc), va_P D vwC (wsOf b cy h1) H1 → (al = true → H1.size = b + h1.length) → va_S (AB b) s.heap H1 locs1 → W p l e R s m args below meth c H1 locs1 (cells + mc) (slots + ms) Q (F0 m (pc + 3) ls ((v.map (tv b)).toList ++ rest)))
    (kx : ∀ x, o = .inr x → ∀ (ce : Cell) (q : Addr) (H1 : Heap) (locs1 : List Loc), va_P D vwC (wsOf b cy h1) H1 → va_S (AB b) s.heap H1 locs1 → H1[q]? = some ce → ce.vm = .none → s.vm.findClass (exN x) = some ce.cls → vx_W p l e R s m args below meth c H1 locs1 (cells + mc) (slots + ms) Q (F0 m pc ls rest) q) : W p l e R s m args below meth c H locs cells slots Q (F0 m pc ls st0) := by
  intro T hT X
  rcases hr T hT X with ⟨v, st₀, t, T', L, h0, X', hL, e1, e2, ⟨v', ho, hv, hP, hal, hF⟩, st⟩ | ⟨q, st₀, t, T', L, E, ce, h0, X', hL, e1, e2, ⟨x, ho, hE, hP, hF⟩, hce, hcv, hcl, st⟩
  · cases hv
    obtain ⟨k1, k2, k3⟩ := vx_keep h0 e1 hS (fun q _ h => h) (fun q h => h) hL hF
    obtain ⟨t2, a1, b1⟩ := kk v' ho T'.heap (locs ++ L) (by rw [e1]; exact hP) (by rw [e1]; exact hal) k3 T' rfl X'
    exact ⟨t2, st t2 a1, b1⟩
  · subst hE
    obtain ⟨k1, k2, k3⟩ := vx_keep h0 e1 hS (fun q _ h => h) (fun q h => h) hL hF
    obtain ⟨t2, a1, b1⟩ := kx x ho ce q T'.heap (locs ++ L) (by rw [e1]; exact hP) k3 (by rw [e1]; exact hce) hcv hcl T' rfl X'
    exact ⟨t2, st.trans a1, b1⟩
theorem ldc_of {cls i : Nat} {q : Int32 × Nat} (h : lk2 ldcL cls i = some q) : Jvm.Cond.constant (cN cls) i q.1 ∈ TBL :=
  tbl_of (of_decide_eq_true (List.all_eq_true.mp ldc_ck _ (lk2_mem h))) rfl
theorem obj_of {cls i : Nat} {q : Unit × Nat} (h : lk2 objL cls i = some q) : Jvm.Cond.methodLink (cN cls) i objectInit ∈ TBL :=
  tbl_of (of_decide_eq_true (List.all_eq_true.mp obj_ck _ (lk2_mem h))) rfl
theorem max_of {cls i : Nat} {q : Unit × Nat} (h : lk2 maxL cls i = some q) : Jvm.Cond.methodLink (cN cls) i Lib.Math.max.name ∈ TBL :=
  tbl_of (of_decide_eq_true (List.all_eq_true.mp max_ck _ (lk2_mem h))) rfl
theorem new_of {cls i : Nat} {q : Nat × Nat} (h : lk2 newL cls i = some q) : Jvm.Cond.classLink (cN cls) i (cN q.1) ∈ TBL ∧ q.1 < 7 := by
  have h1 := List.all_eq_true.mp new_ck _ (lk2_mem h)
  simp only [Bool.and_eq_true, decide_eq_true_eq] at h1
  exact ⟨tbl_of h1.1 rfl, h1.2⟩
theorem arr_of {cls i : Nat} {q : Nat × Nat} (h : lk2 arrL cls i = some q) : Jvm.Cond.classLink (cN cls) i (arN q.1) ∈ TBL ∧ (q.1 = 103 ∨ q.1 = 104 ∨ q.1 = 105 ∨ q.1 = 106) := by
  have h1 := List.all_eq_true.mp arr_ck _ (lk2_mem h)
  simp only [Bool.and_eq_true, decide_eq_true_eq, Bool.or_eq_true, beq_iff_eq] at h1
  exact ⟨tbl_of h1.1 rfl, h1.2⟩
def rmM (mi : Nat) : Room := { frames := mHt mi, cells := mMc mi, slots := mMs mi, locals := mLo mi }
theorem gT_at {k t : Nat} (h0 : gT h k = t) (ht : t < 999) : ∃ vs, h[k]? = some (t, vs) := by
  unfold gT at h0
  split at h0
  · rename_i c hc
    exact ⟨c.2, by rw [hc, ← h0]⟩
  · omega
theorem pF_len {h h' : MH} {k t j : Nat} {v : Value} (hg : pF h k t j v = some h') : h'.length = h.length := by
  obtain ⟨vs, -, -, rfl⟩ := pF_spec hg
  rw [List.length_set]
theorem pA_len {h h' : MH} {k t : Nat} {i : Int32} {v : Value} (hg : pA h k t i v = some h') : h'.length = h.length := by
  obtain ⟨vs, -, -, -, rfl⟩ := pA_spec hg
  rw [List.length_set]
theorem stepH_sound (C0 : CtxM b D cy mi p s m args meth c) (hc : chE (mBy mi) pc E = true) (hs : stepH mi al rc rs E st h = some (st1, h1, rc1, rs1)) (hsize : ls.size = mNL mi)
    (hP : va_P D vwC (wsOf b cy h) H) (hS : va_S (AB b) s.heap H locs) (hsz : al = true → H.size = b + h.length) (hcl : cells + rc ≤ mMc mi) (hsl : slots + rs ≤ mMs mi)
    (k : ∀ (H1 : Heap) (locs1 : List Loc) (cells1 slots1 : Nat), va_P D vwC (wsOf b cy h1) H1 → va_S (AB b) s.heap H1 locs1 → (al = true → H1.size = b + h1.length) → cells1 + rc1 ≤ mMc mi → slots1 + rs1 ≤ mMs mi → W p l e (rmM mi) s m args below meth c H1 locs1 cells1 slots1 Q (F0 m E.2.1 ls (st1.map (tv b)))) :
    W p l e (rmM mi) s m args below meth c H locs cells slots Q (F0 m pc ls (st.map (tv b))) := by
  obtain ⟨hx, hb, hml, hown, hts, hWd, hlk, hrt, hini, htab⟩ := C0
  have hK := hWd.1
  obtain ⟨i, nx, ts, d⟩ := E
  cases i
  case ldc n =>
    simp only [chE, Bool.and_eq_true, decide_eq_true_eq] at hc
    obtain ⟨hd, hn⟩ := hc
    try dsimp only at hn
    subst hn
    rw [Nat.add_sub_cancel_left] at hd
    simp only [stepH, sLdc] at hs
    split at hs
    · rename_i q hq
      cases hs
      exact lv_ldc hx hb hown (hts _ (ldc_of hq)) hd (k H locs cells slots hP hS hsz hcl hsl)
    · cases hs
  case ldc_w n =>
    simp only [chE, Bool.and_eq_true, decide_eq_true_eq] at hc
    obtain ⟨hd, hn⟩ := hc
    try dsimp only at hn
    subst hn
    rw [Nat.add_sub_cancel_left] at hd
    simp only [stepH, sLdc] at hs
    split at hs
    · rename_i q hq
      cases hs
      exact lv_ldcw hx hb hown (hts _ (ldc_of hq)) hd (k H locs cells slots hP hS hsz hcl hsl)
    · cases hs
  case getfield n =>
    simp only [chE, Bool.and_eq_true, decide_eq_true_eq] at hc
    obtain ⟨hd, hn⟩ := hc
    try dsimp only at hn
    subst hn
    rw [Nat.add_sub_cancel_left] at hd
    simp only [stepH, sGet] at hs
    split at hs
    · rename_i q k0 st0 hq
      split at hs
      · rename_i v hg
        cases hs
        obtain ⟨f1, f2, f3, f4, f5, f6⟩ := fld_of hq
        exact h_get hx hb hts (lay_in f4) hown hK hP (vw_at f4) f2 (hts _ f1) f5 (by omega) hg hd (k H locs cells slots hP hS hsz hcl hsl)
      · cases hs
    · cases hs
  case putfield n =>
    simp only [chE, Bool.and_eq_true, decide_eq_true_eq] at hc
    obtain ⟨hd, hn⟩ := hc
    try dsimp only at hn
    subst hn
    rw [Nat.add_sub_cancel_left] at hd
    simp only [stepH, sPut] at hs
    split at hs
    · rename_i q v k0 st0 hq
      obtain ⟨f1, f2, f3, f4, f5, f6⟩ := fld_of hq
      cases hok : okV q.1.2.2.1 v && (!q.1.2.2.2 || (mIni mi && mCls mi == q.1.1))
      · rw [hok] at hs; cases hs
      · rw [hok] at hs
        simp only [cond_true] at hs
        rw [Bool.and_eq_true] at hok
        obtain ⟨g1, g2⟩ := okV_ok (b := b) f6 hok.1
        split at hs
        · rename_i h' hg
          cases hs
          cases hfin : q.1.2.2.2
          · exact h_put hx hb hts (lay_in f4) (clY q.1.1) (ty_ok f4) (nm_ok f4) hown hK hP hS (vw_at f4) f2 (hts _ f1) f5 (f3.trans hfin) g1 g2 (by omega) hg hd (fun H1 locs1 z1 hP1 hS1 => k H1 locs1 cells slots hP1 hS1 (fun q => by rw [z1, hsz q, pF_len hg]) hcl hsl)
          · rw [hfin] at hok
            simp only [Bool.not_true, Bool.false_or, Bool.and_eq_true, beq_iff_eq] at hok
            exact h_putF hx hb hts (lay_in f4) (clY q.1.1) (ty_ok f4) (nm_ok f4) hown hK hP hS (vw_at f4) f2 (hts _ f1) f5 (f3.trans hfin) (hini hok.2.1) (by rw [f5, hok.2.2]) g1 g2 (by omega) hg hd (fun H1 locs1 z1 hP1 hS1 => k H1 locs1 cells slots hP1 hS1 (fun q => by rw [z1, hsz q, pF_len hg]) hcl hsl)
        · cases hs
    · cases hs
  case iaload  =>
    simp only [chE, Bool.and_eq_true, decide_eq_true_eq] at hc
    obtain ⟨hd, hn⟩ := hc
    try dsimp only at hn
    subst hn
    rw [Nat.add_sub_cancel_left] at hd
    simp only [stepH, sIal] at hs
    split at hs
    · rename_i i k0 st0
      split at hs
      · rename_i x hg
        cases hs
        exact h_iald (t0 := 0) hx hb hK hP rfl hg hd (k H locs cells slots hP hS hsz hcl hsl)
      · cases hs
    · cases hs
  case baload  =>
    simp only [chE, Bool.and_eq_true, decide_eq_true_eq] at hc
    obtain ⟨hd, hn⟩ := hc
    try dsimp only at hn
    subst hn
    rw [Nat.add_sub_cancel_left] at hd
    simp only [stepH, sZal] at hs
    split at hs
    · rename_i i k0 st0
      split at hs
      · rename_i x hg
        cases hs
        exact h_zald (t0 := 1) hx hb hK hP rfl hg hd (k H locs cells slots hP hS hsz hcl hsl)
      · cases hs
    · cases hs
  case aaload  =>
    simp only [chE, Bool.and_eq_true, decide_eq_true_eq] at hc
    obtain ⟨hd, hn⟩ := hc
    try dsimp only at hn
    subst hn
    rw [Nat.add_sub_cancel_left] at hd
    simp only [stepH, sAal] at hs
    split at hs
    · rename_i i k0 st0
      cases ht : tyAt (gT h k0)
      · rw [ht] at hs; cases hs
      · rw [ht] at hs
        simp only [cond_true] at hs
        split at hs
        · rename_i x hg
          cases hs
          simp only [tyAt, Bool.or_eq_true, beq_iff_eq] at ht
          rcases ht with ((ht | ht) | ht) | ht
          · rw [ht] at hg
            exact h_aald (t0 := 3) (t := 103) hx hb hK hP rfl rfl (by decide) hg hd (k H locs cells slots hP hS hsz hcl hsl)
          · rw [ht] at hg
            exact h_aald (t0 := 4) (t := 104) hx hb hK hP rfl rfl (by decide) hg hd (k H locs cells slots hP hS hsz hcl hsl)
          · rw [ht] at hg
            exact h_aald (t0 := 5) (t := 105) hx hb hK hP rfl rfl (by decide) hg hd (k H locs cells slots hP hS hsz hcl hsl)
          · rw [ht] at hg
            exact h_aald (t0 := 6) (t := 106) hx hb hK hP rfl rfl (by decide) hg hd (k H locs cells slots hP hS hsz hcl hsl)
        · cases hs
    · cases hs
  case iastore  =>
    simp only [chE, Bool.and_eq_true, decide_eq_true_eq] at hc
    obtain ⟨hd, hn⟩ := hc
    try dsimp only at hn
    subst hn
    rw [Nat.add_sub_cancel_left] at hd
    simp only [stepH, sIas] at hs
    split at hs
    · rename_i x i k0 st0
      split at hs
      · rename_i h' hg
        cases hs
        exact h_iast (t0 := 0) hx hb hK hP hS rfl hg hd (fun H1 locs1 z1 hP1 hS1 => k H1 locs1 cells slots hP1 hS1 (fun q => by rw [z1, hsz q, pA_len hg]) hcl hsl)
      · cases hs
    · cases hs
  case bastore  =>
    simp only [chE, Bool.and_eq_true, decide_eq_true_eq] at hc
    obtain ⟨hd, hn⟩ := hc
    try dsimp only at hn
    subst hn
    rw [Nat.add_sub_cancel_left] at hd
    simp only [stepH] at hs
    cases al
    · simp only [cond_false, sZas] at hs
      split at hs
      · rename_i x i k0 st0
        cases h01 : x == 0 || x == 1
        · rw [h01] at hs; cases hs
        · rw [h01] at hs
          simp only [cond_true] at hs
          rw [Bool.or_eq_true, beq_iff_eq, beq_iff_eq] at h01
          split at hs
          · rename_i h' hg
            cases hs
            exact h_zast (t0 := 1) hx hb hK hP hS rfl hg h01 hd (fun H1 locs1 hP1 hS1 => k H1 locs1 cells slots hP1 hS1 (fun q => by cases q) hcl hsl)
          · cases hs
      · cases hs
    · simp only [cond_true] at hs
      cases hs
  case aastore  =>
    simp only [chE, Bool.and_eq_true, decide_eq_true_eq] at hc
    obtain ⟨hd, hn⟩ := hc
    try dsimp only at hn
    subst hn
    rw [Nat.add_sub_cancel_left] at hd
    simp only [stepH, sAas] at hs
    split at hs
    · rename_i x i k0 st0
      cases ht : Nat.blt 102 (gT h k0) && (Nat.blt (gT h k0) 106 && gT h x == elT (gT h k0))
      · rw [ht] at hs; cases hs
      · rw [ht] at hs
        simp only [cond_true] at hs
        split at hs
        · rename_i h' hg
          cases hs
          simp only [Bool.and_eq_true, beq_iff_eq, Nat.blt_eq] at ht
          obtain ⟨t1, t2, t3⟩ := ht
          have h3 : gT h k0 = 103 ∨ gT h k0 = 104 ∨ gT h k0 = 105 := by omega
          rcases h3 with h3 | h3 | h3
          · rw [h3] at hg t3
            obtain ⟨vs1, hv⟩ := gT_at t3 (by decide)
            exact h_aast (t0 := 3) (t := 103) (ci := 4) (r := (RX4, TX4, 16)) hx hb hK hP hS rfl (by decide) rfl (by decide) hv hg hd (fun H1 locs1 z1 hP1 hS1 => k H1 locs1 cells slots hP1 hS1 (fun q => by rw [z1, hsz q, pA_len hg]) hcl hsl)
          · rw [h3] at hg t3
            obtain ⟨vs1, hv⟩ := gT_at t3 (by decide)
            exact h_aast (t0 := 4) (t := 104) (ci := 3) (r := (RX3, TX3, 18)) hx hb hK hP hS rfl (by decide) rfl (by decide) hv hg hd (fun H1 locs1 z1 hP1 hS1 => k H1 locs1 cells slots hP1 hS1 (fun q => by rw [z1, hsz q, pA_len hg]) hcl hsl)
          · rw [h3] at hg t3
            obtain ⟨vs1, hv⟩ := gT_at t3 (by decide)
            exact h_aast (t0 := 5) (t := 105) (ci := 0) (r := (RX0, TX0, 6)) hx hb hK hP hS rfl (by decide) rfl (by decide) hv hg hd (fun H1 locs1 z1 hP1 hS1 => k H1 locs1 cells slots hP1 hS1 (fun q => by rw [z1, hsz q, pA_len hg]) hcl hsl)
        · cases hs
    · cases hs
  case arraylength  =>
    simp only [chE, Bool.and_eq_true, decide_eq_true_eq] at hc
    obtain ⟨hd, hn⟩ := hc
    try dsimp only at hn
    subst hn
    rw [Nat.add_sub_cancel_left] at hd
    simp only [stepH, sLen] at hs
    split at hs
    · rename_i k0 st0
      split at hs
      · rename_i c0 hc0
        cases hq : c0.1 == 100
        · rw [hq] at hs; cases hs
        · rw [hq] at hs
          cases hs
          exact h_alen (t0 := 0) (t := 100) (vs := c0.2) hx hb hK hP rfl rfl (by rw [hc0, ← beq_iff_eq.mp hq]) rfl hd (k H locs cells slots hP hS hsz hcl hsl)
      · cases hs
    · cases hs
  case new n =>
    simp only [chE, Bool.and_eq_true, decide_eq_true_eq] at hc
    obtain ⟨hd, hn⟩ := hc
    try dsimp only at hn
    subst hn
    rw [Nat.add_sub_cancel_left] at hd
    simp only [stepH] at hs
    cases al
    · simp only [cond_false] at hs
      cases hs
    · simp only [cond_true, sNew] at hs
      split at hs
      · rename_i q hq
        obtain ⟨f1, f2⟩ := new_of hq
        cases hr : Nat.ble 1 rc && Nat.ble (clN q.1) rs
        · rw [hr] at hs; cases hs
        · rw [hr] at hs
          cases hs
          simp only [Bool.and_eq_true, Nat.ble_eq] at hr
          exact h_new hx hb hts (lay_in f2) (ty_ok f2) hown (hts _ f1) (hts _ (ins_ok f2).1) (hts _ (ins_ok f2).2) hK hP hS (vw_at f2) (by omega) (hsz rfl) (dflt_ok f2) (by show cells + 1 ≤ mMc mi; omega) (by show slots + clN q.1 ≤ mMs mi; omega) hd (fun H1 z1 hP1 hS1 => k H1 locs (cells + 1) (slots + clN q.1) hP1 hS1 (fun _ => z1) (by omega) (by omega))
      · cases hs
  case newarray at0 =>
    simp only [chE, Bool.and_eq_true, decide_eq_true_eq] at hc
    obtain ⟨hd, hn⟩ := hc
    try dsimp only at hn
    subst hn
    rw [Nat.add_sub_cancel_left] at hd
    simp only [stepH] at hs
    cases al
    · simp only [cond_false] at hs
      cases hs
    · simp only [cond_true, sNarr] at hs
      split at hs
      · rename_i n st0
        cases hr : !(decide (n < 0)) && (Nat.ble n.toNatClampNeg 100000 && (Nat.ble 1 rc && Nat.ble n.toNatClampNeg rs))
        · rw [hr] at hs; cases hs
        · rw [hr] at hs
          simp only [cond_true] at hs
          simp only [Bool.and_eq_true, Nat.ble_eq, Bool.not_eq_true', decide_eq_false_iff_not] at hr
          obtain ⟨r1, r2, r3, r4⟩ := hr
          cases at0
          case int =>
            cases hs
            exact h_newi (t0 := 0) hx hb (hts _ arrW_int) hK hP hS rfl (hsz rfl) r1 r2 (by show cells + 1 ≤ mMc mi; omega) (by show slots + n.toNatClampNeg ≤ mMs mi; omega) hd (fun H1 z1 hP1 hS1 => k H1 locs _ _ hP1 hS1 (fun _ => z1) (by omega) (by omega))
          case boolean =>
            cases hs
            exact h_newz (t0 := 1) hx hb (hts _ arrW_boolean) hK hP hS rfl (hsz rfl) r1 r2 (by show cells + 1 ≤ mMc mi; omega) (by show slots + n.toNatClampNeg ≤ mMs mi; omega) hd (fun H1 z1 hP1 hS1 => k H1 locs _ _ hP1 hS1 (fun _ => z1) (by omega) (by omega))
          all_goals cases hs
      · cases hs
  case anewarray n0 =>
    simp only [chE, Bool.and_eq_true, decide_eq_true_eq] at hc
    obtain ⟨hd, hn⟩ := hc
    try dsimp only at hn
    subst hn
    rw [Nat.add_sub_cancel_left] at hd
    simp only [stepH] at hs
    cases al
    · simp only [cond_false] at hs
      cases hs
    · simp only [cond_true, sArr] at hs
      split at hs
      · rename_i q n st0 hq
        obtain ⟨f1, f2⟩ := arr_of hq
        cases hr : !(decide (n < 0)) && (Nat.ble n.toNatClampNeg 100000 && (Nat.ble 1 rc && (Nat.ble n.toNatClampNeg rs && Nat.blt q.1 106)))
        · rw [hr] at hs; cases hs
        · rw [hr] at hs
          cases hs
          simp only [Bool.and_eq_true, Nat.ble_eq, Nat.blt_eq, Bool.not_eq_true', decide_eq_false_iff_not] at hr
          obtain ⟨r1, r2, r3, r4, r5⟩ := hr
          obtain ⟨-, -, -, -, -, -, -, w1, w2, w3, -⟩ := hWd
          rcases f2 with f2 | f2 | f2 | f2
          · rw [f2] at f1 k
            exact h_newq (t0 := 3) (t := 103) hx hb hown (hts _ f1) w1 hK hP hS rfl (by decide) (hsz rfl) r1 r2 (by show cells + 1 ≤ mMc mi; omega) (by show slots + n.toNatClampNeg ≤ mMs mi; omega) hd (fun H1 z1 hP1 hS1 => k H1 locs _ _ hP1 hS1 (fun _ => z1) (by omega) (by omega))
          · rw [f2] at f1 k
            exact h_newq (t0 := 4) (t := 104) hx hb hown (hts _ f1) w2 hK hP hS rfl (by decide) (hsz rfl) r1 r2 (by show cells + 1 ≤ mMc mi; omega) (by show slots + n.toNatClampNeg ≤ mMs mi; omega) hd (fun H1 z1 hP1 hS1 => k H1 locs _ _ hP1 hS1 (fun _ => z1) (by omega) (by omega))
          · rw [f2] at f1 k
            exact h_newq (t0 := 5) (t := 105) hx hb hown (hts _ f1) w3 hK hP hS rfl (by decide) (hsz rfl) r1 r2 (by show cells + 1 ≤ mMc mi; omega) (by show slots + n.toNatClampNeg ≤ mMs mi; omega) hd (fun H1 z1 hP1 hS1 => k H1 locs _ _ hP1 hS1 (fun _ => z1) (by omega) (by omega))
          · omega
      · cases hs
  case multianewarray n0 dd =>
    simp only [chE, Bool.and_eq_true, decide_eq_true_eq] at hc
    obtain ⟨hd, hn⟩ := hc
    try dsimp only at hn
    subst hn
    rw [Nat.add_sub_cancel_left] at hd
    simp only [stepH] at hs
    cases al
    · simp only [cond_false] at hs
      cases hs
    · simp only [cond_true, sMul] at hs
      split at hs
      · rename_i q kk n st0 hq
        obtain ⟨f1, f2⟩ := arr_of hq
        cases hr : (dd == 2 && q.1 == 106) && ((!(decide (n < 0)) && (Nat.ble n.toNatClampNeg 100000 && !(decide (kk < 0)))) && (Nat.ble kk.toNatClampNeg 100000 && (Nat.ble (1 + n.toNatClampNeg) rc && Nat.ble (n.toNatClampNeg + n.toNatClampNeg * kk.toNatClampNeg) rs)))
        · rw [hr] at hs; cases hs
        · rw [hr] at hs
          cases hs
          simp only [Bool.and_eq_true, Nat.ble_eq, Bool.not_eq_true', decide_eq_false_iff_not, beq_iff_eq] at hr
          obtain ⟨⟨r0, r1⟩, ⟨r2, r3, r4⟩, r5, r6, r7⟩ := hr
          obtain ⟨-, -, -, -, -, -, -, -, -, -, w4⟩ := hWd
          subst r0
          rw [r1] at f1
          exact h_mna (t0 := 0) (t1 := 6) (t := 106) hx hb hown (hts _ f1) w4 (hts _ arrW_int) hK hP hS rfl rfl (by decide) (hsz rfl) r2 r4 r3 r5 (by show cells + (1 + n.toNatClampNeg) ≤ mMc mi; omega) (by show slots + (n.toNatClampNeg + n.toNatClampNeg * kk.toNatClampNeg) ≤ mMs mi; omega) hd (fun H1 z1 hP1 hS1 => k H1 locs _ _ hP1 hS1 (fun _ => z1) (by omega) (by omega))
      · cases hs
  case invokespecial n =>
    simp only [chE, Bool.and_eq_true, decide_eq_true_eq] at hc
    obtain ⟨hd, hn⟩ := hc
    try dsimp only at hn
    subst hn
    rw [Nat.add_sub_cancel_left] at hd
    simp only [stepH, sObj] at hs
    split at hs
    · rename_i q x hq
      cases hr : Nat.ble 1 (mHt mi) && Nat.ble 12 (mLo mi)
      · rw [hr] at hs; cases hs
      · rw [hr] at hs
        cases hs
        simp only [Bool.and_eq_true, Nat.ble_eq] at hr
        exact W.objInit hx hb hown (hts _ (obj_of hq)) (hts _ obj_w.1) (hts _ obj_w.2) rfl (hsize.trans hml.symm) rfl hd hr.1 (by show 2 * 0 + 0 + 12 ≤ mLo mi; omega) (k H locs cells slots hP hS hsz hcl hsl)
    · cases hs
  case invokestatic n =>
    simp only [chE, Bool.and_eq_true, decide_eq_true_eq] at hc
    obtain ⟨hd, hn⟩ := hc
    try dsimp only at hn
    subst hn
    rw [Nat.add_sub_cancel_left] at hd
    simp only [stepH, sMax] at hs
    split at hs
    · rename_i q y x st0 hq
      cases hr : (Nat.ble 1 (mHt mi) && Nat.ble 21 (mLo mi)) && Nat.ble (st0.map fun v => v.category).sum 8
      · rw [hr] at hs; cases hs
      · rw [hr] at hs
        cases hs
        simp only [Bool.and_eq_true, Nat.ble_eq] at hr
        have hcat : ((st0.map (tv b)).map fun v => v.category) = st0.map fun v => v.category := by rw [List.map_map]; exact List.map_congr_left fun v _ => tv_cat b v
        exact va_mmax hx hb (hml.trans hsize.symm) hown (hts _ (max_of hq)) (hts _ max_w.1) (hts _ max_w.2.1) (hts _ max_w.2.2) hr.1.1 (by show ((st0.map (tv b)).map fun v => v.category).sum + 13 ≤ mLo mi; rw [hcat]; omega) (by show cells ≤ mMc mi; omega) (by show slots ≤ mMs mi; omega) hd (k H locs cells slots hP hS hsz hcl hsl)
    · cases hs
  all_goals exact absurd hs (by simp [stepH])
end SND
