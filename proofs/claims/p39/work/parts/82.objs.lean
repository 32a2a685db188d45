/-! ===== objects of the law's, one behind the other ===== -/
/-- the end of a body of the law's: it answers 1, and nothing ahead of b has moved -/
def ZQ (below : List Frame) (s : State) (b mc ms : Nat) : State → Prop := fun t => ∃ (o : Outcome) (L : List Loc), t.status = .running ∧ Ended t below o ∧ o = .returned (some (.int 1)) ∧ s.WarmedH t.vm ∧ s.sameButNew ({ t with vm := s.vm } : State) L mc ms ∧ ∀ q ∈ L, b ≤ q.base
theorem Wd_mono {b b2 : Nat} {D : va_G} {cy : Nat → ClassId} {U : State} (h : b ≤ b2) (h2 : b2 ≤ U.heap.size) (hW : Wd b D cy U) : Wd b2 D cy U := by
  obtain ⟨h1, -, h3, h4, h5, h6, h7, h8, h9, h10, h11⟩ := hW
  exact ⟨h1, h2, h3.narrow (fun q z => Nat.le_trans h z), h4.narrow (fun q z => Nat.le_trans h z), h5, h6, h7, h8, h9, h10, h11⟩
section RB
variable {p : Program} {l : Launch} {e : Env} {R R2 : Room} {s : State} {m : MethodId} {args : Array Value} {below : List Frame} {meth : Method} {c : Code} {H : Heap} {locs : List Loc} {cells slots : Nat}
variable {b b2 nL mc ms mc2 ms2 : Nat} {cc : ByteArray} {D : va_G} {cy : Nat → ClassId} {g : JFrame}
/-- the same frame, seen from a later heap -/
theorem W_rb (h1 : R2.frames ≤ R.frames) (h2 : R2.locals ≤ R.locals) (h3 : cells + R2.cells ≤ R.cells) (h4 : slots + R2.slots ≤ R.slots) (hb : b ≤ b2) (hL : ∀ z ∈ locs, b ≤ z.base) (hc : cells + mc2 ≤ mc) (hs : slots + ms2 ≤ ms)
    (k : ∀ s2 : State, s2.heap = H → s2.vm = s.vm → W p l e R2 s2 m args below meth c H [] 0 0 (ZQ below s2 b2 mc2 ms2) g) : W p l e R s m args below meth c H locs cells slots (ZQ below s b mc ms) g := by
  intro T hT X
  have Y := vx_rebase X (R' := R2) h1 h2 h3 h4
  obtain ⟨s2, hA⟩ : ∃ z, z = (T.setVm s.vm).setFrames (.invoking m args :: below) := ⟨_, rfl⟩
  rw [← hA] at Y
  have hvm : s2.vm = s.vm := by rw [hA]; rfl
  have hhp : s2.heap = H := by rw [hA]; exact hT
  obtain ⟨t, st, o, L, hrun, hend, ho, hW, hsame, hLb⟩ := k s2 hhp hvm T hT Y
  refine ⟨t, st, o, locs ++ L, hrun, hend, ho, ?_, ?_, ?_⟩
  · have h9 : s.WarmedH s2.vm := by rw [hvm]; exact State.WarmedH.refl s
    exact State.WarmedH.trans h9 hW
  · subst hA
    obtain ⟨e1, e2⟩ := hsame
    rw [State.setFrames_setFrames] at e1
    have h9 : (T.setVm s.vm).sameButNew ({ t with vm := s.vm } : State) L mc2 ms2 := ⟨e1, e2⟩
    exact (X.same.trans h9).mono hc hs
  · intro z hz
    rcases List.mem_append.mp hz with q | q
    · exact hL z q
    · exact Nat.le_trans hb (hLb z q)
theorem BC_move {s2 : State} (C : BC p s m args c b nL cc D cy) (h : s2.heap = H) (hv : s2.vm = s.vm) (hS : va_S (AB b) s.heap H locs) : BC p s2 m args c s2.heap.size nL cc D cy := by
  obtain ⟨hx, hb, hml, hown, hts, hWd⟩ := C
  have hW : s.WarmedH s2.vm := by rw [hv]; exact State.WarmedH.refl s
  have h2 := Wd_move hW h hS hWd
  refine ⟨hx, hb, hml, by rw [hv]; exact hown, fun w hw => vx_ot_at hW hv.symm ?_ (hts w hw), Wd_mono h2.2.1 (Nat.le_refl _) h2⟩
  unfold vx_ot
  rw [tbl_good hw, Bool.or_true]
/-- the end -/
theorem W_end {pc : Nat} {ls : Array Slot} (hx : p.tables.exec = Jvm.exec) (hb : c.code = cc) (hr : meth.sig.returnType = some .boolean) (hlk : meth.locks = false) (hL : ∀ z ∈ locs, b ≤ z.base) (hc : cells ≤ mc) (hs : slots ≤ ms) (hd : decode cc pc = .ok (.ireturn, 1)) : W p l e R s m args below meth c H locs cells slots (ZQ below s b mc ms) (F0 m pc ls [.int 1]) := by
  intro T hT X
  obtain ⟨t, st, o, h1, h2, h3, L, ⟨-, hW, hsame⟩, hLb⟩ := W.zret (Qc := fun _ _ o _ => o = .returned (some (.int 1))) (free := fun q => b ≤ q) hx hb hr (show narrow .boolean (.int 1) = .int 1 from rfl) (fun t _ _ => rfl) hL hd hlk T hT X
  exact ⟨t, st, o, L, h1, h2, h3, hW, hsame.mono hc hs, hLb⟩
end RB
theorem cp_x : callP 2 10 151 [.ref 0, .ref 0] [(6, dflt 6)] = some (30, [.ref 0], [.ref 0]) := by decide +kernel
theorem len_x : (hX 30 60 6).length = 292 := by decide +kernel
section OBJ
variable {p : Program} {l : Launch} {e : Env} {R R2 : Room} {s : State} {m : MethodId} {args : Array Value} {below : List Frame} {meth : Method} {c : Code} {Q : State → Prop}
variable {nL pc : Nat} {cc : ByteArray} {D : va_G} {cy : Nat → ClassId}
/-- new Menuline() into a local -/
theorem obj_new {j : Fin 4} {L L' : List (Nat × Value)} {ls : Array Slot} (C : BC p s m args c s.heap.size nL cc D cy) (hfl : l.stackTraces = false) (hl : lv_has ls nL L)
    (d0 : decode cc pc = .ok (.new 8, 3)) (d1 : decode cc (pc + 3) = .ok (.dup, 1)) (d2 : decode cc (pc + 4) = .ok (.invokespecial 151, 3)) (d3 : decode cc (pc + 7) = .ok (.astore_n j, 1)) (hj : j.val < nL)
    (hL' : (j.val, Value.ref (s.heap.size + 0)) :: L.filter (fun q => !(q.1 == j.val) && !(q.1 + 1 == j.val && q.2.category == 2)) = L') (hrm : mHt 30 + 1 ≤ R.frames ∧ 19 + mNL 30 + mLo 30 ≤ R.locals) (hc : 301 ≤ R.cells) (hs : 8009 ≤ R.slots)
    (K : ∀ (H : Heap) (locs : List Loc) (ls' : Array Slot), va_P D vwC (wsOf s.heap.size cy h0) H → va_S (AB s.heap.size) s.heap H locs → lv_has ls' nL L' → W p l e R s m args below meth c H locs 301 8009 Q (F0 m (pc + 8) ls' [])) :
    W p l e R s m args below meth c s.heap [] 0 0 Q (F0 m pc ls []) := by
  obtain ⟨hx, hb, hml, hown, hts, hWd⟩ := C
  have hS : va_S (AB s.heap.size) s.heap s.heap [] := va_S.rf
  have hP : va_P D vwC (wsOf s.heap.size cy []) s.heap := fun k q h => by simp [wsOf] at h
  refine h_new (ci := 6) (h := []) (vs := dflt 6) (own := cN 10) (index := 8) (C := cN 6) (T := clT 6) (N := clN 6) hx hb hts (lay_in (by decide)) (ty_ok (by decide)) hown (hts _ (new_of (cls := 10) (i := 8) (q := (6, (lk2 newL 10 8).get!.2)) (by decide +kernel)).1) (hts _ (ins_ok (ci := 6) (by decide)).1) (hts _ (ins_ok (ci := 6) (by decide)).2) hWd.1 hP hS (vw_at (by decide)) (by decide) rfl (dflt_ok (by decide)) (by omega) (show 0 + clN 6 ≤ R.slots by have : clN 6 = 9 := rfl; omega) d0 (fun H z hP hS => ?_)
  refine lv_dup hx hb d1 rfl ?_
  obtain ⟨kd, li, hq2, b1, b2, b3, b4, b5, b6, b7, b8, b9⟩ := callP_spec cp_x
  obtain ⟨f1, f2, f3, f4, f5, f6, f7, f8, f9, f10, f11, f12, f13, f14, f15⟩ := cal_of hq2
  have hcat : ([.ref 0] : List Value).all (fun v => v.category == 1) = true := rfl
  have hlen : ([.ref 0] : List Value).length ≤ mNL 30 := by rw [b8, List.length_reverse, List.length_take]; omega
  have M := met_of (b := s.heap.size) (D := D) (cy := cy) f9 f10 f13 hcat hlen (run_sound hfl _ _ _ _ _ _ _ _ _ _ _ (show run 2000 30 (mMc 30) (mMs 30) true 0 (lv_args 0 [.ref 0]) [] [(6, dflt 6)] = some (.inl none, hX 30 60 6) from fresh_x))
  refine call_go (o := .inl none) (h1 := hX 30 60 6) (call_runG (cls := 10) (R := R) (al := true) (pc := pc + 4) (st := [.ref 0, .ref 0]) hx hb hml hown hts hWd cp_x (Or.inr (Or.inr ⟨rfl, d2⟩)) hl.1 hP hS (fun _ => z) hrm (show 0 + 1 + mMc 30 ≤ R.cells by have : mMc 30 = 300 := rfl; omega) (show 0 + clN 6 + mMs 30 ≤ R.slots by have : clN 6 = 9 := rfl; have : mMs 30 = 8000 := rfl; omega) M) hS (fun v' hv H1 locs1 hP1 hz1 hS1 => ?_) (fun x hx9 => by cases hx9)
  cases hv
  exact lv_astore_n (x := s.heap.size + 0) hx hb d3 rfl hl hj hL' (fun ls' hl' => K H1 locs1 ls' hP1 hS1 hl')
/-- from pc, with no locals, at a heap of its own beginning, the body comes to its end -/
def FB (p : Program) (l : Launch) (e : Env) (m : MethodId) (args : Array Value) (below : List Frame) (meth : Method) (c : Code) (nL : Nat) (cc : ByteArray) (D : va_G) (cy : Nat → ClassId) (R : Room) (pc : Nat) : Prop :=
  ∀ (s : State) (ls : Array Slot), BC p s m args c s.heap.size nL cc D cy → lv_has ls nL [] → W p l e R s m args below meth c s.heap [] 0 0 (ZQ below s s.heap.size R.cells R.slots) (F0 m pc ls [])
theorem FB_last {j : Fin 4} {T : List (Nat × List (Nat × ME))} {stop f : Nat} {o : Nat × Nat × Nat} (hfl : l.stackTraces = false) (hx : p.tables.exec = Jvm.exec) (hcc : c.code = cc) (hr : meth.sig.returnType = some .boolean) (hlk : meth.locks = false)
    (d0 : decode cc pc = .ok (.new 8, 3)) (d1 : decode cc (pc + 3) = .ok (.dup, 1)) (d2 : decode cc (pc + 4) = .ok (.invokespecial 151, 3)) (d3 : decode cc (pc + 7) = .ok (.astore_n j, 1)) (hj : j.val < nL) (dz : decode cc stop = .ok (.ireturn, 1))
    (hT : T.all (fun b => b.2.all (fun q => chE cc q.1 q.2)) = true) (hrm : mHt 30 + 1 ≤ R.frames ∧ 19 + mNL 30 + mLo 30 ≤ R.locals) (hc : 301 ≤ R.cells) (hs : 8009 ≤ R.slots)
    (hev : lr T nL R.frames R.locals stop [.int 1] f (pc + 8) [(j.val, .ref 0)] [] M0 (R.cells - 301) (R.slots - 8009) = some o) : FB p l e m args below meth c nL cc D cy R pc := by
  intro s ls C hl
  obtain ⟨m1, rc1, rs1⟩ := o
  refine obj_new C hfl hl d0 d1 d2 d3 hj rfl hrm hc hs (fun H locs ls' hP hS hl' => ?_)
  refine lr_sound (R := R) (Q := ZQ below s s.heap.size R.cells R.slots) C hfl hT f _ _ _ _ _ _ _ _ _ hev (fun ml1 H1 locs1 cells1 slots1 ls1 hP1 hS1 hl1 h1 h2 => ?_) H locs 301 8009 ls' (by rw [fresh_M]; exact hP) hS hl' (by omega) (by omega)
  exact W_end hx hcc hr hlk hS1.2.2 (by omega) (by omega) dz
theorem FB_next {j : Fin 4} {T : List (Nat × List (Nat × ME))} {stop f : Nat} {o : Nat × Nat × Nat} (hfl : l.stackTraces = false)
    (d0 : decode cc pc = .ok (.new 8, 3)) (d1 : decode cc (pc + 3) = .ok (.dup, 1)) (d2 : decode cc (pc + 4) = .ok (.invokespecial 151, 3)) (d3 : decode cc (pc + 7) = .ok (.astore_n j, 1)) (hj : j.val < nL)
    (hT : T.all (fun b => b.2.all (fun q => chE cc q.1 q.2)) = true) (hrm : mHt 30 + 1 ≤ R.frames ∧ 19 + mNL 30 + mLo 30 ≤ R.locals) (hc : 301 ≤ R.cells) (hs : 8009 ≤ R.slots)
    (hev : lr T nL R.frames R.locals stop [] f (pc + 8) [(j.val, .ref 0)] [] M0 (R.cells - 301) (R.slots - 8009) = some o) (hf : R2.frames ≤ R.frames) (hlo : R2.locals ≤ R.locals) (hc2 : R2.cells ≤ o.2.1) (hs2 : R2.slots ≤ o.2.2)
    (K : FB p l e m args below meth c nL cc D cy R2 stop) : FB p l e m args below meth c nL cc D cy R pc := by
  intro s ls C hl
  obtain ⟨m1, rc1, rs1⟩ := o
  dsimp only at hc2 hs2
  refine obj_new C hfl hl d0 d1 d2 d3 hj rfl hrm hc hs (fun H locs ls' hP hS hl' => ?_)
  refine lr_sound (R := R) (Q := ZQ below s s.heap.size R.cells R.slots) C hfl hT f _ _ _ _ _ _ _ _ _ hev (fun ml1 H1 locs1 cells1 slots1 ls1 hP1 hS1 hl1 h1 h2 => ?_) H locs 301 8009 ls' (by rw [fresh_M]; exact hP) hS hl' (by omega) (by omega)
  refine W_rb (R2 := R2) (b2 := H1.size) (mc2 := R2.cells) (ms2 := R2.slots) hf hlo (by omega) (by omega) hS1.1 hS1.2.2 (by omega) (by omega) (fun s2 hh hv => ?_)
  have C2 := BC_move C hh hv hS1
  have k9 := K s2 ls1 C2 (lv_sub hl1 [] rfl)
  rw [hh] at k9
  exact k9
end OBJ
/-- a method of the law's that answers true: its contract -/
theorem Met_true {l : Launch} {mi b nL : Nat} {cc : ByteArray} {D : va_G} {cy : Nat → ClassId} (hpl : plainName (mNm mi).cls = true) (hcn : (mNm mi).cls = cN (mCls mi)) (hini : mIni mi = decide ((mNm mi).name = "<init>")) (hcls : mCls mi = 10) (hnl : mNL mi = nL) (hcc : mBy mi = cc) (hrt : mRt mi = some .boolean)
    (hF : ∀ (p : Program) (e : Env) (m : MethodId) (args : Array Value) (below : List Frame) (meth : Method) (c : Code), p.tables.exec = Jvm.exec → c.code = cc → meth.sig.returnType = some .boolean → meth.locks = false → FB p l e m args below meth c nL cc D cy (rmM mi) 0) :
    vx_Met l (mNm mi) (wsM mi) (rmM mi) (Pc9 b D cy [] [] false) (Qc9 b D cy (.inl (some (.int 1))) [] false) (XC9 b D cy (.inl (some (.int 1))) []) (mMc mi) (mMs mi) (AB b) := by
  refine met_of hpl hcn hini rfl (Nat.zero_le _) ?_
  intro p e s m args below meth c H locs cells slots ls C0 hl hP hS hsz hcl hsl
  obtain ⟨hx, hb, hml, hown, hts, hWd, hlk, hr, hi, htab⟩ := C0
  have C : BC p s m args c b nL cc D cy := ⟨hx, hb.trans hcc, hml.trans hnl, by rw [← hcls]; exact hown, hts, hWd⟩
  have k0 : W p l e (rmM mi) s m args below meth c H locs cells slots (ZQ below s b (mMc mi) (mMs mi)) (F0 m 0 ls []) := by
    refine W_rb (R2 := rmM mi) (b2 := H.size) (mc2 := mMc mi) (ms2 := mMs mi) (Nat.le_refl _) (Nat.le_refl _) hcl hsl (Nat.le_trans hWd.2.1 hS.1) hS.2.2 hcl hsl (fun s2 hh hv => ?_)
    have C2 := BC_move C hh hv hS
    have k9 := hF p e m args below meth c hx (hb.trans hcc) (hr.trans hrt) hlk s2 ls C2 (by rw [← hnl]; exact hl)
    rw [hh] at k9
    exact k9
  intro T hT X
  obtain ⟨t, st, o, L, h1, h2, h3, h4, h5, h6⟩ := k0 T hT X
  have hfr := vx_frame h5
  refine ⟨t, st, o, h1, h2, Or.inl ⟨⟨some (.int 1), rfl, h3, fun k q h => by simp [wsOf] at h, (fun z => nomatch z), hfr.1, fun q hq hA => hfr.2 q hq (fun z hz hbq => hA (by rw [← hbq]; exact h6 z hz))⟩, L, ⟨⟨_, h3⟩, h4, h5⟩, h6⟩⟩
