/-! ===== throws by the tables ===== -/
theorem thr_c1 : thrL.all (fun q => decide (decode (mBy q.1.1) q.1.2 = .ok (.new q.2.1.2.1, 3)) && (decide (decode (mBy q.1.1) (q.1.2 + 3) = .ok (.dup, 1)) && decide (mCls q.1.1 = 6))) = true := by decide +kernel
theorem thr_c2 : thrL.all (fun q => (q.2.1.2.2.2.1 || decide (decode (mBy q.1.1) (q.1.2 + 4) = .ok (.ldc q.2.1.2.2.1, 2))) && ((q.2.1.2.2.2.1 || decide (decode (mBy q.1.1) (q.1.2 + 6) = .ok (.invokespecial q.2.1.2.2.2.2, 3))) && (q.2.1.2.2.2.1 || decide (decode (mBy q.1.1) (q.1.2 + 9) = .ok (.athrow, 1))))) = true := by decide +kernel
theorem thr_c3 : thrL.all (fun q => (!q.2.1.2.2.2.1 || decide (decode (mBy q.1.1) (q.1.2 + 4) = .ok (.ldc_w q.2.1.2.2.1, 3))) && ((!q.2.1.2.2.2.1 || decide (decode (mBy q.1.1) (q.1.2 + 7) = .ok (.invokespecial q.2.1.2.2.2.2, 3))) && (!q.2.1.2.2.2.1 || decide (decode (mBy q.1.1) (q.1.2 + 10) = .ok (.athrow, 1))))) = true := by decide +kernel
theorem thr_c4 : thrL.all (fun q => decide (q.2.1.1 = 0 ∧ q.2.1.2.1 = 282 ∧ q.2.1.2.2.2.2 = 286) || decide (q.2.1.1 = 1 ∧ q.2.1.2.1 = 293 ∧ q.2.1.2.2.2.2 = 297) || decide (q.2.1.1 = 2 ∧ q.2.1.2.1 = 81 ∧ q.2.1.2.2.2.2 = 85)) = true := by decide +kernel
theorem thr_w0 : Jvm.Cond.classLink RX6 282 "java/lang/IndexOutOfBoundsException" ∈ TBL ∧ Jvm.Cond.initialized "java/lang/IndexOutOfBoundsException" ∈ TBL := ⟨tbl_of (i := 336) (by decide +kernel) rfl, tbl_of (i := 47) (by decide +kernel) rfl⟩
theorem thr_w1 : Jvm.Cond.classLink RX6 293 "java/lang/IllegalArgumentException" ∈ TBL ∧ Jvm.Cond.initialized "java/lang/IllegalArgumentException" ∈ TBL := ⟨tbl_of (i := 441) (by decide +kernel) rfl, tbl_of (i := 46) (by decide +kernel) rfl⟩
theorem thr_w2 : Jvm.Cond.classLink RX6 81 "java/lang/IllegalStateException" ∈ TBL ∧ Jvm.Cond.initialized "java/lang/IllegalStateException" ∈ TBL := ⟨tbl_of (i := 408) (by decide +kernel) rfl, tbl_of (i := 48) (by decide +kernel) rfl⟩
def icX (x : Nat) : Nat := match x with
  | 0 => 286
  | 1 => 297
  | _ => 85
theorem xw_of {x : Nat} (hx : x < 3) : ∀ w ∈ vx_atS RX6 (icX x) (exN x) ["java/lang/RuntimeException", "java/lang/Exception"], w ∈ xwL := by
  intro w hw
  unfold xwL
  have h3 : x = 0 ∨ x = 1 ∨ x = 2 := by omega
  rcases h3 with rfl | rfl | rfl
  · exact List.mem_append_left _ hw
  · exact List.mem_append_right _ (List.mem_append_left _ hw)
  · exact List.mem_append_right _ (List.mem_append_right _ hw)
theorem exN_fit {x : Nat} (hx : x < 3) : Bundle.fit (exN x) = true ∧ ∀ n ∈ ["java/lang/RuntimeException", "java/lang/Exception"], Bundle.fit n = true := by
  have h3 : x = 0 ∨ x = 1 ∨ x = 2 := by omega
  refine ⟨?_, by decide +kernel⟩
  rcases h3 with rfl | rfl | rfl <;> decide +kernel
section THRW
variable {p : Program} {l : Launch} {e : Env} {s : State} {m : MethodId} {args : Array Value} {below : List Frame} {meth : Method} {c : Code} {H : Heap} {locs : List Loc} {cells slots : Nat}
variable {b pc mi rc rs : Nat} {ls : Array Slot} {D : va_G} {cy : Nat → ClassId} {h : MH} {al : Bool}
theorem thr_go (hl : l.stackTraces = false) (C0 : CtxM b D cy mi p s m args meth c) {q : (Nat × Nat × Nat × Bool × Nat) × String} (hq : lk2 thrL mi pc = some q) (hh : mHh mi = []) (hsize : ls.size = mNL mi) (hP : va_P D vwC (wsOf b cy h) H) (hS : va_S (AB b) s.heap H locs)
    (h6 : 6 ≤ mHt mi) (h82 : 82 ≤ mLo mi) (hcl : cells + 1 ≤ mMc mi) (hsl : slots + 6 ≤ mMs mi) :
    W p l e (rmM mi) s m args below meth c H locs cells slots (vx_MQ below (Qc9 b D cy (.inr q.1.1) h al) (XC9 b D cy (.inr q.1.1) h) args s (mMc mi) (mMs mi) (AB b)) (F0 m pc ls []) := by
  obtain ⟨hx, hb, hml, hown, hts, hWd, hlk, hrt, hini, htab⟩ := C0
  obtain ⟨hK, hbs, hU, hN, hstr, hxw, hnc, -⟩ := hWd
  have hm := lk2_mem hq
  have a1 := List.all_eq_true.mp thr_c1 _ hm
  have a2 := List.all_eq_true.mp thr_c2 _ hm
  have a3 := List.all_eq_true.mp thr_c3 _ hm
  have a4 := List.all_eq_true.mp thr_c4 _ hm
  obtain ⟨sa, hsa⟩ := hstr _ hm
  obtain ⟨⟨x, ik, is, wd, ic⟩, text⟩ := q
  simp only [Bool.and_eq_true, Bool.or_eq_true, decide_eq_true_eq, Bool.not_eq_true'] at a1 a2 a3 a4
  obtain ⟨d0, d3, hc6⟩ := a1
  rw [hc6] at hown
  have hx3 : x < 3 ∧ ic = icX x ∧ Jvm.Cond.classLink RX6 ik (exN x) ∈ TBL ∧ Jvm.Cond.initialized (exN x) ∈ TBL := by
    rcases a4 with (⟨rfl, rfl, rfl⟩ | ⟨rfl, rfl, rfl⟩) | ⟨rfl, rfl, rfl⟩
    · exact ⟨by decide, rfl, thr_w0⟩
    · exact ⟨by decide, rfl, thr_w1⟩
    · exact ⟨by decide, rfl, thr_w2⟩
  obtain ⟨hx3, rfl, w1, w2⟩ := hx3
  have hat : ∀ w ∈ vx_atS RX6 (icX x) (exN x) ["java/lang/RuntimeException", "java/lang/Exception"], w.before args s = true := fun w hw =>
    xwK_move (State.WarmedH.refl s) (List.all_eq_true.mp xwL_ok w (xw_of hx3 w hw)) (hxw w (List.mem_append_left _ (xw_of hx3 w hw)))
  have hgood : ∀ w ∈ Jvm.Cond.classLink RX6 ik (exN x) :: Jvm.Cond.initialized (exN x) :: vx_atS RX6 (icX x) (exN x) ["java/lang/RuntimeException", "java/lang/Exception"], vx_ot w = true := fun w hw => by
    rcases List.mem_cons.mp hw with rfl | hw
    · rfl
    · rcases List.mem_cons.mp hw with rfl | hw
      · rfl
      · exact List.all_eq_true.mp xwL_ot w (xw_of hx3 w hw)
  have hout : ∀ k, ∀ z ∈ c.exceptionTable.toList, covers z k = false := fun k z hz => by
    rw [htab, hh] at hz
    cases hz
  have hfin : ∀ t : State, s.vm.Alike t.vm → H.size ≤ t.heap.size → (∀ q : Nat, q < H.size → t.heap[q]? = H[q]?) → XC9 b D cy (.inr x) h (exN x) s t := fun t _ hz ho =>
    ⟨x, rfl, rfl, hP.kept (fun k9 y hy => ho y.1 ((hP k9 y hy).lt)), (va_S_grow hS hz ho).F rfl⟩
  cases wd
  · have d4 := a2.1.resolve_left (by decide)
    have d6 := a2.2.1.resolve_left (by decide)
    have d9 := a2.2.2.resolve_left (by decide)
    exact vx_throwS (A := AB b) (names := ["java/lang/RuntimeException", "java/lang/Exception"]) hx hb hl hown (exN_fit hx3).1 (exN_fit hx3).2 (hts _ w1) (hts _ w2) hsa hat hgood hU hN hS (hsize.trans hml.symm) d0 d3 d4 d6 d9 (hout _) (by show 2 + 3 < mHt mi; omega) (by show 0 + (13 * 3 + 43) ≤ mLo mi; omega) (by show cells + 1 ≤ mMc mi; omega) (by show slots + 6 ≤ mMs mi; omega) hlk hfin hS.2.2 hcl hsl
  · have d4 := a3.1.resolve_left (by decide)
    have d6 := a3.2.1.resolve_left (by decide)
    have d9 := a3.2.2.resolve_left (by decide)
    exact vx_throwSW (A := AB b) (names := ["java/lang/RuntimeException", "java/lang/Exception"]) hx hb hl hown (exN_fit hx3).1 (exN_fit hx3).2 (hts _ w1) (hts _ w2) hsa hat hgood hU hN hS (hsize.trans hml.symm) d0 d3 d4 d6 d9 (hout _) (by show 2 + 3 < mHt mi; omega) (by show 0 + (13 * 3 + 43) ≤ mLo mi; omega) (by show cells + 1 ≤ mMc mi; omega) (by show slots + 6 ≤ mMs mi; omega) hlk hfin hS.2.2 hcl hsl
end THRW
