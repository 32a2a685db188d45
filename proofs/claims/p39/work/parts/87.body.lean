/-! ===== the law's own body: its rows ===== -/
section BX
variable {p : Program} {l0 : Launch} {e : Env} {R R2 : Room} {s : State} {m : MethodId} {args : Array Value} {below : List Frame} {meth : Method} {c : Code}
variable {b nL rc rs pc : Nat} {cc : ByteArray} {D : va_G} {cy : Nat → ClassId} {Q : State → Prop} {L : List (Nat × Value)} {st : List Value} {h : MH} {bs n : Nat} {xs : Nat → Int32}
/-- from here the body comes to Q: room left, place, locals, stack (as they are), world -/
def BX (p : Program) (l0 : Launch) (e : Env) (R : Room) (s : State) (m : MethodId) (args : Array Value) (below : List Frame) (meth : Method) (c : Code) (b nL : Nat) (cy : Nat → ClassId) (D : va_G) (Q : State → Prop) (rc rs pc : Nat) (L : List (Nat × Value)) (st : List Value) (h : MH) : Prop :=
  ∀ (H : Heap) (locs : List Loc) (cells slots : Nat) (ls : Array Slot), va_P D vwC (wsOf b cy h) H → va_S (AB b) s.heap H locs → lv_has ls nL L → cells + rc ≤ R.cells → slots + rs ≤ R.slots → W p l0 e R s m args below meth c H locs cells slots Q (F0 m pc ls st)
theorem x_less {rc2 rs2 : Nat} (h1 : rc2 ≤ rc) (h2 : rs2 ≤ rs) (k : BX p l0 e R s m args below meth c b nL cy D Q rc2 rs2 pc L st h) : BX p l0 e R s m args below meth c b nL cy D Q rc rs pc L st h :=
  fun H locs cells slots ls hP hS hl hc hs => k H locs cells slots ls hP hS hl (by omega) (by omega)
theorem x_loc {L2 : List (Nat × Value)} (ks : List Nat) (h1 : lv_pick L ks = L2) (k : BX p l0 e R s m args below meth c b nL cy D Q rc rs pc L2 st h) : BX p l0 e R s m args below meth c b nL cy D Q rc rs pc L st h :=
  fun H locs cells slots ls hP hS hl hc hs => k H locs cells slots ls hP hS (lv_sub hl ks h1) hc hs
theorem x_aload {i : Fin 4} {x : Nat} (j : Nat) (C : BC p s m args c b nL cc D cy) (hd : decode cc pc = .ok (.aload_n i, 1)) (hj : L[j]? = some (i.val, .ref x)) (k : BX p l0 e R s m args below meth c b nL cy D Q rc rs (pc + 1) L (.ref x :: st) h) : BX p l0 e R s m args below meth c b nL cy D Q rc rs pc L st h :=
  fun H locs cells slots ls hP hS hl hc hs => lv_aload_n C.1 C.2.1 hd rfl (lv_at hl j hj) (k H locs cells slots ls hP hS hl hc hs)
theorem x_iload {i : Fin 4} {x : Int32} (j : Nat) (C : BC p s m args c b nL cc D cy) (hd : decode cc pc = .ok (.iload_n i, 1)) (hj : L[j]? = some (i.val, .int x)) (k : BX p l0 e R s m args below meth c b nL cy D Q rc rs (pc + 1) L (.int x :: st) h) : BX p l0 e R s m args below meth c b nL cy D Q rc rs pc L st h :=
  fun H locs cells slots ls hP hS hl hc hs => lv_iload_n C.1 C.2.1 hd rfl (lv_at hl j hj) (k H locs cells slots ls hP hS hl hc hs)
theorem x_iconst {i : Int} {v : Int32} (C : BC p s m args c b nL cc D cy) (hd : decode cc pc = .ok (.iconst i, 1)) (hv : Int32.ofInt i = v) (k : BX p l0 e R s m args below meth c b nL cy D Q rc rs (pc + 1) L (.int v :: st) h) : BX p l0 e R s m args below meth c b nL cy D Q rc rs pc L st h :=
  fun H locs cells slots ls hP hS hl hc hs => lv_iconst C.1 C.2.1 hd hv (k H locs cells slots ls hP hS hl hc hs)
theorem x_bipush {i : Int} {v : Int32} (C : BC p s m args c b nL cc D cy) (hd : decode cc pc = .ok (.bipush i, 2)) (hv : (Int8.ofInt i).toInt32 = v) (k : BX p l0 e R s m args below meth c b nL cy D Q rc rs (pc + 2) L (.int v :: st) h) : BX p l0 e R s m args below meth c b nL cy D Q rc rs pc L st h :=
  fun H locs cells slots ls hP hS hl hc hs => lv_bipush C.1 C.2.1 hd hv (k H locs cells slots ls hP hS hl hc hs)
theorem x_istore {i : Fin 4} {x : Int32} {L2 : List (Nat × Value)} (C : BC p s m args c b nL cc D cy) (hd : decode cc pc = .ok (.istore_n i, 1)) (hn : i.val < nL) (hl2 : (i.val, Value.int x) :: L.filter (fun q => !(q.1 == i.val) && !(q.1 + 1 == i.val && q.2.category == 2)) = L2) (k : BX p l0 e R s m args below meth c b nL cy D Q rc rs (pc + 1) L2 st h) : BX p l0 e R s m args below meth c b nL cy D Q rc rs pc L (.int x :: st) h :=
  fun H locs cells slots ls hP hS hl hc hs => lv_istore_n C.1 C.2.1 hd rfl hl hn hl2 (fun ls' hl' => k H locs cells slots ls' hP hS hl' hc hs)
theorem x_iinc {i : Nat} {n : Int} {x v : Int32} {L2 : List (Nat × Value)} (j : Nat) (C : BC p s m args c b nL cc D cy) (hd : decode cc pc = .ok (.iinc i n, 3)) (hj : L[j]? = some (i, .int x)) (hv : x + Int32.ofInt n = v) (hn : i < nL) (hl2 : (i, Value.int v) :: L.filter (fun q => !(q.1 == i) && !(q.1 + 1 == i && q.2.category == 2)) = L2) (k : BX p l0 e R s m args below meth c b nL cy D Q rc rs (pc + 3) L2 st h) : BX p l0 e R s m args below meth c b nL cy D Q rc rs pc L st h :=
  fun H locs cells slots ls hP hS hl hc hs => lv_iinc C.1 C.2.1 hd hl hj hv hn hl2 (fun ls' hl' => k H locs cells slots ls' hP hS hl' hc hs)
theorem x_iadd {x y v : Int32} (C : BC p s m args c b nL cc D cy) (hd : decode cc pc = .ok (.iadd, 1)) (hv : x + y = v) (k : BX p l0 e R s m args below meth c b nL cy D Q rc rs (pc + 1) L (.int v :: st) h) : BX p l0 e R s m args below meth c b nL cy D Q rc rs pc L (.int y :: .int x :: st) h := by
  subst hv
  exact fun H locs cells slots ls hP hS hl hc hs => lv_iadd C.1 C.2.1 hd (k H locs cells slots ls hP hS hl hc hs)
theorem x_imul {x y v : Int32} (C : BC p s m args c b nL cc D cy) (hd : decode cc pc = .ok (.imul, 1)) (hv : x * y = v) (k : BX p l0 e R s m args below meth c b nL cy D Q rc rs (pc + 1) L (.int v :: st) h) : BX p l0 e R s m args below meth c b nL cy D Q rc rs pc L (.int y :: .int x :: st) h := by
  subst hv
  exact fun H locs cells slots ls hP hS hl hc hs => lv_imul C.1 C.2.1 hd (k H locs cells slots ls hP hS hl hc hs)
theorem x_irem {x y v : Int32} (C : BC p s m args c b nL cc D cy) (hd : decode cc pc = .ok (.irem, 1)) (hne : ¬ y = 0) (hv : x - x / y * y = v) (k : BX p l0 e R s m args below meth c b nL cy D Q rc rs (pc + 1) L (.int v :: st) h) : BX p l0 e R s m args below meth c b nL cy D Q rc rs pc L (.int y :: .int x :: st) h := by
  subst hv
  exact fun H locs cells slots ls hP hS hl hc hs => lv_irem C.1 C.2.1 hd hne (k H locs cells slots ls hP hS hl hc hs)
theorem x_iushr {x y v : Int32} (C : BC p s m args c b nL cc D cy) (hd : decode cc pc = .ok (.iushr, 1)) (hv : (x.toUInt32 >>> (y.toUInt32 &&& Int32.toUInt32 31)).toInt32 = v) (k : BX p l0 e R s m args below meth c b nL cy D Q rc rs (pc + 1) L (.int v :: st) h) : BX p l0 e R s m args below meth c b nL cy D Q rc rs pc L (.int y :: .int x :: st) h :=
  fun H locs cells slots ls hP hS hl hc hs => lv_iushr C.1 C.2.1 hd hv (k H locs cells slots ls hP hS hl hc hs)
theorem x_alen {Ln : Nat} (C : BC p s m args c b nL cc D cy) (hX : va_X bs Ln xs s s.heap) (hbs : bs < s.heap.size) (hb : bs < b) (hd : decode cc pc = .ok (.arraylength, 1)) (k : BX p l0 e R s m args below meth c b nL cy D Q rc rs (pc + 1) L (.int (i32 Ln) :: st) h) : BX p l0 e R s m args below meth c b nL cy D Q rc rs pc L (.ref bs :: st) h :=
  fun H locs cells slots ls hP hS hl hc hs => va_slen C.1 C.2.1 hX hbs (show ¬ b ≤ bs by omega) hS hd (k H locs cells slots ls hP hS hl hc hs)
theorem x_iaload {Ln j : Nat} (C : BC p s m args c b nL cc D cy) (hX : va_X bs Ln xs s s.heap) (hbs : bs < s.heap.size) (hb : bs < b) (hd : decode cc pc = .ok (.iaload, 1)) (hj : j < Ln) (hL : Ln ≤ 260) (k : BX p l0 e R s m args below meth c b nL cy D Q rc rs (pc + 1) L (.int (xs j) :: st) h) : BX p l0 e R s m args below meth c b nL cy D Q rc rs pc L (.int (i32 j) :: .ref bs :: st) h :=
  fun H locs cells slots ls hP hS hl hc hs => by
    have hcl : (i32 j).toNatClampNeg = j := i32_cl (by omega)
    refine va_sld (s := s) C.1 C.2.1 hX hbs (show ¬ b ≤ bs by omega) hS ?_ hd ?_
    · rintro (q | q)
      · exact i32_nn (by omega) q
      · rw [hcl] at q; omega
    · rw [hcl]
      exact k H locs cells slots ls hP hS hl hc hs
theorem x_goto {off : Int} (tgt : Nat) (C : BC p s m args c b nL cc D cy) (hd : decode cc pc = .ok (.goto off, 3)) (ht : (pc : Int) + off = (tgt : Int)) (k : BX p l0 e R s m args below meth c b nL cy D Q rc rs tgt L st h) : BX p l0 e R s m args below meth c b nL cy D Q rc rs pc L st h :=
  fun H locs cells slots ls hP hS hl hc hs => lv_goto C.1 C.2.1 hd ht (k H locs cells slots ls hP hS hl hc hs)
theorem x_ifne {x : Int32} {off : Int} (tgt : Nat) (C : BC p s m args c b nL cc D cy) (hd : decode cc pc = .ok (.ifCond .ne off, 3)) (ht : (pc : Int) + off = (tgt : Int)) (kt : ¬ x = 0 → BX p l0 e R s m args below meth c b nL cy D Q rc rs tgt L st h) (kf : x = 0 → BX p l0 e R s m args below meth c b nL cy D Q rc rs (pc + 3) L st h) : BX p l0 e R s m args below meth c b nL cy D Q rc rs pc L (.int x :: st) h :=
  fun H locs cells slots ls hP hS hl hc hs => lv_if_ne C.1 C.2.1 hd ht (fun q => kt q H locs cells slots ls hP hS hl hc hs) (fun q => kf q H locs cells slots ls hP hS hl hc hs)
theorem x_ifeq {x : Int32} {off : Int} (tgt : Nat) (C : BC p s m args c b nL cc D cy) (hd : decode cc pc = .ok (.ifCond .eq off, 3)) (ht : (pc : Int) + off = (tgt : Int)) (kt : x = 0 → BX p l0 e R s m args below meth c b nL cy D Q rc rs tgt L st h) (kf : ¬ x = 0 → BX p l0 e R s m args below meth c b nL cy D Q rc rs (pc + 3) L st h) : BX p l0 e R s m args below meth c b nL cy D Q rc rs pc L (.int x :: st) h :=
  fun H locs cells slots ls hP hS hl hc hs => lv_if_eq C.1 C.2.1 hd ht (fun q => kt q H locs cells slots ls hP hS hl hc hs) (fun q => kf q H locs cells slots ls hP hS hl hc hs)
theorem x_cge {x y : Int32} {off : Int} (tgt : Nat) (C : BC p s m args c b nL cc D cy) (hd : decode cc pc = .ok (.if_icmp .ge off, 3)) (ht : (pc : Int) + off = (tgt : Int)) (kt : y ≤ x → BX p l0 e R s m args below meth c b nL cy D Q rc rs tgt L st h) (kf : ¬ y ≤ x → BX p l0 e R s m args below meth c b nL cy D Q rc rs (pc + 3) L st h) : BX p l0 e R s m args below meth c b nL cy D Q rc rs pc L (.int y :: .int x :: st) h :=
  fun H locs cells slots ls hP hS hl hc hs => lv_icmp_ge C.1 C.2.1 hd ht (fun q => kt q H locs cells slots ls hP hS hl hc hs) (fun q => kf q H locs cells slots ls hP hS hl hc hs)
theorem x_cne {x y : Int32} {off : Int} (tgt : Nat) (C : BC p s m args c b nL cc D cy) (hd : decode cc pc = .ok (.if_icmp .ne off, 3)) (ht : (pc : Int) + off = (tgt : Int)) (kt : ¬ x = y → BX p l0 e R s m args below meth c b nL cy D Q rc rs tgt L st h) (kf : x = y → BX p l0 e R s m args below meth c b nL cy D Q rc rs (pc + 3) L st h) : BX p l0 e R s m args below meth c b nL cy D Q rc rs pc L (.int y :: .int x :: st) h :=
  fun H locs cells slots ls hP hS hl hc hs => lv_icmp_ne C.1 C.2.1 hd ht (fun q => kt q H locs cells slots ls hP hS hl hc hs) (fun q => kf q H locs cells slots ls hP hS hl hc hs)
theorem x_ceq {x y : Int32} {off : Int} (tgt : Nat) (C : BC p s m args c b nL cc D cy) (hd : decode cc pc = .ok (.if_icmp .eq off, 3)) (ht : (pc : Int) + off = (tgt : Int)) (kt : x = y → BX p l0 e R s m args below meth c b nL cy D Q rc rs tgt L st h) (kf : ¬ x = y → BX p l0 e R s m args below meth c b nL cy D Q rc rs (pc + 3) L st h) : BX p l0 e R s m args below meth c b nL cy D Q rc rs pc L (.int y :: .int x :: st) h :=
  fun H locs cells slots ls hP hS hl hc hs => lv_icmp_eq C.1 C.2.1 hd ht (fun q => kt q H locs cells slots ls hP hS hl hc hs) (fun q => kf q H locs cells slots ls hP hS hl hc hs)
theorem x_clt {x y : Int32} {off : Int} (tgt : Nat) (C : BC p s m args c b nL cc D cy) (hd : decode cc pc = .ok (.if_icmp .lt off, 3)) (ht : (pc : Int) + off = (tgt : Int)) (kt : x < y → BX p l0 e R s m args below meth c b nL cy D Q rc rs tgt L st h) (kf : ¬ x < y → BX p l0 e R s m args below meth c b nL cy D Q rc rs (pc + 3) L st h) : BX p l0 e R s m args below meth c b nL cy D Q rc rs pc L (.int y :: .int x :: st) h :=
  fun H locs cells slots ls hP hS hl hc hs => lv_icmp_lt C.1 C.2.1 hd ht (fun q => kt q H locs cells slots ls hP hS hl hc hs) (fun q => kf q H locs cells slots ls hP hS hl hc hs)
theorem x_cgt {x y : Int32} {off : Int} (tgt : Nat) (C : BC p s m args c b nL cc D cy) (hd : decode cc pc = .ok (.if_icmp .gt off, 3)) (ht : (pc : Int) + off = (tgt : Int)) (kt : y < x → BX p l0 e R s m args below meth c b nL cy D Q rc rs tgt L st h) (kf : ¬ y < x → BX p l0 e R s m args below meth c b nL cy D Q rc rs (pc + 3) L st h) : BX p l0 e R s m args below meth c b nL cy D Q rc rs pc L (.int y :: .int x :: st) h :=
  fun H locs cells slots ls hP hS hl hc hs => lv_icmp_gt C.1 C.2.1 hd ht (fun q => kt q H locs cells slots ls hP hS hl hc hs) (fun q => kf q H locs cells slots ls hP hS hl hc hs)
/-- a call, its contract given; the world before and behind -/
theorem x_met {op i mj : Nat} {st0 as rest : List Value} {v : Option Value} {h1 : MH} (C : BC p s m args c b nL cc D cy) (M : vx_Met l0 (mNm mj) (wsM mj) (rmM mj) (Pc9 b D cy as h false) (Qc9 b D cy (.inl v) h1 false) (XC9 b D cy (.inl v) h1) (mMc mj) (mMs mj) (AB b)) (hcp : callP op 10 i st0 h = some (mj, as, rest))
    (hd : (op = 0 ∧ decode cc pc = .ok (.invokestatic i, 3)) ∨ (op = 1 ∧ decode cc pc = .ok (.invokevirtual i, 3)) ∨ (op = 2 ∧ decode cc pc = .ok (.invokespecial i, 3)))
    (hrm : mHt mj + 1 ≤ R.frames ∧ 19 + mNL mj + mLo mj ≤ R.locals) (hc : mMc mj ≤ rc) (hs : mMs mj ≤ rs) (hst : st = st0.map (tv b))
    (K : BX p l0 e R s m args below meth c b nL cy D Q (rc - mMc mj) (rs - mMs mj) (pc + 3) L ((v.toList ++ rest).map (tv b)) h1) : BX p l0 e R s m args below meth c b nL cy D Q rc rs pc L st h := by
  subst hst
  intro H locs cells slots ls hP hS hl hcl hsl
  obtain ⟨hx, hb, hml, hown, hts, hWd⟩ := C
  refine call_go (call_runG (cls := 10) (R := R) (al := false) hx hb hml hown hts hWd hcp hd hl.1 hP hS (fun q => by cases q) hrm (by omega) (by omega) M) hS (fun v' hv H1 locs1 hP1 _ hS1 => ?_) (fun x hx9 => by cases hx9)
  cases hv
  have h10 := K H1 locs1 (cells + mMc mj) (slots + mMs mj) ls hP1 hS1 hl (by omega) (by omega)
  have hst : (v.toList ++ rest).map (tv b) = (v.map (tv b)).toList ++ rest.map (tv b) := by cases v <;> rfl
  rw [hst] at h10
  exact h10
/-- a call on the memory l -/
theorem x_call {op i mj : Nat} {ys : List Int32} {st0 rest : List Value} {v : Option Value} {l l1 : Sg} (C : BC p s m args c b nL cc D cy) (hfl : l0.stackTraces = false) (hop : op < 2) (hlc : lc1 op i st0 = some (op, i, mj, ys, rest)) (hE : Es false mj (.ref 0 :: ys.map Value.int) l (fun o l' => o = .inl v ∧ l' = l1))
    (hd : (op = 0 ∧ decode cc pc = .ok (.invokestatic i, 3)) ∨ (op = 1 ∧ decode cc pc = .ok (.invokevirtual i, 3)) ∨ (op = 2 ∧ decode cc pc = .ok (.invokespecial i, 3)))
    (hrm : mHt mj + 1 ≤ R.frames ∧ 19 + mNL mj + mLo mj ≤ R.locals) (hc : mMc mj ≤ rc) (hs : mMs mj ≤ rs) (hst : st = st0.map (tv b))
    (K : BX p l0 e R s m args below meth c b nL cy D Q (rc - mMc mj) (rs - mMs mj) (pc + 3) L ((v.toList ++ rest).map (tv b)) (heapOf (GG false l1 w0))) : BX p l0 e R s m args below meth c b nL cy D Q rc rs pc L st (heapOf (GG false l w0)) := by
  obtain ⟨-, -, hcp⟩ := lc1_ok (g := GG false l w0) hop hlc
  obtain ⟨kd, li, hq2, b1, b2, b3, b4, b5, b6, b7, b8, b9⟩ := callP_spec hcp
  obtain ⟨f1, f2, f3, f4, f5, f6, f7, f8, f9, f10, f11, f12, f13, f14, f15⟩ := cal_of hq2
  have hcat : (.ref 0 :: ys.map Value.int : List Value).all (fun v => v.category == 1) = true := by rw [b8]; exact rev_all b6
  have hlen : (.ref 0 :: ys.map Value.int : List Value).length ≤ mNL mj := by rw [b8, List.length_reverse, List.length_take]; omega
  obtain ⟨n9, o, g', hr, z', rfl, rfl, rfl⟩ := hE w0
  exact x_met C (met_of (b := b) (D := D) (cy := cy) f9 f10 f13 hcat hlen (run_sound hfl _ _ _ _ _ _ _ _ _ _ _ hr)) hcp hd hrm hc hs hst K
end BX
