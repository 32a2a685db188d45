/-! ===== the law's body: its rows in bundles ===== -/
theorem GG_sw {l z : Sg} : GG true z l = GG false l z := by
  funext k j
  unfold GG
  cases mdl k <;> rfl
theorem Cx {mj : Nat} {as : List Value} {l z l1 : Sg} {v : Option Value} (h : Es false mj as l (fun o l' => o = .inl v ∧ l' = l1)) : Ex mj as (GG false l z) (fun o g' => o = .inl v ∧ g' = GG false l1 z) :=
  (h z).imp (fun o g' q => by obtain ⟨l', e, q1, q2⟩ := q; exact ⟨q1, by rw [e, q2]⟩)
theorem Cm {mj : Nat} {as : List Value} {l z z1 : Sg} {v : Option Value} (h : Es true mj as z (fun o z' => o = .inl v ∧ z' = z1)) : Ex mj as (GG false l z) (fun o g' => o = .inl v ∧ g' = GG false l z1) := by
  have h1 := h l
  rw [GG_sw] at h1
  exact h1.imp (fun o g' q => by obtain ⟨z', e, q1, q2⟩ := q; exact ⟨q1, by rw [e, q2, GG_sw]⟩)
def mlA (i : Nat) : ML := [(1, .ref 0), (2, .ref 292), (3, .ref 332), (4, .int (i32 i))]
def mlB (i : Nat) (k : Int32) : ML := [(5, .int k), (1, .ref 0), (2, .ref 292), (3, .ref 332), (4, .int (i32 i))]
def mlC (i : Nat) (k v : Int32) : ML := [(6, .int v), (5, .int k), (1, .ref 0), (2, .ref 292), (3, .ref 332), (4, .int (i32 i))]
section LAW
variable {p : Program} {l0 : Launch} {e : Env} {s : State} {m : MethodId} {below : List Frame} {meth : Method} {c : Code} {b L : Nat} {xs : Nat → Int32} {D : va_G} {cy : Nat → ClassId}
variable {cells slots pc : Nat} {ml : ML} {st : List Value} {g : Sg}
/-- what holds in the law's body -/
def LC (p : Program) (s : State) (m : MethodId) (meth : Method) (c : Code) (b L : Nat) (xs : Nat → Int32) (D : va_G) (cy : Nat → ClassId) : Prop :=
  p.tables.exec = Jvm.exec ∧ c.code = code ∧ meth.sig.returnType = ret ∧ c.maxLocals = 7 ∧ s.vm.findClass (cN 10) = some m.cls ∧ (∀ w ∈ TBL, w.before #[Value.ref b] s = true) ∧ Wd s.heap.size D cy s ∧ va_X b L xs s s.heap ∧ b < s.heap.size ∧ meth.locks = false
/-- from here the law comes to its end -/
def LG (p : Program) (l0 : Launch) (e : Env) (s : State) (m : MethodId) (below : List Frame) (meth : Method) (c : Code) (b : Nat) (D : va_G) (cy : Nat → ClassId) (cells slots pc : Nat) (ml : ML) (st : List Value) (g : Sg) : Prop :=
  ∀ (H : Heap) (locs : List Loc) (ls : Array Slot), va_P D vwC (wsOf s.heap.size cy (heapOf g)) H → va_S (AB s.heap.size) s.heap H locs → lv_has ls 7 ((0, .ref b) :: trL s.heap.size ml) → W p l0 e room_1 s m #[Value.ref b] below meth c H locs cells slots (lw_Z below #[Value.ref b] s) (F0 m pc ls (st.map (tv s.heap.size)))
theorem lv_mem {B : Nat} {ls : Array Slot} {j : Nat} {v : Value} (hl : lv_has ls 7 ((0, .ref b) :: trL B ml)) (h : (j, v) ∈ ml) : ls[j]? = some (.val (tv B v)) :=
  hl.2.2 (j, tv B v) (List.mem_cons_of_mem _ (List.mem_map.mpr ⟨(j, v), h, rfl⟩))
theorem lv_zero {B : Nat} {ls : Array Slot} (hl : lv_has ls 7 ((0, .ref b) :: trL B ml)) : ls[0]? = some (.val (.ref b)) := hl.2.2 (0, .ref b) List.mem_cons_self
theorem AB_no (C : LC p s m meth c b L xs D cy) : ¬ AB s.heap.size b := Nat.not_le.mpr C.2.2.2.2.2.2.2.2.1
/-- an int of the script -/
theorem Lld {i j : Nat} {k : Int} (C : LC p s m meth c b L xs D cy) (h4 : (4, Value.int (i32 i)) ∈ ml)
    (hd : decode code pc = .ok (.aload_n 0, 1) ∧ decode code (pc + 1) = .ok (.iload 4, 2) ∧ decode code (pc + 3) = .ok (.iconst k, 1) ∧ decode code (pc + 4) = .ok (.iadd, 1) ∧ decode code (pc + 5) = .ok (.iaload, 1))
    (hv : Int32.ofInt k = i32 j) (hin : i + j < L) (hL : L ≤ 3584) (K : LG p l0 e s m below meth c b D cy cells slots (pc + 6) ml (.int (xs (i + j)) :: st) g) : LG p l0 e s m below meth c b D cy cells slots pc ml st g := by
  intro H locs ls hP hS hl
  obtain ⟨hx, hb, -, -, -, -, -, hX, hbl, -⟩ := id C
  obtain ⟨d1, d2, d3, d4, d5⟩ := hd
  refine lv_aload_n hx hb d1 rfl (lv_zero hl) (lv_iload hx hb d2 (lv_mem hl h4) (lv_iconst hx hb d3 hv (lv_iadd hx hb d4 ?_)))
  rw [i32_add]
  have hcl : (i32 (i + j)).toNatClampNeg = i + j := i32_cl (by omega)
  refine va_sld (s := s) hx hb hX hbl (AB_no C) hS ?_ d5 ?_
  · rintro (q | q)
    · exact i32_nn (by omega) q
    · rw [hcl] at q; omega
  · rw [hcl]
    exact K H locs ls hP hS hl
theorem Lld6 {i : Nat} (C : LC p s m meth c b L xs D cy) (h4 : (4, Value.int (i32 i)) ∈ ml)
    (hd : decode code pc = .ok (.aload_n 0, 1) ∧ decode code (pc + 1) = .ok (.iload 4, 2) ∧ decode code (pc + 3) = .ok (.bipush 6, 2) ∧ decode code (pc + 5) = .ok (.iadd, 1) ∧ decode code (pc + 6) = .ok (.iaload, 1))
    (hin : i + 6 < L) (hL : L ≤ 3584) (K : LG p l0 e s m below meth c b D cy cells slots (pc + 7) ml (.int (xs (i + 6)) :: st) g) : LG p l0 e s m below meth c b D cy cells slots pc ml st g := by
  intro H locs ls hP hS hl
  obtain ⟨hx, hb, -, -, -, -, -, hX, hbl, -⟩ := id C
  obtain ⟨d1, d2, d3, d4, d5⟩ := hd
  refine lv_aload_n hx hb d1 rfl (lv_zero hl) (lv_iload hx hb d2 (lv_mem hl h4) (lv_bipush (v := i32 6) hx hb d3 (by decide) (lv_iadd hx hb d4 ?_)))
  rw [i32_add]
  have hcl : (i32 (i + 6)).toNatClampNeg = i + 6 := i32_cl (by omega)
  refine va_sld (s := s) hx hb hX hbl (AB_no C) hS ?_ d5 ?_
  · rintro (q | q)
    · exact i32_nn (by omega) q
    · rw [hcl] at q; omega
  · rw [hcl]
    exact K H locs ls hP hS hl
theorem Lal {r : Nat} {j : Fin 4} (C : LC p s m meth c b L xs D cy) (h4 : (j.val, Value.ref r) ∈ ml) (hd : decode code pc = .ok (.aload_n j, 1))
    (K : LG p l0 e s m below meth c b D cy cells slots (pc + 1) ml (.ref r :: st) g) : LG p l0 e s m below meth c b D cy cells slots pc ml st g := by
  intro H locs ls hP hS hl
  exact lv_aload_n C.1 C.2.1 hd rfl (lv_mem hl h4) (K H locs ls hP hS hl)
/-- a call; nothing is thrown -/
theorem Lcall {op ix mj : Nat} {as rest : List Value} {v : Option Value} {g1 : Sg} (C : LC p s m meth c b L xs D cy) (hfl : l0.stackTraces = false) (hex : Ex mj as g (fun o g' => o = .inl v ∧ g' = g1)) (hcp : callP op 10 ix st (heapOf g) = some (mj, as, rest))
    (hd : (op = 0 ∧ decode code pc = .ok (.invokestatic ix, 3)) ∨ (op = 1 ∧ decode code pc = .ok (.invokevirtual ix, 3)) ∨ (op = 2 ∧ decode code pc = .ok (.invokespecial ix, 3)))
    (hrm : mHt mj + 1 ≤ 13 ∧ 19 + mNL mj + mLo mj ≤ 512) (hcl : cells + mMc mj ≤ 601024) (hsl : slots + mMs mj ≤ 7293034)
    (K : LG p l0 e s m below meth c b D cy (cells + mMc mj) (slots + mMs mj) (pc + 3) ml (v.toList ++ rest) g1) : LG p l0 e s m below meth c b D cy cells slots pc ml st g := by
  intro H locs ls hP hS hl
  obtain ⟨hx, hb, -, hml, hown, hts, hWd, hX, hbl, -⟩ := id C
  obtain ⟨n, o, g', hr, ho, rfl⟩ := hex
  obtain ⟨kd, li, hq2, b1, b2, b3, b4, b5, b6, b7, b8, b9⟩ := callP_spec hcp
  obtain ⟨f1, f2, f3, f4, f5, f6, f7, f8, f9, f10, f11, f12, f13, f14, f15⟩ := cal_of hq2
  have hcat : as.all (fun v => v.category == 1) = true := by rw [b8]; exact rev_all b6
  have hlen : as.length ≤ mNL mj := by rw [b8, List.length_reverse, List.length_take]; omega
  have M := met_of (b := s.heap.size) (D := D) (cy := cy) f9 f10 f13 hcat hlen (run_sound hfl _ _ _ _ _ _ _ _ _ _ _ hr)
  refine call_go (call_runG (cls := 10) (R := room_1) (al := false) hx hb hml hown hts hWd hcp hd hl.1 hP hS (fun q => by cases q) hrm hcl hsl M) hS (fun v' hv H1 locs1 hP1 _ hS1 => ?_) (fun x hx9 => ?_)
  · rw [ho] at hv
    cases hv
    have h10 := K H1 locs1 ls hP1 hS1 hl
    have hst : (v.toList ++ rest).map (tv s.heap.size) = (v.map (tv s.heap.size)).toList ++ rest.map (tv s.heap.size) := by cases v <;> rfl
    rw [hst] at h10
    exact h10
  · rw [ho] at hx9
    cases hx9
/-- a call of a wrapper -/
theorem Lwrap {ix mj : Nat} {li : Nat × List Nat} {as rest : List Value} {v : Option Value} {g1 : Sg} (C : LC p s m meth c b L xs D cy) (hfl : l0.stackTraces = false) (hex : Ex mj as g (fun o g' => o = .inl v ∧ g' = g1))
    (hq : lk2 calL 10 ix = some ((mj, 0), li)) (hna : as.length = mNA mj ∧ mNA mj ≤ mNL mj) (hh : ∃ z zs, mHh mj = z :: zs) (hcat : as.all (fun v => v.category == 1) = true) (hst : st = as.reverse ++ rest) (hW8 : (rest.map fun v => v.category).sum ≤ 8)
    (hd : decode code pc = .ok (.invokestatic ix, 3)) (hrm : mHt mj + 1 ≤ 13 ∧ 19 + mNL mj + mLo mj ≤ 512) (hcl : cells + mMc mj ≤ 601024) (hsl : slots + mMs mj ≤ 7293034)
    (K : LG p l0 e s m below meth c b D cy (cells + mMc mj) (slots + mMs mj) (pc + 3) ml (v.toList ++ rest) g1) : LG p l0 e s m below meth c b D cy cells slots pc ml st g := by
  intro H locs ls hP hS hl
  obtain ⟨hx, hb, -, hml, hown, hts, hWd, hX, hbl, -⟩ := id C
  obtain ⟨n, o, g', hr, ho, rfl⟩ := hex
  obtain ⟨f1, f2, f3, f4, f5, f6, f7, f8, f9, f10, f11, f12, f13, f14, f15⟩ := cal_of hq
  have hrest : (rest.map (tv s.heap.size)).map (fun v => v.category) = rest.map fun v => v.category := by rw [List.map_map]; exact List.map_congr_left fun v _ => tv_cat _ v
  have M := met_of (b := s.heap.size) (D := D) (cy := cy) f9 f10 f13 hcat (by rw [hna.1]; exact hna.2) (run_sound hfl _ _ _ _ _ _ _ _ _ _ _ hr)
  subst hst
  refine call_go (call_runW (cls := 10) (R := room_1) (al := false) hx hb hml hown hts hWd hq rfl hna.1 hh (by rw [hrest]; exact hW8) hd hl.1 hP hS (fun q => by cases q) hrm hcl hsl M) hS (fun v' hv H1 locs1 hP1 _ hS1 => ?_) (fun x hx9 => ?_)
  · rw [ho] at hv
    cases hv
    have h10 := K H1 locs1 ls hP1 hS1 hl
    have hst : (v.toList ++ rest).map (tv s.heap.size) = (v.map (tv s.heap.size)).toList ++ rest.map (tv s.heap.size) := by cases v <;> rfl
    rw [hst] at h10
    exact h10
  · rw [ho] at hx9
    cases hx9
theorem Lst5 {i : Nat} {k : Int32} (C : LC p s m meth c b L xs D cy) (hd : decode code pc = .ok (.istore 5, 2)) (K : LG p l0 e s m below meth c b D cy cells slots (pc + 2) (mlB i k) st g) : LG p l0 e s m below meth c b D cy cells slots pc (mlA i) (.int k :: st) g := by
  intro H locs ls hP hS hl
  refine lv_istore C.1 C.2.1 hd hl (by decide) rfl (fun ls' hl' => ?_)
  exact K H locs ls' hP hS (lv_sub hl' [1, 0, 2, 3, 4, 5] rfl)
theorem Lst6 {i : Nat} {k v : Int32} (C : LC p s m meth c b L xs D cy) (hd : decode code pc = .ok (.istore 6, 2)) (K : LG p l0 e s m below meth c b D cy cells slots (pc + 2) (mlC i k v) st g) : LG p l0 e s m below meth c b D cy cells slots pc (mlB i k) (.int v :: st) g := by
  intro H locs ls hP hS hl
  refine lv_istore C.1 C.2.1 hd hl (by decide) rfl (fun ls' hl' => ?_)
  exact K H locs ls' hP hS (lv_sub hl' [1, 0, 2, 3, 4, 5, 6] rfl)
theorem LdB {i : Nat} {k : Int32} (K : LG p l0 e s m below meth c b D cy cells slots pc (mlA i) st g) : LG p l0 e s m below meth c b D cy cells slots pc (mlB i k) st g := by
  intro H locs ls hP hS hl
  exact K H locs ls hP hS (lv_sub hl [0, 2, 3, 4, 5] rfl)
theorem LdC {i : Nat} {k v : Int32} (K : LG p l0 e s m below meth c b D cy cells slots pc (mlA i) st g) : LG p l0 e s m below meth c b D cy cells slots pc (mlC i k v) st g := by
  intro H locs ls hP hS hl
  exact K H locs ls hP hS (lv_sub hl [0, 3, 4, 5, 6] rfl)
theorem Lgo {off : Int} {tgt : Nat} (C : LC p s m meth c b L xs D cy) (hd : decode code pc = .ok (.goto off, 3)) (ht : (pc : Int) + off = (tgt : Int)) (K : LG p l0 e s m below meth c b D cy cells slots tgt ml st g) : LG p l0 e s m below meth c b D cy cells slots pc ml st g := by
  intro H locs ls hP hS hl
  exact lv_goto C.1 C.2.1 hd ht (K H locs ls hP hS hl)
theorem Lwid {cells' slots' : Nat} (h1 : cells' ≤ cells) (h2 : slots' ≤ slots) (K : LG p l0 e s m below meth c b D cy cells slots pc ml st g) : LG p l0 e s m below meth c b D cy cells' slots' pc ml st g := by
  intro H locs ls hP hS hl
  exact W.widen h1 h2 (K H locs ls hP hS hl)
theorem cp106 {g : Sg} {st : List Value} (h8 : (st.map fun v => v.category).sum ≤ 8) : callP 1 10 137 (.ref 292 :: st) (heapOf g) = some (106, [.ref 292], st) := by
  have hrcv : rcv (mNA 106) (.ref 292 :: st) (heapOf g) (mCls 106) = true := by
    show rcv 1 (.ref 292 :: st) (heapOf g) 7 = true
    simp only [rcv, List.getElem?_cons_zero]
    rw [heapOf_at (by decide)]
    rfl
  have hf : lk2 calL 10 137 = some ((106, 1), (lk2 calL 10 137).get!.2) := by decide +kernel
  have hs : callP 1 10 137 (.ref 292 :: st) (heapOf g) = _ := callP_s hf (Or.inr hrcv) (by
    show ((true && Nat.ble 1 (st.length + 1)) && (true && (true && ((true && ([] : List Value).all _) && Nat.ble (st.map fun v => v.category).sum 8)))) = true
    simp [h8])
  exact hs
/-- the thrown of the reference is the one that came -/
theorem Lthr {l z : Sg} {k : Int32} (C : LC p s m meth c b L xs D cy) (hfl : l0.stackTraces = false) (h5 : (5, Value.int k) ∈ ml) (hk : z 292 41 = k)
    (hd : decode code pc = .ok (.aload_n 2, 1) ∧ decode code (pc + 1) = .ok (.invokevirtual 137, 3) ∧ decode code (pc + 4) = .ok (.iload 5, 2) ∧ decode code (pc + 6) = .ok (.if_icmp .eq 5, 3)) (h2 : (2, Value.ref 292) ∈ ml) (hcl : cells ≤ 601024) (hsl : slots ≤ 7293034)
    (K : LG p l0 e s m below meth c b D cy cells slots (pc + 11) ml [] (GG false l z)) : LG p l0 e s m below meth c b D cy cells slots pc ml [] (GG false l z) := by
  obtain ⟨d1, d2, d3, d4⟩ := hd
  refine Lal C h2 d1 ?_
  refine Lcall C hfl (Cm (v := some (.int (z 292 41))) (e_106 ⟨rfl, rfl⟩)) (cp106 (Nat.zero_le _)) (Or.inr (Or.inl ⟨rfl, d2⟩)) ⟨Nat.le_of_ble_eq_true rfl, Nat.le_of_ble_eq_true rfl⟩ hcl hsl ?_
  intro H locs ls hP hS hl
  refine lv_iload C.1 C.2.1 d3 (lv_mem hl h5) (lv_icmp_eq (tgt := pc + 11) C.1 C.2.1 d4 (by omega) (fun _ => K H locs ls hP hS hl) (fun q => absurd hk q))
/-- out[0] is the reference's answer, when nothing was thrown -/
theorem Lout {l z : Sg} {i : Nat} {k v : Int32} (C : LC p s m meth c b L xs D cy) (hk : k = 0 → l 332 0 = v)
    (hd : decode code pc = .ok (.iload 5, 2) ∧ decode code (pc + 2) = .ok (.ifCond .ne 15, 3) ∧ decode code (pc + 5) = .ok (.aload_n 3, 1) ∧ decode code (pc + 6) = .ok (.iconst 0, 1) ∧ decode code (pc + 7) = .ok (.laload, 1) ∧ decode code (pc + 8) = .ok (.iload 6, 2) ∧ decode code (pc + 10) = .ok (.i2l, 1) ∧ decode code (pc + 11) = .ok (.lcmp, 1) ∧ decode code (pc + 12) = .ok (.ifCond .eq 5, 3))
    (K : LG p l0 e s m below meth c b D cy cells slots (pc + 17) (mlC i k v) [] (GG false l z)) : LG p l0 e s m below meth c b D cy cells slots pc (mlC i k v) [] (GG false l z) := by
  obtain ⟨d1, d2, d3, d4, d5, d6, d7, d8, d9⟩ := hd
  intro H locs ls hP hS hl
  have hx := C.1
  have hb := C.2.1
  have hWd := C.2.2.2.2.2.2.1
  have h5 := lv_mem (j := 5) (v := .int k) hl (by simp [mlC])
  have h6 := lv_mem (j := 6) (v := .int v) hl (by simp [mlC])
  have h3 := lv_mem (j := 3) (v := .ref 332) hl (by simp [mlC])
  refine lv_iload hx hb d1 h5 (lv_if_ne (tgt := pc + 17) hx hb d2 (by omega) (fun _ => K H locs ls hP hS hl) (fun hk0 => ?_))
  refine lv_aload_n hx hb d3 rfl h3 (lv_iconst (v := 0) hx hb d4 (by decide) ?_)
  have hc : (heapOf (GG false l z))[332]? = some (102, [.long (l 332 0).toInt64]) := by
    rw [heapOf_at (by decide)]
    rfl
  have ha := wsOf_get (b := s.heap.size) (cy := cy) hc
  rw [trC_long] at ha
  refine va_lald (i := 0) hx hb hWd.1 hP 332 2 ha rfl (show vp_in 0 1 by unfold vp_in; decide) d5 (lv_iload hx hb d6 h6 (lv_i2l hx hb d7 rfl (W.lcmp hx hb d8 ?_)))
  have hcmp : lg_cmp (l 332 0).toInt64 v.toInt64 = 0 := by rw [hk hk0]; unfold lg_cmp; simp
  refine lv_if_eq (tgt := pc + 17) hx hb d9 (by omega) (fun _ => K H locs ls hP hS hl) (fun q2 => absurd hcmp q2)
end LAW
