/-! ===== the law from its entry ===== -/
section LAWS
variable {p : Program} {l0 : Launch} {e : Env} {s : State} {m : MethodId} {below : List Frame} {meth : Method} {c : Code} {b L : Nat} {xs : Nat → Int32} {D : va_G} {cy : Nat → ClassId}
variable {cells slots pc : Nat}
theorem Lnew {ix mj : Nat} {h h' : MH} {st as rest : List Value} {H : Heap} {locs : List Loc} {ls : Array Slot} (C : LC p s m meth c b L xs D cy) (hfl : l0.stackTraces = false) (hcp : callP 2 10 ix st h = some (mj, as, rest)) (hr : run 2000 mj (mMc mj) (mMs mj) true 0 (lv_args 0 as) [] h = some (.inl none, h')) (hd : decode code pc = .ok (.invokespecial ix, 3))
    (hrm : mHt mj + 1 ≤ 13 ∧ 19 + mNL mj + mLo mj ≤ 512) (hcl : cells + mMc mj ≤ 601024) (hsl : slots + mMs mj ≤ 7293034) (hls : ls.size = 7) (hP : va_P D vwC (wsOf s.heap.size cy h) H) (hS : va_S (AB s.heap.size) s.heap H locs) (hsz : H.size = s.heap.size + h.length)
    (kk : ∀ (H1 : Heap) (locs1 : List Loc), va_P D vwC (wsOf s.heap.size cy h') H1 → H1.size = s.heap.size + h'.length → va_S (AB s.heap.size) s.heap H1 locs1 → W p l0 e room_1 s m #[Value.ref b] below meth c H1 locs1 (cells + mMc mj) (slots + mMs mj) (lw_Z below #[Value.ref b] s) (F0 m (pc + 3) ls (rest.map (tv s.heap.size)))) :
    W p l0 e room_1 s m #[Value.ref b] below meth c H locs cells slots (lw_Z below #[Value.ref b] s) (F0 m pc ls (st.map (tv s.heap.size))) := by
  obtain ⟨hx, hb, -, hml, hown, hts, hWd, hX, hbl, -⟩ := id C
  obtain ⟨kd, li, hq2, b1, b2, b3, b4, b5, b6, b7, b8, b9⟩ := callP_spec hcp
  obtain ⟨f1, f2, f3, f4, f5, f6, f7, f8, f9, f10, f11, f12, f13, f14, f15⟩ := cal_of hq2
  have hcat : as.all (fun v => v.category == 1) = true := by rw [b8]; exact rev_all b6
  have hlen : as.length ≤ mNL mj := by rw [b8, List.length_reverse, List.length_take]; omega
  have M := met_of (b := s.heap.size) (D := D) (cy := cy) f9 f10 f13 hcat hlen (run_sound hfl _ _ _ _ _ _ _ _ _ _ _ hr)
  refine call_go (call_runG (cls := 10) (R := room_1) (al := true) hx hb hml hown hts hWd hcp (Or.inr (Or.inr ⟨rfl, hd⟩)) hls hP hS (fun _ => hsz) hrm hcl hsl M) hS (fun v' hv H1 locs1 hP1 hz1 hS1 => ?_) (fun x hx9 => by cases hx9)
  cases hv
  exact kk H1 locs1 hP1 (hz1 rfl) hS1
end LAWS
theorem cp_x : callP 2 10 127 [.ref 0, .ref 0] [(6, dflt 6)] = some (30, [.ref 0], [.ref 0]) := by decide +kernel
theorem cp_m : callP 2 10 130 [.ref 292, .ref 292] (hX 30 60 6 ++ [(7, dflt 7)]) = some (105, [.ref 292], [.ref 292]) := by decide +kernel
theorem len_x : (hX 30 60 6).length = 292 := by decide +kernel
theorem len_m : hM.length = 332 := by decide +kernel
theorem cl_x : Jvm.Cond.classLink (cN 10) 8 (cN 6) ∈ lw_tbl := by decide +kernel
theorem cl_m : Jvm.Cond.classLink (cN 10) 128 (cN 7) ∈ lw_tbl := by decide +kernel
theorem h0_is : hM ++ [((102, List.replicate (1 : Int32).toNatClampNeg (.long 0)) : MC)] = h0 := rfl
/-- from the entry, for every script of at most 3584 ints, the law comes to its end with true -/
theorem whole_start {p : Program} {e : Env} {s : State} {m : MethodId} {below : List Frame} {meth : Method} {c : Code} (l : Launch) (hflags : l.flags = flags0) {b L : Nat} {xs : Nat → Int32} (hL : L ≤ 3584) (C0 : lw_At p s m meth c b L xs) : W p l e room_1 s m #[Value.ref b] below meth c s.heap [] 0 0 (lw_Z below #[Value.ref b] s) (entryFrame m ([Value.ref b] : List Value).toArray 7) := by
  obtain ⟨hx, hb, hr, hml, hown, hts, hX, hbl, hlocks, hgv⟩ := id C0
  obtain ⟨D, cy, hWd⟩ := Wd_start hts hgv
  have hfl : l.stackTraces = false := by unfold Jvm.Launch.stackTraces; rw [hflags]; decide
  have htT : ∀ w ∈ TBL, w.before #[Value.ref b] s = true := fun w hw => hts w (tbl_in hw)
  have C : LC p s m meth c b L xs D cy := ⟨hx, hb, hr, hml, hown, htT, hWd, hX, hbl, hlocks⟩
  have hS : va_S (AB s.heap.size) s.heap s.heap [] := va_S.rf
  have hP : va_P D vwC (wsOf s.heap.size cy []) s.heap := fun k q h => by simp [wsOf] at h
  have hl := lv_entry ([.ref b]) (n := 7) (Nat.le_of_ble_eq_true rfl)
  rw [lg_entry_eq]
  generalize (lg_sl ([.ref b]) ++ List.replicate (7 - (lg_sl ([.ref b])).length) Slot.unset).toArray = ls at hl ⊢
  have hl : lv_has ls 7 [(0, .ref b)] := hl
  refine h_new (ci := 6) (h := []) (vs := dflt 6) (own := cN 10) (index := 8) (C := cN 6) (T := clT 6) (N := clN 6) hx hb htT (lay_in (by decide)) (ty_ok (by decide)) hown (hts _ cl_x) (htT _ (ins_ok (ci := 6) (by decide)).1) (htT _ (ins_ok (ci := 6) (by decide)).2) hWd.1 hP hS (vw_at (by decide)) (by decide) rfl (dflt_ok (by decide)) (Nat.le_of_ble_eq_true rfl) (Nat.le_of_ble_eq_true rfl) (show decode code 0 = .ok (.new 8, 3) by decide +kernel) (fun H z hP hS => ?_)
  refine lv_dup hx hb (show decode code 3 = .ok (.dup, 1) by decide +kernel) rfl ?_
  refine Lnew (pc := 4) (st := [.ref 0, .ref 0]) C hfl cp_x fresh_x (by decide +kernel) ⟨Nat.le_of_ble_eq_true rfl, Nat.le_of_ble_eq_true rfl⟩ (Nat.le_of_ble_eq_true rfl) (Nat.le_of_ble_eq_true rfl) hl.1 hP hS z (fun H locs hP z hS => ?_)
  refine lv_astore_n (x := s.heap.size + 0) (lv' := [(1, .ref (s.heap.size + 0)), (0, .ref b)]) hx hb (show decode code 7 = .ok (.astore_n 1, 1) by decide +kernel) rfl hl (by decide) rfl (fun ls hl => ?_)
  refine h_new (ci := 7) (vs := dflt 7) (own := cN 10) (index := 128) (C := cN 7) (T := clT 7) (N := clN 7) hx hb htT (lay_in (by decide)) (ty_ok (by decide)) hown (hts _ cl_m) (htT _ (ins_ok (ci := 7) (by decide)).1) (htT _ (ins_ok (ci := 7) (by decide)).2) hWd.1 hP hS (vw_at (by decide)) (by decide) z (dflt_ok (by decide)) (Nat.le_of_ble_eq_true rfl) (Nat.le_of_ble_eq_true rfl) (show decode code 8 = .ok (.new 128, 3) by decide +kernel) (fun H z hP hS => ?_)
  rw [len_x]
  refine lv_dup hx hb (show decode code 11 = .ok (.dup, 1) by decide +kernel) rfl ?_
  refine Lnew (pc := 12) (st := [.ref 292, .ref 292]) C hfl cp_m fresh_m (by decide +kernel) ⟨Nat.le_of_ble_eq_true rfl, Nat.le_of_ble_eq_true rfl⟩ (Nat.le_of_ble_eq_true rfl) (Nat.le_of_ble_eq_true rfl) hl.1 hP hS z (fun H locs hP z hS => ?_)
  refine lv_astore_n (x := s.heap.size + 292) (lv' := [(2, .ref (s.heap.size + 292)), (1, .ref (s.heap.size + 0)), (0, .ref b)]) hx hb (show decode code 15 = .ok (.astore_n 2, 1) by decide +kernel) rfl hl (by decide) rfl (fun ls hl => ?_)
  refine lv_iconst (v := 1) hx hb (show decode code 16 = .ok (.iconst 1, 1) by decide +kernel) (by decide) ?_
  refine h_newl (t0 := 2) (tys := TYS cy) hx hb (htT _ arrW_long) hWd.1 hP hS rfl z (by decide) (by decide) (Nat.le_of_ble_eq_true rfl) (Nat.le_of_ble_eq_true rfl) (show decode code 17 = .ok (.newarray .long, 2) by decide +kernel) (fun H z hP hS => ?_)
  rw [len_m]
  rw [h0_is] at hP
  refine lv_astore_n (x := s.heap.size + 332) (lv' := [(3, .ref (s.heap.size + 332)), (2, .ref (s.heap.size + 292)), (1, .ref (s.heap.size + 0)), (0, .ref b)]) hx hb (show decode code 19 = .ok (.astore_n 3, 1) by decide +kernel) rfl hl (by decide) rfl (fun ls hl => ?_)
  refine lv_iconst (v := 0) hx hb (show decode code 20 = .ok (.iconst 0, 1) by decide +kernel) (by decide) ?_
  refine lv_istore (lv' := [(4, .int 0), (3, .ref (s.heap.size + 332)), (2, .ref (s.heap.size + 292)), (1, .ref (s.heap.size + 0)), (0, .ref b)]) hx hb (show decode code 21 = .ok (.istore 4, 2) by decide +kernel) hl (by decide) rfl (fun ls hl => ?_)
  exact law_loop C hfl hL (L + 1) 0 _ _ lI zI (by omega) (Nat.zero_le _) (Nat.le_of_ble_eq_true rfl) (Nat.le_of_ble_eq_true rfl) RR_I H locs ls (by rw [gI_h0]; exact hP) hS (lv_sub hl [4, 3, 2, 1, 0] rfl)
