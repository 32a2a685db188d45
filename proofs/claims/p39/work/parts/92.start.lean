/-! ===== from the entry ===== -/
theorem ZQ_lw {below : List Frame} {s t : State} {a : Array Value} (h : ZQ below s s.heap.size 600074 7301550 t) : lw_Z below a s t := by
  obtain ⟨o, L, h1, h2, h3, h4, h5, h6⟩ := h
  refine ⟨o, h1, h2, h3, ⟨_, h3⟩, h4, ?_⟩
  obtain ⟨a1, a2, a3, a4, a5, a6⟩ := h5
  refine ⟨a1, a2, a3, a4, a5, fun a c hc => ?_⟩
  obtain ⟨c', e1, e2, e3, e4⟩ := a6 a c hc
  refine ⟨c', e1, e2, e3, fun i _ => e4 i (fun hm => ?_)⟩
  have hb : s.heap.size ≤ a := h6 _ hm
  have hlt : a < s.heap.size := (Array.getElem?_eq_some_iff.mp hc).1
  exact absurd hlt (Nat.not_lt.mpr hb)
theorem cp_187 : callP 0 10 159 [] [] = some (187, [], []) := by decide +kernel
theorem cp_188 : callP 0 10 162 [] [] = some (188, [], []) := by decide +kernel
theorem cp_189 : callP 0 10 165 [] [] = some (189, [], []) := by decide +kernel
theorem cp_190 : callP 0 10 168 [] [] = some (190, [], []) := by decide +kernel
/-- from the entry, for every script of at most 260 ints, the law comes to its end with true -/
theorem whole_start {p : Program} {e : Env} {s : State} {m : MethodId} {below : List Frame} {meth : Method} {c : Code} (l : Launch) (hflags : l.flags = flags0) {b L : Nat} {xs : Nat → Int32} (hL : L ≤ 260) (C0 : lw_At p s m meth c b L xs) : W p l e room_1 s m #[Value.ref b] below meth c s.heap [] 0 0 (lw_Z below #[Value.ref b] s) (entryFrame m ([Value.ref b] : List Value).toArray 4) := by
  obtain ⟨hx, hb, hr, hml, hown, hts, hX, hbl, hlocks, hgv⟩ := id C0
  obtain ⟨D, cy, hWd⟩ := Wd_start hts hgv
  have hfl : l.stackTraces = false := by unfold Jvm.Launch.stackTraces; rw [hflags]; decide
  have htT : ∀ w ∈ TBL, w.before #[Value.ref b] s = true := fun w hw => hts w (tbl_in hw)
  have C : BC p s m #[Value.ref b] c s.heap.size 4 code D cy := ⟨hx, hb, hml, hown, htT, hWd⟩
  have hr2 : meth.sig.returnType = some .boolean := hr
  have hl := lv_entry ([.ref b]) (n := 4) (Nat.le_of_ble_eq_true rfl)
  rw [lg_entry_eq]
  generalize (lg_sl ([.ref b]) ++ List.replicate (4 - (lg_sl ([.ref b])).length) Slot.unset).toArray = ls at hl ⊢
  have hl : lv_has ls 4 [(0, .ref b)] := hl
  have ec : mMc 187 = 9336 ∧ mMc 188 = 5395 ∧ mMc 189 = 9295 ∧ mMc 190 = 6954 ∧ mMs 187 = 62216 ∧ mMs 188 = 50970 ∧ mMs 189 = 61970 ∧ mMs 190 = 47924 := by decide
  have eR : room_1.cells = 600074 ∧ room_1.slots = 7301550 ∧ rmB.cells = 560000 ∧ rmB.slots = 7000000 := ⟨rfl, rfl, rfl, rfl⟩
  have k0 : BX p l e room_1 s m #[Value.ref b] below meth c s.heap.size 4 cy D (ZQ below s s.heap.size 600074 7301550) 600074 7301550 0 [(0, .ref b)] [] [] := by
    refine x_met (op := 0) (i := 159) (mj := 187) (st0 := []) (as := []) (rest := []) (v := some (.int 1)) (h1 := []) C (M_187 hfl) cp_187 (Or.inl ⟨rfl, by decide +kernel⟩) (by decide) (by omega) (by omega) rfl ?_
    refine x_ifeq (off := 21) 24 C (by decide +kernel) (by decide) (fun h => absurd h (by decide)) (fun _ => ?_)
    refine x_met (op := 0) (i := 162) (mj := 188) (st0 := []) (as := []) (rest := []) (v := some (.int 1)) (h1 := []) C (M_188 hfl) cp_188 (Or.inl ⟨rfl, by decide +kernel⟩) (by decide) (by omega) (by omega) rfl ?_
    refine x_ifeq (off := 15) 24 C (by decide +kernel) (by decide) (fun h => absurd h (by decide)) (fun _ => ?_)
    refine x_met (op := 0) (i := 165) (mj := 189) (st0 := []) (as := []) (rest := []) (v := some (.int 1)) (h1 := []) C (M_189 hfl) cp_189 (Or.inl ⟨rfl, by decide +kernel⟩) (by decide) (by omega) (by omega) rfl ?_
    refine x_ifeq (off := 9) 24 C (by decide +kernel) (by decide) (fun h => absurd h (by decide)) (fun _ => ?_)
    refine x_met (op := 0) (i := 168) (mj := 190) (st0 := []) (as := []) (rest := []) (v := some (.int 1)) (h1 := []) C (M_190 hfl) cp_190 (Or.inl ⟨rfl, by decide +kernel⟩) (by decide) (by omega) (by omega) rfl ?_
    refine x_ifne (off := 5) 26 C (by decide +kernel) (by decide) (fun _ => ?_) (fun h => absurd h (by decide))
    intro H locs cells slots ls1 hP hS hl1 hc hs
    refine W_rb (R2 := rmB) (b2 := H.size) (mc2 := 560000) (ms2 := 7000000) (by decide) (by decide) (by omega) (by omega) hS.1 hS.2.2 (by omega) (by omega) (fun s2 hh hv => ?_)
    have C2 := BC_move C hh hv hS
    have hX2 : va_X b L xs s2 s2.heap := by
      rw [hh]
      exact va_X.moved (by rw [hv]; exact (State.WarmedH.refl s).alike) (hX.kept (hS.2.1 b hbl (Nat.not_le.mpr hbl)))
    have hbl2 : b < s2.heap.size := by rw [hh]; exact Nat.lt_of_lt_of_le hbl hS.1
    have k9 : W p l e rmB s2 m #[Value.ref b] below meth c s2.heap [] 0 0 (ZQ below s2 s2.heap.size 560000 7000000) (F0 m 26 ls1 []) :=
      obj_new (R := rmB) (j := 1) (pc := 26) (L' := [(1, .ref (s2.heap.size + 0)), (0, .ref b)]) C2 hfl hl1 (by decide +kernel) (by decide +kernel) (by decide +kernel) (by decide +kernel) (by decide) rfl (by decide) (by decide) (by decide)
        (fun H1 locs1 ls2 hP1 hS1 hl2 => law_2 C2 hfl hr2 hlocks hX2 hbl2 hL H1 locs1 301 8009 ls2 (by rw [fresh_M]; exact hP1) hS1 hl2 (by decide) (by decide))
    rw [hh] at k9
    exact k9
  have hP : va_P D vwC (wsOf s.heap.size cy []) s.heap := fun k q h => by simp [wsOf] at h
  have k1 := k0 s.heap [] 0 0 ls hP va_S.rf hl (by decide) (by decide)
  intro T hT X
  obtain ⟨t, st, h1⟩ := k1 T hT X
  exact ⟨t, st, ZQ_lw h1⟩
