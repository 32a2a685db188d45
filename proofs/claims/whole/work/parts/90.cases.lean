/-! ===== the law's cases ===== -/
section LAWC
variable {p : Program} {l0 : Launch} {e : Env} {s : State} {m : MethodId} {below : List Frame} {meth : Method} {c : Code} {b L : Nat} {xs : Nat → Int32} {D : va_G} {cy : Nat → ClassId}
variable {cells slots i : Nat} {l z : Sg}
theorem cpM {ix mj n k : Nat} {li : Nat × List Nat} {g : Sg} {st as rest : List Value} (hf : lk2 calL 10 ix = some ((mj, 1), li)) (hn : mNA mj = n + 1) (hk : st[n]? = some (.ref k)) (hk3 : k < 333) (htg : tagK k = mCls mj)
    (hb : ((1 % 3 == 1 && Nat.ble (mNA mj) st.length) && ((mHh mj).isEmpty && (Nat.ble (mNA mj) (mNL mj) && ((st.take (mNA mj)).all (fun v => v.category == 1) && Nat.ble ((st.drop (mNA mj)).map fun v => v.category).sum 8)))) = true)
    (ha : (st.take (mNA mj)).reverse = as) (hr : st.drop (mNA mj) = rest) : callP 1 10 ix st (heapOf g) = some (mj, as, rest) := by
  subst ha
  subst hr
  have hrcv : rcv (mNA mj) st (heapOf g) (mCls mj) = true := by
    rw [hn]
    simp only [rcv, hk]
    rw [heapOf_at hk3]
    exact beq_iff_eq.mpr htg
  exact callP_s hf (Or.inr hrcv) hb
theorem law_0 (C : LC p s m meth c b L xs D cy) (hfl : l0.stackTraces = false) (hL : L ≤ 3584) (hin : i + 7 ≤ L) (hcl : cells + 7 ≤ 601024) (hsl : slots + 42 ≤ 7293034) (hR : RR l z) (K : ∀ l' z', RR l' z' → LG p l0 e s m below meth c b D cy (cells + 7) (slots + 42) 2321 (mlA i) [] (GG false l' z')) : LG p l0 e s m below meth c b D cy cells slots 200 (mlA i) [] (GG false l z) := by
  obtain ⟨n, t, s0, h, hs, hk⟩ := hR
  have hS := sim_say (a := xs (i + 1)) (b := xs (i + 2)) (c := xs (i + 3)) h hs hk
  have hE := Cx (z := z) (e_182 (n := n) (l := l) (P := fun o l' => o = .inl (some (.int (wv 182 (f_31 n (xs (i + 1)) (xs (i + 2)) (xs (i + 3)) l)).1)) ∧ l' = (wv 182 (f_31 n (xs (i + 1)) (xs (i + 2)) (xs (i + 3)) l)).2) (x0 := xs (i + 1)) (x1 := xs (i + 2)) (x2 := xs (i + 3)) (RX_n h) h.ci ⟨rfl, rfl⟩)
  generalize wv 182 (f_31 n (xs (i + 1)) (xs (i + 2)) (xs (i + 3)) l) = w at hS hE
  have hM := c_112 (n := n) (z := z) (P := fun o z' => o = .inl none ∧ z' = sSay z n (xs (i + 1)) (xs (i + 2)) (xs (i + 3))) (RX_n h) h.cz.1 ⟨rfl, rfl⟩
  generalize sSay z n (xs (i + 1)) (xs (i + 2)) (xs (i + 3)) = r at hS hM
  refine Lal (j := 1) (r := 0) C (List.mem_of_getElem? (i := 0) rfl) (by decide +kernel) ?_
  refine Lld (i := i) (k := 1) (j := 1) C (List.mem_of_getElem? (i := 3) rfl) (by decide +kernel) (by decide) (by omega) hL ?_
  refine Lld (i := i) (k := 2) (j := 2) C (List.mem_of_getElem? (i := 3) rfl) (by decide +kernel) (by decide) (by omega) hL ?_
  refine Lld (i := i) (k := 3) (j := 3) C (List.mem_of_getElem? (i := 3) rfl) (by decide +kernel) (by decide) (by omega) hL ?_
  refine Lwrap (ix := 131) (rest := []) C hfl hE (li := (lk2 calL 10 131).get!.2) (by decide +kernel) ⟨rfl, Nat.le_of_ble_eq_true rfl⟩ ⟨_, _, rfl⟩ rfl rfl (Nat.zero_le _) (by decide +kernel) ⟨Nat.le_of_ble_eq_true rfl, Nat.le_of_ble_eq_true rfl⟩ (show cells + 4 ≤ 601024 by omega) (show slots + 24 ≤ 7293034 by omega) ?_
  refine Lst5 C (by decide +kernel) ?_
  refine Lal (j := 2) (r := 292) C (List.mem_of_getElem? (i := 2) rfl) (by decide +kernel) ?_
  refine Lld (i := i) (k := 1) (j := 1) C (List.mem_of_getElem? (i := 4) rfl) (by decide +kernel) (by decide) (by omega) hL ?_
  refine Lld (i := i) (k := 2) (j := 2) C (List.mem_of_getElem? (i := 4) rfl) (by decide +kernel) (by decide) (by omega) hL ?_
  refine Lld (i := i) (k := 3) (j := 3) C (List.mem_of_getElem? (i := 4) rfl) (by decide +kernel) (by decide) (by omega) hL ?_
  refine Lcall (ix := 136) (rest := []) C hfl (Cm hM) (cpM (k := 292) (n := 3) (li := (lk2 calL 10 136).get!.2) (by decide +kernel) rfl rfl (by decide) rfl rfl rfl rfl) (Or.inr (Or.inl ⟨rfl, by decide +kernel⟩)) ⟨Nat.le_of_ble_eq_true rfl, Nat.le_of_ble_eq_true rfl⟩ (show cells + 4 ≤ 601024 by omega) (show slots + 24 ≤ 7293034 by omega) ?_
  refine Lthr (k := w.1) C hfl (List.mem_of_getElem? (i := 0) rfl) hS.1 (by decide +kernel) (List.mem_of_getElem? (i := 2) rfl) (show cells + 4 ≤ 601024 by omega) (show slots + 24 ≤ 7293034 by omega) ?_
  refine Lgo (off := 2064) (tgt := 2321) C (by decide +kernel) (by decide) (LdB ?_)
  exact Lwid (show cells + 4 ≤ cells + 7 by omega) (show slots + 24 ≤ slots + 42 by omega) (K _ _ hS.2)
theorem law_1 (C : LC p s m meth c b L xs D cy) (hfl : l0.stackTraces = false) (hL : L ≤ 3584) (hin : i + 7 ≤ L) (hcl : cells + 7 ≤ 601024) (hsl : slots + 42 ≤ 7293034) (hR : RR l z) (K : ∀ l' z', RR l' z' → LG p l0 e s m below meth c b D cy (cells + 7) (slots + 42) 2321 (mlA i) [] (GG false l' z')) : LG p l0 e s m below meth c b D cy cells slots 260 (mlA i) [] (GG false l z) := by
  obtain ⟨n, t, s0, h, hs, hk⟩ := hR
  have hS := sim_menu (a := xs (i + 1)) h hs hk
  have hE := Cx (z := z) (e_183 (n := n) (l := l) (P := fun o l' => o = .inl (some (.int (wv 183 (f_32 n (xs (i + 1)) l)).1)) ∧ l' = (wv 183 (f_32 n (xs (i + 1)) l)).2) (x0 := xs (i + 1)) (RX_n h) h.ci ⟨rfl, rfl⟩)
  generalize wv 183 (f_32 n (xs (i + 1)) l) = w at hS hE
  have hM := c_113 (n := n) (z := z) (P := fun o z' => o = .inl none ∧ z' = sMenu z n 2 (xs (i + 1))) (RX_n h) h.cz.1 ⟨rfl, rfl⟩
  generalize sMenu z n 2 (xs (i + 1)) = r at hS hM
  refine Lal (j := 1) (r := 0) C (List.mem_of_getElem? (i := 0) rfl) (by decide +kernel) ?_
  refine Lld (i := i) (k := 1) (j := 1) C (List.mem_of_getElem? (i := 3) rfl) (by decide +kernel) (by decide) (by omega) hL ?_
  refine Lwrap (ix := 141) (rest := []) C hfl hE (li := (lk2 calL 10 141).get!.2) (by decide +kernel) ⟨rfl, Nat.le_of_ble_eq_true rfl⟩ ⟨_, _, rfl⟩ rfl rfl (Nat.zero_le _) (by decide +kernel) ⟨Nat.le_of_ble_eq_true rfl, Nat.le_of_ble_eq_true rfl⟩ (show cells + 2 ≤ 601024 by omega) (show slots + 12 ≤ 7293034 by omega) ?_
  refine Lst5 C (by decide +kernel) ?_
  refine Lal (j := 2) (r := 292) C (List.mem_of_getElem? (i := 2) rfl) (by decide +kernel) ?_
  refine Lld (i := i) (k := 1) (j := 1) C (List.mem_of_getElem? (i := 4) rfl) (by decide +kernel) (by decide) (by omega) hL ?_
  refine Lcall (ix := 144) (rest := []) C hfl (Cm hM) (cpM (k := 292) (n := 1) (li := (lk2 calL 10 144).get!.2) (by decide +kernel) rfl rfl (by decide) rfl rfl rfl rfl) (Or.inr (Or.inl ⟨rfl, by decide +kernel⟩)) ⟨Nat.le_of_ble_eq_true rfl, Nat.le_of_ble_eq_true rfl⟩ (show cells + 2 ≤ 601024 by omega) (show slots + 12 ≤ 7293034 by omega) ?_
  refine Lthr (k := w.1) C hfl (List.mem_of_getElem? (i := 0) rfl) hS.1 (by decide +kernel) (List.mem_of_getElem? (i := 2) rfl) (show cells + 2 ≤ 601024 by omega) (show slots + 12 ≤ 7293034 by omega) ?_
  refine Lgo (off := 2028) (tgt := 2321) C (by decide +kernel) (by decide) (LdB ?_)
  exact Lwid (show cells + 2 ≤ cells + 7 by omega) (show slots + 12 ≤ slots + 42 by omega) (K _ _ hS.2)
theorem law_2 (C : LC p s m meth c b L xs D cy) (hfl : l0.stackTraces = false) (hL : L ≤ 3584) (hin : i + 7 ≤ L) (hcl : cells + 7 ≤ 601024) (hsl : slots + 42 ≤ 7293034) (hR : RR l z) (K : ∀ l' z', RR l' z' → LG p l0 e s m below meth c b D cy (cells + 7) (slots + 42) 2321 (mlA i) [] (GG false l' z')) : LG p l0 e s m below meth c b D cy cells slots 296 (mlA i) [] (GG false l z) := by
  obtain ⟨n, t, s0, h, hs, hk⟩ := hR
  have hS := sim_key (a := xs (i + 1)) (b := xs (i + 2)) (c := xs (i + 3)) h hs hk
  have hE := Cx (z := z) (e_184 (n := n) (l := l) (P := fun o l' => o = .inl (some (.int (wo 184 (f_33 n (xs (i + 1)) (xs (i + 2)) (xs (i + 3)) l)).1)) ∧ l' = (wo 184 (f_33 n (xs (i + 1)) (xs (i + 2)) (xs (i + 3)) l)).2) (x0 := xs (i + 1)) (x1 := xs (i + 2)) (x2 := xs (i + 3)) (RX_n h) h.ci ⟨rfl, rfl⟩)
  generalize wo 184 (f_33 n (xs (i + 1)) (xs (i + 2)) (xs (i + 3)) l) = w at hS hE
  have hM := e_115 (n := n) (t := t) (l := z) (P := fun o z' => o = .inl (some (.int (f_115 n t (xs (i + 1)) (xs (i + 2)) (xs (i + 3)) z).1)) ∧ z' = (f_115 n t (xs (i + 1)) (xs (i + 2)) (xs (i + 3)) z).2) (RX_n h) h.1.2.1 h.cz (fun m hm => (GR_n h.1 hm).2.2.2.2.2.2.2.2.2.1) ⟨rfl, rfl⟩
  generalize f_115 n t (xs (i + 1)) (xs (i + 2)) (xs (i + 3)) z = r at hS hM
  refine Lal (j := 1) (r := 0) C (List.mem_of_getElem? (i := 0) rfl) (by decide +kernel) ?_
  refine Lld (i := i) (k := 1) (j := 1) C (List.mem_of_getElem? (i := 3) rfl) (by decide +kernel) (by decide) (by omega) hL ?_
  refine Lld (i := i) (k := 2) (j := 2) C (List.mem_of_getElem? (i := 3) rfl) (by decide +kernel) (by decide) (by omega) hL ?_
  refine Lld (i := i) (k := 3) (j := 3) C (List.mem_of_getElem? (i := 3) rfl) (by decide +kernel) (by decide) (by omega) hL ?_
  refine Lal (j := 3) (r := 332) C (List.mem_of_getElem? (i := 2) rfl) (by decide +kernel) ?_
  refine Lwrap (ix := 145) (rest := []) C hfl hE (li := (lk2 calL 10 145).get!.2) (by decide +kernel) ⟨rfl, Nat.le_of_ble_eq_true rfl⟩ ⟨_, _, rfl⟩ rfl rfl (Nat.zero_le _) (by decide +kernel) ⟨Nat.le_of_ble_eq_true rfl, Nat.le_of_ble_eq_true rfl⟩ (show cells + 5 ≤ 601024 by omega) (show slots + 30 ≤ 7293034 by omega) ?_
  refine Lst5 C (by decide +kernel) ?_
  refine Lal (j := 2) (r := 292) C (List.mem_of_getElem? (i := 2) rfl) (by decide +kernel) ?_
  refine Lld (i := i) (k := 1) (j := 1) C (List.mem_of_getElem? (i := 4) rfl) (by decide +kernel) (by decide) (by omega) hL ?_
  refine Lld (i := i) (k := 2) (j := 2) C (List.mem_of_getElem? (i := 4) rfl) (by decide +kernel) (by decide) (by omega) hL ?_
  refine Lld (i := i) (k := 3) (j := 3) C (List.mem_of_getElem? (i := 4) rfl) (by decide +kernel) (by decide) (by omega) hL ?_
  refine Lcall (ix := 148) (rest := []) C hfl (Cm hM) (cpM (k := 292) (n := 3) (li := (lk2 calL 10 148).get!.2) (by decide +kernel) rfl rfl (by decide) rfl rfl rfl rfl) (Or.inr (Or.inl ⟨rfl, by decide +kernel⟩)) ⟨Nat.le_of_ble_eq_true rfl, Nat.le_of_ble_eq_true rfl⟩ (show cells + 5 ≤ 601024 by omega) (show slots + 30 ≤ 7293034 by omega) ?_
  refine Lst6 C (by decide +kernel) ?_
  refine Lthr (k := w.1) C hfl (List.mem_of_getElem? (i := 1) rfl) hS.1 (by decide +kernel) (List.mem_of_getElem? (i := 3) rfl) (show cells + 5 ≤ 601024 by omega) (show slots + 30 ≤ 7293034 by omega) ?_
  refine Lout C hS.2.1 (by decide +kernel) ?_
  refine Lgo (off := 1948) (tgt := 2321) C (by decide +kernel) (by decide) (LdC ?_)
  exact Lwid (show cells + 5 ≤ cells + 7 by omega) (show slots + 30 ≤ slots + 42 by omega) (K _ _ hS.2.2)
theorem law_3 (C : LC p s m meth c b L xs D cy) (hfl : l0.stackTraces = false) (hL : L ≤ 3584) (hin : i + 7 ≤ L) (hcl : cells + 7 ≤ 601024) (hsl : slots + 42 ≤ 7293034) (hR : RR l z) (K : ∀ l' z', RR l' z' → LG p l0 e s m below meth c b D cy (cells + 7) (slots + 42) 2321 (mlA i) [] (GG false l' z')) : LG p l0 e s m below meth c b D cy cells slots 376 (mlA i) [] (GG false l z) := by
  obtain ⟨n, t, s0, h, hs, hk⟩ := hR
  have hS := sim_input (a := xs (i + 1)) (b := xs (i + 2)) (c := xs (i + 3)) (d := xs (i + 4)) h hs hk
  have hE := Cx (z := z) (e_185 (n := n) (l := l) (P := fun o l' => o = .inl (some (.int (wv 185 (f_34 n (xs (i + 1)) (xs (i + 2)) (xs (i + 3)) (xs (i + 4)) l)).1)) ∧ l' = (wv 185 (f_34 n (xs (i + 1)) (xs (i + 2)) (xs (i + 3)) (xs (i + 4)) l)).2) (x0 := xs (i + 1)) (x1 := xs (i + 2)) (x2 := xs (i + 3)) (x3 := xs (i + 4)) (RX_n h) h.ci ⟨rfl, rfl⟩)
  generalize wv 185 (f_34 n (xs (i + 1)) (xs (i + 2)) (xs (i + 3)) (xs (i + 4)) l) = w at hS hE
  have hM := c_116 (n := n) (z := z) (P := fun o z' => o = .inl none ∧ z' = sInput z n (xs (i + 1)) (xs (i + 2)) (xs (i + 3)) (xs (i + 4))) (RX_n h) h.cz.1 ⟨rfl, rfl⟩
  generalize sInput z n (xs (i + 1)) (xs (i + 2)) (xs (i + 3)) (xs (i + 4)) = r at hS hM
  refine Lal (j := 1) (r := 0) C (List.mem_of_getElem? (i := 0) rfl) (by decide +kernel) ?_
  refine Lld (i := i) (k := 1) (j := 1) C (List.mem_of_getElem? (i := 3) rfl) (by decide +kernel) (by decide) (by omega) hL ?_
  refine Lld (i := i) (k := 2) (j := 2) C (List.mem_of_getElem? (i := 3) rfl) (by decide +kernel) (by decide) (by omega) hL ?_
  refine Lld (i := i) (k := 3) (j := 3) C (List.mem_of_getElem? (i := 3) rfl) (by decide +kernel) (by decide) (by omega) hL ?_
  refine Lld (i := i) (k := 4) (j := 4) C (List.mem_of_getElem? (i := 3) rfl) (by decide +kernel) (by decide) (by omega) hL ?_
  refine Lwrap (ix := 149) (rest := []) C hfl hE (li := (lk2 calL 10 149).get!.2) (by decide +kernel) ⟨rfl, Nat.le_of_ble_eq_true rfl⟩ ⟨_, _, rfl⟩ rfl rfl (Nat.zero_le _) (by decide +kernel) ⟨Nat.le_of_ble_eq_true rfl, Nat.le_of_ble_eq_true rfl⟩ (show cells + 5 ≤ 601024 by omega) (show slots + 30 ≤ 7293034 by omega) ?_
  refine Lst5 C (by decide +kernel) ?_
  refine Lal (j := 2) (r := 292) C (List.mem_of_getElem? (i := 2) rfl) (by decide +kernel) ?_
  refine Lld (i := i) (k := 1) (j := 1) C (List.mem_of_getElem? (i := 4) rfl) (by decide +kernel) (by decide) (by omega) hL ?_
  refine Lld (i := i) (k := 2) (j := 2) C (List.mem_of_getElem? (i := 4) rfl) (by decide +kernel) (by decide) (by omega) hL ?_
  refine Lld (i := i) (k := 3) (j := 3) C (List.mem_of_getElem? (i := 4) rfl) (by decide +kernel) (by decide) (by omega) hL ?_
  refine Lld (i := i) (k := 4) (j := 4) C (List.mem_of_getElem? (i := 4) rfl) (by decide +kernel) (by decide) (by omega) hL ?_
  refine Lcall (ix := 152) (rest := []) C hfl (Cm hM) (cpM (k := 292) (n := 4) (li := (lk2 calL 10 152).get!.2) (by decide +kernel) rfl rfl (by decide) rfl rfl rfl rfl) (Or.inr (Or.inl ⟨rfl, by decide +kernel⟩)) ⟨Nat.le_of_ble_eq_true rfl, Nat.le_of_ble_eq_true rfl⟩ (show cells + 5 ≤ 601024 by omega) (show slots + 30 ≤ 7293034 by omega) ?_
  refine Lthr (k := w.1) C hfl (List.mem_of_getElem? (i := 0) rfl) hS.1 (by decide +kernel) (List.mem_of_getElem? (i := 2) rfl) (show cells + 5 ≤ 601024 by omega) (show slots + 30 ≤ 7293034 by omega) ?_
  refine Lgo (off := 1876) (tgt := 2321) C (by decide +kernel) (by decide) (LdB ?_)
  exact Lwid (show cells + 5 ≤ cells + 7 by omega) (show slots + 30 ≤ slots + 42 by omega) (K _ _ hS.2)
theorem law_4 (C : LC p s m meth c b L xs D cy) (hfl : l0.stackTraces = false) (hL : L ≤ 3584) (hin : i + 7 ≤ L) (hcl : cells + 7 ≤ 601024) (hsl : slots + 42 ≤ 7293034) (hR : RR l z) (K : ∀ l' z', RR l' z' → LG p l0 e s m below meth c b D cy (cells + 7) (slots + 42) 2321 (mlA i) [] (GG false l' z')) : LG p l0 e s m below meth c b D cy cells slots 448 (mlA i) [] (GG false l z) := by
  obtain ⟨n, t, s0, h, hs, hk⟩ := hR
  have hS := sim_times (a := xs (i + 1)) (b := xs (i + 2)) (c := xs (i + 3)) (d := xs (i + 4)) (e := xs (i + 5)) h hs hk
  have hE := Cx (z := z) (e_186 (n := n) (l := l) (P := fun o l' => o = .inl (some (.int (wv 186 (f_35 n (xs (i + 1)) (xs (i + 2)) (xs (i + 3)) (xs (i + 4)) (xs (i + 5)) l)).1)) ∧ l' = (wv 186 (f_35 n (xs (i + 1)) (xs (i + 2)) (xs (i + 3)) (xs (i + 4)) (xs (i + 5)) l)).2) (x0 := xs (i + 1)) (x1 := xs (i + 2)) (x2 := xs (i + 3)) (x3 := xs (i + 4)) (x4 := xs (i + 5)) (RX_n h) h.ci ⟨rfl, rfl⟩)
  generalize wv 186 (f_35 n (xs (i + 1)) (xs (i + 2)) (xs (i + 3)) (xs (i + 4)) (xs (i + 5)) l) = w at hS hE
  have hM := e_117 (n := n) (t := t) (l := z) (P := fun o z' => o = .inl none ∧ z' = f_117 n t (xs (i + 1)) (xs (i + 2)) (xs (i + 3)) (xs (i + 4)) (xs (i + 5)) z) (RX_n h) h.1.2.1 h.cz ⟨rfl, rfl⟩
  generalize f_117 n t (xs (i + 1)) (xs (i + 2)) (xs (i + 3)) (xs (i + 4)) (xs (i + 5)) z = r at hS hM
  refine Lal (j := 1) (r := 0) C (List.mem_of_getElem? (i := 0) rfl) (by decide +kernel) ?_
  refine Lld (i := i) (k := 1) (j := 1) C (List.mem_of_getElem? (i := 3) rfl) (by decide +kernel) (by decide) (by omega) hL ?_
  refine Lld (i := i) (k := 2) (j := 2) C (List.mem_of_getElem? (i := 3) rfl) (by decide +kernel) (by decide) (by omega) hL ?_
  refine Lld (i := i) (k := 3) (j := 3) C (List.mem_of_getElem? (i := 3) rfl) (by decide +kernel) (by decide) (by omega) hL ?_
  refine Lld (i := i) (k := 4) (j := 4) C (List.mem_of_getElem? (i := 3) rfl) (by decide +kernel) (by decide) (by omega) hL ?_
  refine Lld (i := i) (k := 5) (j := 5) C (List.mem_of_getElem? (i := 3) rfl) (by decide +kernel) (by decide) (by omega) hL ?_
  refine Lwrap (ix := 153) (rest := []) C hfl hE (li := (lk2 calL 10 153).get!.2) (by decide +kernel) ⟨rfl, Nat.le_of_ble_eq_true rfl⟩ ⟨_, _, rfl⟩ rfl rfl (Nat.zero_le _) (by decide +kernel) ⟨Nat.le_of_ble_eq_true rfl, Nat.le_of_ble_eq_true rfl⟩ (show cells + 7 ≤ 601024 by omega) (show slots + 42 ≤ 7293034 by omega) ?_
  refine Lst5 C (by decide +kernel) ?_
  refine Lal (j := 2) (r := 292) C (List.mem_of_getElem? (i := 2) rfl) (by decide +kernel) ?_
  refine Lld (i := i) (k := 1) (j := 1) C (List.mem_of_getElem? (i := 4) rfl) (by decide +kernel) (by decide) (by omega) hL ?_
  refine Lld (i := i) (k := 2) (j := 2) C (List.mem_of_getElem? (i := 4) rfl) (by decide +kernel) (by decide) (by omega) hL ?_
  refine Lld (i := i) (k := 3) (j := 3) C (List.mem_of_getElem? (i := 4) rfl) (by decide +kernel) (by decide) (by omega) hL ?_
  refine Lld (i := i) (k := 4) (j := 4) C (List.mem_of_getElem? (i := 4) rfl) (by decide +kernel) (by decide) (by omega) hL ?_
  refine Lld (i := i) (k := 5) (j := 5) C (List.mem_of_getElem? (i := 4) rfl) (by decide +kernel) (by decide) (by omega) hL ?_
  refine Lcall (ix := 156) (rest := []) C hfl (Cm hM) (cpM (k := 292) (n := 5) (li := (lk2 calL 10 156).get!.2) (by decide +kernel) rfl rfl (by decide) rfl rfl rfl rfl) (Or.inr (Or.inl ⟨rfl, by decide +kernel⟩)) ⟨Nat.le_of_ble_eq_true rfl, Nat.le_of_ble_eq_true rfl⟩ (show cells + 7 ≤ 601024 by omega) (show slots + 42 ≤ 7293034 by omega) ?_
  refine Lthr (k := w.1) C hfl (List.mem_of_getElem? (i := 0) rfl) hS.1 (by decide +kernel) (List.mem_of_getElem? (i := 2) rfl) (show cells + 7 ≤ 601024 by omega) (show slots + 42 ≤ 7293034 by omega) ?_
  refine Lgo (off := 1792) (tgt := 2321) C (by decide +kernel) (by decide) (LdB ?_)
  exact Lwid (show cells + 7 ≤ cells + 7 by omega) (show slots + 42 ≤ slots + 42 by omega) (K _ _ hS.2)
theorem law_5 (C : LC p s m meth c b L xs D cy) (hfl : l0.stackTraces = false) (hL : L ≤ 3584) (hin : i + 7 ≤ L) (hcl : cells + 7 ≤ 601024) (hsl : slots + 42 ≤ 7293034) (hR : RR l z) (K : ∀ l' z', RR l' z' → LG p l0 e s m below meth c b D cy (cells + 7) (slots + 42) 2321 (mlA i) [] (GG false l' z')) : LG p l0 e s m below meth c b D cy cells slots 532 (mlA i) [] (GG false l z) := by
  obtain ⟨n, t, s0, h, hs, hk⟩ := hR
  have hS := sim_branch (a := xs (i + 1)) (b := xs (i + 2)) (c := xs (i + 3)) (d := xs (i + 4)) (e := xs (i + 5)) (f := xs (i + 6)) h hs hk
  have hE := Cx (z := z) (e_187 (n := n) (l := l) (P := fun o l' => o = .inl (some (.int (wv 187 (f_36 n (xs (i + 1)) (xs (i + 2)) (xs (i + 3)) (xs (i + 4)) (xs (i + 5)) (xs (i + 6)) l)).1)) ∧ l' = (wv 187 (f_36 n (xs (i + 1)) (xs (i + 2)) (xs (i + 3)) (xs (i + 4)) (xs (i + 5)) (xs (i + 6)) l)).2) (x0 := xs (i + 1)) (x1 := xs (i + 2)) (x2 := xs (i + 3)) (x3 := xs (i + 4)) (x4 := xs (i + 5)) (x5 := xs (i + 6)) (RX_n h) h.ci ⟨rfl, rfl⟩)
  generalize wv 187 (f_36 n (xs (i + 1)) (xs (i + 2)) (xs (i + 3)) (xs (i + 4)) (xs (i + 5)) (xs (i + 6)) l) = w at hS hE
  have hM := c_118 (n := n) (z := z) (P := fun o z' => o = .inl none ∧ z' = sBranch z n (xs (i + 1)) (xs (i + 2)) (xs (i + 3)) (xs (i + 4)) (xs (i + 5)) (xs (i + 6))) (RX_n h) h.cz.1 ⟨rfl, rfl⟩
  generalize sBranch z n (xs (i + 1)) (xs (i + 2)) (xs (i + 3)) (xs (i + 4)) (xs (i + 5)) (xs (i + 6)) = r at hS hM
  refine Lal (j := 1) (r := 0) C (List.mem_of_getElem? (i := 0) rfl) (by decide +kernel) ?_
  refine Lld (i := i) (k := 1) (j := 1) C (List.mem_of_getElem? (i := 3) rfl) (by decide +kernel) (by decide) (by omega) hL ?_
  refine Lld (i := i) (k := 2) (j := 2) C (List.mem_of_getElem? (i := 3) rfl) (by decide +kernel) (by decide) (by omega) hL ?_
  refine Lld (i := i) (k := 3) (j := 3) C (List.mem_of_getElem? (i := 3) rfl) (by decide +kernel) (by decide) (by omega) hL ?_
  refine Lld (i := i) (k := 4) (j := 4) C (List.mem_of_getElem? (i := 3) rfl) (by decide +kernel) (by decide) (by omega) hL ?_
  refine Lld (i := i) (k := 5) (j := 5) C (List.mem_of_getElem? (i := 3) rfl) (by decide +kernel) (by decide) (by omega) hL ?_
  refine Lld6 (i := i) C (List.mem_of_getElem? (i := 3) rfl) (by decide +kernel) (by omega) hL ?_
  refine Lwrap (ix := 157) (rest := []) C hfl hE (li := (lk2 calL 10 157).get!.2) (by decide +kernel) ⟨rfl, Nat.le_of_ble_eq_true rfl⟩ ⟨_, _, rfl⟩ rfl rfl (Nat.zero_le _) (by decide +kernel) ⟨Nat.le_of_ble_eq_true rfl, Nat.le_of_ble_eq_true rfl⟩ (show cells + 7 ≤ 601024 by omega) (show slots + 42 ≤ 7293034 by omega) ?_
  refine Lst5 C (by decide +kernel) ?_
  refine Lal (j := 2) (r := 292) C (List.mem_of_getElem? (i := 2) rfl) (by decide +kernel) ?_
  refine Lld (i := i) (k := 1) (j := 1) C (List.mem_of_getElem? (i := 4) rfl) (by decide +kernel) (by decide) (by omega) hL ?_
  refine Lld (i := i) (k := 2) (j := 2) C (List.mem_of_getElem? (i := 4) rfl) (by decide +kernel) (by decide) (by omega) hL ?_
  refine Lld (i := i) (k := 3) (j := 3) C (List.mem_of_getElem? (i := 4) rfl) (by decide +kernel) (by decide) (by omega) hL ?_
  refine Lld (i := i) (k := 4) (j := 4) C (List.mem_of_getElem? (i := 4) rfl) (by decide +kernel) (by decide) (by omega) hL ?_
  refine Lld (i := i) (k := 5) (j := 5) C (List.mem_of_getElem? (i := 4) rfl) (by decide +kernel) (by decide) (by omega) hL ?_
  refine Lld6 (i := i) C (List.mem_of_getElem? (i := 4) rfl) (by decide +kernel) (by omega) hL ?_
  refine Lcall (ix := 160) (rest := []) C hfl (Cm hM) (cpM (k := 292) (n := 6) (li := (lk2 calL 10 160).get!.2) (by decide +kernel) rfl rfl (by decide) rfl rfl rfl rfl) (Or.inr (Or.inl ⟨rfl, by decide +kernel⟩)) ⟨Nat.le_of_ble_eq_true rfl, Nat.le_of_ble_eq_true rfl⟩ (show cells + 7 ≤ 601024 by omega) (show slots + 42 ≤ 7293034 by omega) ?_
  refine Lthr (k := w.1) C hfl (List.mem_of_getElem? (i := 0) rfl) hS.1 (by decide +kernel) (List.mem_of_getElem? (i := 2) rfl) (show cells + 7 ≤ 601024 by omega) (show slots + 42 ≤ 7293034 by omega) ?_
  refine Lgo (off := 1694) (tgt := 2321) C (by decide +kernel) (by decide) (LdB ?_)
  exact Lwid (show cells + 7 ≤ cells + 7 by omega) (show slots + 42 ≤ slots + 42 by omega) (K _ _ hS.2)
theorem law_6 (C : LC p s m meth c b L xs D cy) (hfl : l0.stackTraces = false) (hL : L ≤ 3584) (hin : i + 7 ≤ L) (hcl : cells + 7 ≤ 601024) (hsl : slots + 42 ≤ 7293034) (hR : RR l z) (K : ∀ l' z', RR l' z' → LG p l0 e s m below meth c b D cy (cells + 7) (slots + 42) 2321 (mlA i) [] (GG false l' z')) : LG p l0 e s m below meth c b D cy cells slots 630 (mlA i) [] (GG false l z) := by
  obtain ⟨n, t, s0, h, hs, hk⟩ := hR
  have hS := sim_sub (a := xs (i + 1)) (b := xs (i + 2)) (c := xs (i + 3)) h hs hk
  have hE := Cx (z := z) (e_188 (n := n) (l := l) (P := fun o l' => o = .inl (some (.int (wv 188 (f_37 n (xs (i + 1)) (xs (i + 2)) (xs (i + 3)) l)).1)) ∧ l' = (wv 188 (f_37 n (xs (i + 1)) (xs (i + 2)) (xs (i + 3)) l)).2) (x0 := xs (i + 1)) (x1 := xs (i + 2)) (x2 := xs (i + 3)) (RX_n h) h.ci ⟨rfl, rfl⟩)
  generalize wv 188 (f_37 n (xs (i + 1)) (xs (i + 2)) (xs (i + 3)) l) = w at hS hE
  have hM := c_119 (n := n) (z := z) (P := fun o z' => o = .inl none ∧ z' = sSub z n (xs (i + 1)) (xs (i + 2)) (xs (i + 3))) (RX_n h) h.cz.1 ⟨rfl, rfl⟩
  generalize sSub z n (xs (i + 1)) (xs (i + 2)) (xs (i + 3)) = r at hS hM
  refine Lal (j := 1) (r := 0) C (List.mem_of_getElem? (i := 0) rfl) (by decide +kernel) ?_
  refine Lld (i := i) (k := 1) (j := 1) C (List.mem_of_getElem? (i := 3) rfl) (by decide +kernel) (by decide) (by omega) hL ?_
  refine Lld (i := i) (k := 2) (j := 2) C (List.mem_of_getElem? (i := 3) rfl) (by decide +kernel) (by decide) (by omega) hL ?_
  refine Lld (i := i) (k := 3) (j := 3) C (List.mem_of_getElem? (i := 3) rfl) (by decide +kernel) (by decide) (by omega) hL ?_
  refine Lwrap (ix := 161) (rest := []) C hfl hE (li := (lk2 calL 10 161).get!.2) (by decide +kernel) ⟨rfl, Nat.le_of_ble_eq_true rfl⟩ ⟨_, _, rfl⟩ rfl rfl (Nat.zero_le _) (by decide +kernel) ⟨Nat.le_of_ble_eq_true rfl, Nat.le_of_ble_eq_true rfl⟩ (show cells + 4 ≤ 601024 by omega) (show slots + 24 ≤ 7293034 by omega) ?_
  refine Lst5 C (by decide +kernel) ?_
  refine Lal (j := 2) (r := 292) C (List.mem_of_getElem? (i := 2) rfl) (by decide +kernel) ?_
  refine Lld (i := i) (k := 1) (j := 1) C (List.mem_of_getElem? (i := 4) rfl) (by decide +kernel) (by decide) (by omega) hL ?_
  refine Lld (i := i) (k := 2) (j := 2) C (List.mem_of_getElem? (i := 4) rfl) (by decide +kernel) (by decide) (by omega) hL ?_
  refine Lld (i := i) (k := 3) (j := 3) C (List.mem_of_getElem? (i := 4) rfl) (by decide +kernel) (by decide) (by omega) hL ?_
  refine Lcall (ix := 163) (rest := []) C hfl (Cm hM) (cpM (k := 292) (n := 3) (li := (lk2 calL 10 163).get!.2) (by decide +kernel) rfl rfl (by decide) rfl rfl rfl rfl) (Or.inr (Or.inl ⟨rfl, by decide +kernel⟩)) ⟨Nat.le_of_ble_eq_true rfl, Nat.le_of_ble_eq_true rfl⟩ (show cells + 4 ≤ 601024 by omega) (show slots + 24 ≤ 7293034 by omega) ?_
  refine Lthr (k := w.1) C hfl (List.mem_of_getElem? (i := 0) rfl) hS.1 (by decide +kernel) (List.mem_of_getElem? (i := 2) rfl) (show cells + 4 ≤ 601024 by omega) (show slots + 24 ≤ 7293034 by omega) ?_
  refine Lgo (off := 1634) (tgt := 2321) C (by decide +kernel) (by decide) (LdB ?_)
  exact Lwid (show cells + 4 ≤ cells + 7 by omega) (show slots + 24 ≤ slots + 42 by omega) (K _ _ hS.2)
theorem law_7 (C : LC p s m meth c b L xs D cy) (hfl : l0.stackTraces = false) (hL : L ≤ 3584) (hin : i + 7 ≤ L) (hcl : cells + 7 ≤ 601024) (hsl : slots + 42 ≤ 7293034) (hR : RR l z) (K : ∀ l' z', RR l' z' → LG p l0 e s m below meth c b D cy (cells + 7) (slots + 42) 2321 (mlA i) [] (GG false l' z')) : LG p l0 e s m below meth c b D cy cells slots 690 (mlA i) [] (GG false l z) := by
  obtain ⟨n, t, s0, h, hs, hk⟩ := hR
  have hS := sim_back (a := xs (i + 1)) h hs hk
  have hE := Cx (z := z) (e_189 (n := n) (l := l) (P := fun o l' => o = .inl (some (.int (wv 189 (f_38 n (xs (i + 1)) l)).1)) ∧ l' = (wv 189 (f_38 n (xs (i + 1)) l)).2) (x0 := xs (i + 1)) (RX_n h) h.ci ⟨rfl, rfl⟩)
  generalize wv 189 (f_38 n (xs (i + 1)) l) = w at hS hE
  have hM := c_120 (n := n) (z := z) (P := fun o z' => o = .inl none ∧ z' = sMenu z n 6 (xs (i + 1))) (RX_n h) h.cz.1 ⟨rfl, rfl⟩
  generalize sMenu z n 6 (xs (i + 1)) = r at hS hM
  refine Lal (j := 1) (r := 0) C (List.mem_of_getElem? (i := 0) rfl) (by decide +kernel) ?_
  refine Lld (i := i) (k := 1) (j := 1) C (List.mem_of_getElem? (i := 3) rfl) (by decide +kernel) (by decide) (by omega) hL ?_
  refine Lwrap (ix := 164) (rest := []) C hfl hE (li := (lk2 calL 10 164).get!.2) (by decide +kernel) ⟨rfl, Nat.le_of_ble_eq_true rfl⟩ ⟨_, _, rfl⟩ rfl rfl (Nat.zero_le _) (by decide +kernel) ⟨Nat.le_of_ble_eq_true rfl, Nat.le_of_ble_eq_true rfl⟩ (show cells + 2 ≤ 601024 by omega) (show slots + 12 ≤ 7293034 by omega) ?_
  refine Lst5 C (by decide +kernel) ?_
  refine Lal (j := 2) (r := 292) C (List.mem_of_getElem? (i := 2) rfl) (by decide +kernel) ?_
  refine Lld (i := i) (k := 1) (j := 1) C (List.mem_of_getElem? (i := 4) rfl) (by decide +kernel) (by decide) (by omega) hL ?_
  refine Lcall (ix := 166) (rest := []) C hfl (Cm hM) (cpM (k := 292) (n := 1) (li := (lk2 calL 10 166).get!.2) (by decide +kernel) rfl rfl (by decide) rfl rfl rfl rfl) (Or.inr (Or.inl ⟨rfl, by decide +kernel⟩)) ⟨Nat.le_of_ble_eq_true rfl, Nat.le_of_ble_eq_true rfl⟩ (show cells + 2 ≤ 601024 by omega) (show slots + 12 ≤ 7293034 by omega) ?_
  refine Lthr (k := w.1) C hfl (List.mem_of_getElem? (i := 0) rfl) hS.1 (by decide +kernel) (List.mem_of_getElem? (i := 2) rfl) (show cells + 2 ≤ 601024 by omega) (show slots + 12 ≤ 7293034 by omega) ?_
  refine Lgo (off := 1598) (tgt := 2321) C (by decide +kernel) (by decide) (LdB ?_)
  exact Lwid (show cells + 2 ≤ cells + 7 by omega) (show slots + 12 ≤ slots + 42 by omega) (K _ _ hS.2)
theorem law_8 (C : LC p s m meth c b L xs D cy) (hfl : l0.stackTraces = false) (hL : L ≤ 3584) (hin : i + 7 ≤ L) (hcl : cells + 7 ≤ 601024) (hsl : slots + 42 ≤ 7293034) (hR : RR l z) (K : ∀ l' z', RR l' z' → LG p l0 e s m below meth c b D cy (cells + 7) (slots + 42) 2321 (mlA i) [] (GG false l' z')) : LG p l0 e s m below meth c b D cy cells slots 726 (mlA i) [] (GG false l z) := by
  obtain ⟨n, t, s0, h, hs, hk⟩ := hR
  have hS := sim_queue (a := xs (i + 1)) (b := xs (i + 2)) (c := xs (i + 3)) (d := xs (i + 4)) (e := xs (i + 5)) (f := xs (i + 6)) h hs hk
  have hE := Cx (z := z) (e_190 (n := n) (l := l) (P := fun o l' => o = .inl (some (.int (wv 190 (f_39 n (xs (i + 1)) (xs (i + 2)) (xs (i + 3)) (xs (i + 4)) (xs (i + 5)) (xs (i + 6)) l)).1)) ∧ l' = (wv 190 (f_39 n (xs (i + 1)) (xs (i + 2)) (xs (i + 3)) (xs (i + 4)) (xs (i + 5)) (xs (i + 6)) l)).2) (x0 := xs (i + 1)) (x1 := xs (i + 2)) (x2 := xs (i + 3)) (x3 := xs (i + 4)) (x4 := xs (i + 5)) (x5 := xs (i + 6)) (RX_n h) h.ci ⟨rfl, rfl⟩)
  generalize wv 190 (f_39 n (xs (i + 1)) (xs (i + 2)) (xs (i + 3)) (xs (i + 4)) (xs (i + 5)) (xs (i + 6)) l) = w at hS hE
  have hM := c_121 (n := n) (z := z) (P := fun o z' => o = .inl none ∧ z' = sQueue z n (xs (i + 1)) (xs (i + 2)) (xs (i + 3)) (xs (i + 4)) (xs (i + 5)) (xs (i + 6))) (RX_n h) h.cz.1 ⟨rfl, rfl⟩
  generalize sQueue z n (xs (i + 1)) (xs (i + 2)) (xs (i + 3)) (xs (i + 4)) (xs (i + 5)) (xs (i + 6)) = r at hS hM
  refine Lal (j := 1) (r := 0) C (List.mem_of_getElem? (i := 0) rfl) (by decide +kernel) ?_
  refine Lld (i := i) (k := 1) (j := 1) C (List.mem_of_getElem? (i := 3) rfl) (by decide +kernel) (by decide) (by omega) hL ?_
  refine Lld (i := i) (k := 2) (j := 2) C (List.mem_of_getElem? (i := 3) rfl) (by decide +kernel) (by decide) (by omega) hL ?_
  refine Lld (i := i) (k := 3) (j := 3) C (List.mem_of_getElem? (i := 3) rfl) (by decide +kernel) (by decide) (by omega) hL ?_
  refine Lld (i := i) (k := 4) (j := 4) C (List.mem_of_getElem? (i := 3) rfl) (by decide +kernel) (by decide) (by omega) hL ?_
  refine Lld (i := i) (k := 5) (j := 5) C (List.mem_of_getElem? (i := 3) rfl) (by decide +kernel) (by decide) (by omega) hL ?_
  refine Lld6 (i := i) C (List.mem_of_getElem? (i := 3) rfl) (by decide +kernel) (by omega) hL ?_
  refine Lwrap (ix := 167) (rest := []) C hfl hE (li := (lk2 calL 10 167).get!.2) (by decide +kernel) ⟨rfl, Nat.le_of_ble_eq_true rfl⟩ ⟨_, _, rfl⟩ rfl rfl (Nat.zero_le _) (by decide +kernel) ⟨Nat.le_of_ble_eq_true rfl, Nat.le_of_ble_eq_true rfl⟩ (show cells + 7 ≤ 601024 by omega) (show slots + 42 ≤ 7293034 by omega) ?_
  refine Lst5 C (by decide +kernel) ?_
  refine Lal (j := 2) (r := 292) C (List.mem_of_getElem? (i := 2) rfl) (by decide +kernel) ?_
  refine Lld (i := i) (k := 1) (j := 1) C (List.mem_of_getElem? (i := 4) rfl) (by decide +kernel) (by decide) (by omega) hL ?_
  refine Lld (i := i) (k := 2) (j := 2) C (List.mem_of_getElem? (i := 4) rfl) (by decide +kernel) (by decide) (by omega) hL ?_
  refine Lld (i := i) (k := 3) (j := 3) C (List.mem_of_getElem? (i := 4) rfl) (by decide +kernel) (by decide) (by omega) hL ?_
  refine Lld (i := i) (k := 4) (j := 4) C (List.mem_of_getElem? (i := 4) rfl) (by decide +kernel) (by decide) (by omega) hL ?_
  refine Lld (i := i) (k := 5) (j := 5) C (List.mem_of_getElem? (i := 4) rfl) (by decide +kernel) (by decide) (by omega) hL ?_
  refine Lld6 (i := i) C (List.mem_of_getElem? (i := 4) rfl) (by decide +kernel) (by omega) hL ?_
  refine Lcall (ix := 169) (rest := []) C hfl (Cm hM) (cpM (k := 292) (n := 6) (li := (lk2 calL 10 169).get!.2) (by decide +kernel) rfl rfl (by decide) rfl rfl rfl rfl) (Or.inr (Or.inl ⟨rfl, by decide +kernel⟩)) ⟨Nat.le_of_ble_eq_true rfl, Nat.le_of_ble_eq_true rfl⟩ (show cells + 7 ≤ 601024 by omega) (show slots + 42 ≤ 7293034 by omega) ?_
  refine Lthr (k := w.1) C hfl (List.mem_of_getElem? (i := 0) rfl) hS.1 (by decide +kernel) (List.mem_of_getElem? (i := 2) rfl) (show cells + 7 ≤ 601024 by omega) (show slots + 42 ≤ 7293034 by omega) ?_
  refine Lgo (off := 1500) (tgt := 2321) C (by decide +kernel) (by decide) (LdB ?_)
  exact Lwid (show cells + 7 ≤ cells + 7 by omega) (show slots + 42 ≤ slots + 42 by omega) (K _ _ hS.2)
theorem law_9 (C : LC p s m meth c b L xs D cy) (hfl : l0.stackTraces = false) (hL : L ≤ 3584) (hin : i + 7 ≤ L) (hcl : cells + 7 ≤ 601024) (hsl : slots + 42 ≤ 7293034) (hR : RR l z) (K : ∀ l' z', RR l' z' → LG p l0 e s m below meth c b D cy (cells + 7) (slots + 42) 2321 (mlA i) [] (GG false l' z')) : LG p l0 e s m below meth c b D cy cells slots 824 (mlA i) [] (GG false l z) := by
  obtain ⟨n, t, s0, h, hs, hk⟩ := hR
  have hS := sim_leaving (a := xs (i + 1)) (b := xs (i + 2)) h hs hk
  have hE := Cx (z := z) (e_191 (n := n) (l := l) (P := fun o l' => o = .inl (some (.int (wv 191 (f_40 n (xs (i + 1)) (xs (i + 2)) l)).1)) ∧ l' = (wv 191 (f_40 n (xs (i + 1)) (xs (i + 2)) l)).2) (x0 := xs (i + 1)) (x1 := xs (i + 2)) (RX_n h) h.ci ⟨rfl, rfl⟩)
  generalize wv 191 (f_40 n (xs (i + 1)) (xs (i + 2)) l) = w at hS hE
  have hM := e_122 (n := n) (t := t) (l := z) (P := fun o z' => o = .inl none ∧ z' = f_122 n t (xs (i + 1)) (xs (i + 2)) z) (RX_n h) h.1.2.1 h.cz ⟨rfl, rfl⟩
  generalize f_122 n t (xs (i + 1)) (xs (i + 2)) z = r at hS hM
  refine Lal (j := 1) (r := 0) C (List.mem_of_getElem? (i := 0) rfl) (by decide +kernel) ?_
  refine Lld (i := i) (k := 1) (j := 1) C (List.mem_of_getElem? (i := 3) rfl) (by decide +kernel) (by decide) (by omega) hL ?_
  refine Lld (i := i) (k := 2) (j := 2) C (List.mem_of_getElem? (i := 3) rfl) (by decide +kernel) (by decide) (by omega) hL ?_
  refine Lwrap (ix := 170) (rest := []) C hfl hE (li := (lk2 calL 10 170).get!.2) (by decide +kernel) ⟨rfl, Nat.le_of_ble_eq_true rfl⟩ ⟨_, _, rfl⟩ rfl rfl (Nat.zero_le _) (by decide +kernel) ⟨Nat.le_of_ble_eq_true rfl, Nat.le_of_ble_eq_true rfl⟩ (show cells + 4 ≤ 601024 by omega) (show slots + 24 ≤ 7293034 by omega) ?_
  refine Lst5 C (by decide +kernel) ?_
  refine Lal (j := 2) (r := 292) C (List.mem_of_getElem? (i := 2) rfl) (by decide +kernel) ?_
  refine Lld (i := i) (k := 1) (j := 1) C (List.mem_of_getElem? (i := 4) rfl) (by decide +kernel) (by decide) (by omega) hL ?_
  refine Lld (i := i) (k := 2) (j := 2) C (List.mem_of_getElem? (i := 4) rfl) (by decide +kernel) (by decide) (by omega) hL ?_
  refine Lcall (ix := 173) (rest := []) C hfl (Cm hM) (cpM (k := 292) (n := 2) (li := (lk2 calL 10 173).get!.2) (by decide +kernel) rfl rfl (by decide) rfl rfl rfl rfl) (Or.inr (Or.inl ⟨rfl, by decide +kernel⟩)) ⟨Nat.le_of_ble_eq_true rfl, Nat.le_of_ble_eq_true rfl⟩ (show cells + 4 ≤ 601024 by omega) (show slots + 24 ≤ 7293034 by omega) ?_
  refine Lthr (k := w.1) C hfl (List.mem_of_getElem? (i := 0) rfl) hS.1 (by decide +kernel) (List.mem_of_getElem? (i := 2) rfl) (show cells + 4 ≤ 601024 by omega) (show slots + 24 ≤ 7293034 by omega) ?_
  refine Lgo (off := 1452) (tgt := 2321) C (by decide +kernel) (by decide) (LdB ?_)
  exact Lwid (show cells + 4 ≤ cells + 7 by omega) (show slots + 24 ≤ slots + 42 by omega) (K _ _ hS.2)
theorem law_10 (C : LC p s m meth c b L xs D cy) (hfl : l0.stackTraces = false) (hL : L ≤ 3584) (hin : i + 7 ≤ L) (hcl : cells + 7 ≤ 601024) (hsl : slots + 42 ≤ 7293034) (hR : RR l z) (K : ∀ l' z', RR l' z' → LG p l0 e s m below meth c b D cy (cells + 7) (slots + 42) 2321 (mlA i) [] (GG false l' z')) : LG p l0 e s m below meth c b D cy cells slots 872 (mlA i) [] (GG false l z) := by
  obtain ⟨n, t, s0, h, hs, hk⟩ := hR
  have hS := sim_callback (a := xs (i + 1)) h hs hk
  have hE := Cx (z := z) (e_192 (n := n) (l := l) (P := fun o l' => o = .inl (some (.int (wv 192 (f_41 n (xs (i + 1)) l)).1)) ∧ l' = (wv 192 (f_41 n (xs (i + 1)) l)).2) (x0 := xs (i + 1)) (RX_n h) h.ci ⟨rfl, rfl⟩)
  generalize wv 192 (f_41 n (xs (i + 1)) l) = w at hS hE
  have hM := c_123 (n := n) (z := z) (P := fun o z' => o = .inl none ∧ z' = sMenu z n 8 (xs (i + 1))) (RX_n h) h.cz.1 ⟨rfl, rfl⟩
  generalize sMenu z n 8 (xs (i + 1)) = r at hS hM
  refine Lal (j := 1) (r := 0) C (List.mem_of_getElem? (i := 0) rfl) (by decide +kernel) ?_
  refine Lld (i := i) (k := 1) (j := 1) C (List.mem_of_getElem? (i := 3) rfl) (by decide +kernel) (by decide) (by omega) hL ?_
  refine Lwrap (ix := 174) (rest := []) C hfl hE (li := (lk2 calL 10 174).get!.2) (by decide +kernel) ⟨rfl, Nat.le_of_ble_eq_true rfl⟩ ⟨_, _, rfl⟩ rfl rfl (Nat.zero_le _) (by decide +kernel) ⟨Nat.le_of_ble_eq_true rfl, Nat.le_of_ble_eq_true rfl⟩ (show cells + 2 ≤ 601024 by omega) (show slots + 12 ≤ 7293034 by omega) ?_
  refine Lst5 C (by decide +kernel) ?_
  refine Lal (j := 2) (r := 292) C (List.mem_of_getElem? (i := 2) rfl) (by decide +kernel) ?_
  refine Lld (i := i) (k := 1) (j := 1) C (List.mem_of_getElem? (i := 4) rfl) (by decide +kernel) (by decide) (by omega) hL ?_
  refine Lcall (ix := 176) (rest := []) C hfl (Cm hM) (cpM (k := 292) (n := 1) (li := (lk2 calL 10 176).get!.2) (by decide +kernel) rfl rfl (by decide) rfl rfl rfl rfl) (Or.inr (Or.inl ⟨rfl, by decide +kernel⟩)) ⟨Nat.le_of_ble_eq_true rfl, Nat.le_of_ble_eq_true rfl⟩ (show cells + 2 ≤ 601024 by omega) (show slots + 12 ≤ 7293034 by omega) ?_
  refine Lthr (k := w.1) C hfl (List.mem_of_getElem? (i := 0) rfl) hS.1 (by decide +kernel) (List.mem_of_getElem? (i := 2) rfl) (show cells + 2 ≤ 601024 by omega) (show slots + 12 ≤ 7293034 by omega) ?_
  refine Lgo (off := 1416) (tgt := 2321) C (by decide +kernel) (by decide) (LdB ?_)
  exact Lwid (show cells + 2 ≤ cells + 7 by omega) (show slots + 12 ≤ slots + 42 by omega) (K _ _ hS.2)
theorem law_11 (C : LC p s m meth c b L xs D cy) (hfl : l0.stackTraces = false) (hL : L ≤ 3584) (hin : i + 7 ≤ L) (hcl : cells + 7 ≤ 601024) (hsl : slots + 42 ≤ 7293034) (hR : RR l z) (K : ∀ l' z', RR l' z' → LG p l0 e s m below meth c b D cy (cells + 7) (slots + 42) 2321 (mlA i) [] (GG false l' z')) : LG p l0 e s m below meth c b D cy cells slots 908 (mlA i) [] (GG false l z) := by
  obtain ⟨n, t, s0, h, hs, hk⟩ := hR
  have hS := sim_hours (a := xs (i + 1)) (b := xs (i + 2)) (c := xs (i + 3)) h hs hk
  have hE := Cx (z := z) (e_193 (n := n) (l := l) (P := fun o l' => o = .inl (some (.int (wv 193 (f_42 n (xs (i + 1)) (xs (i + 2)) (xs (i + 3)) l)).1)) ∧ l' = (wv 193 (f_42 n (xs (i + 1)) (xs (i + 2)) (xs (i + 3)) l)).2) (x0 := xs (i + 1)) (x1 := xs (i + 2)) (x2 := xs (i + 3)) (RX_n h) h.ci ⟨rfl, rfl⟩)
  generalize wv 193 (f_42 n (xs (i + 1)) (xs (i + 2)) (xs (i + 3)) l) = w at hS hE
  have hM := e_124 (n := n) (t := t) (l := z) (P := fun o z' => o = .inl none ∧ z' = f_124 n t (xs (i + 1)) (xs (i + 2)) (xs (i + 3)) z) (RX_n h) h.1.2.1 h.cz ⟨rfl, rfl⟩
  generalize f_124 n t (xs (i + 1)) (xs (i + 2)) (xs (i + 3)) z = r at hS hM
  refine Lal (j := 1) (r := 0) C (List.mem_of_getElem? (i := 0) rfl) (by decide +kernel) ?_
  refine Lld (i := i) (k := 1) (j := 1) C (List.mem_of_getElem? (i := 3) rfl) (by decide +kernel) (by decide) (by omega) hL ?_
  refine Lld (i := i) (k := 2) (j := 2) C (List.mem_of_getElem? (i := 3) rfl) (by decide +kernel) (by decide) (by omega) hL ?_
  refine Lld (i := i) (k := 3) (j := 3) C (List.mem_of_getElem? (i := 3) rfl) (by decide +kernel) (by decide) (by omega) hL ?_
  refine Lwrap (ix := 177) (rest := []) C hfl hE (li := (lk2 calL 10 177).get!.2) (by decide +kernel) ⟨rfl, Nat.le_of_ble_eq_true rfl⟩ ⟨_, _, rfl⟩ rfl rfl (Nat.zero_le _) (by decide +kernel) ⟨Nat.le_of_ble_eq_true rfl, Nat.le_of_ble_eq_true rfl⟩ (show cells + 3 ≤ 601024 by omega) (show slots + 18 ≤ 7293034 by omega) ?_
  refine Lst5 C (by decide +kernel) ?_
  refine Lal (j := 2) (r := 292) C (List.mem_of_getElem? (i := 2) rfl) (by decide +kernel) ?_
  refine Lld (i := i) (k := 1) (j := 1) C (List.mem_of_getElem? (i := 4) rfl) (by decide +kernel) (by decide) (by omega) hL ?_
  refine Lld (i := i) (k := 2) (j := 2) C (List.mem_of_getElem? (i := 4) rfl) (by decide +kernel) (by decide) (by omega) hL ?_
  refine Lld (i := i) (k := 3) (j := 3) C (List.mem_of_getElem? (i := 4) rfl) (by decide +kernel) (by decide) (by omega) hL ?_
  refine Lcall (ix := 179) (rest := []) C hfl (Cm hM) (cpM (k := 292) (n := 3) (li := (lk2 calL 10 179).get!.2) (by decide +kernel) rfl rfl (by decide) rfl rfl rfl rfl) (Or.inr (Or.inl ⟨rfl, by decide +kernel⟩)) ⟨Nat.le_of_ble_eq_true rfl, Nat.le_of_ble_eq_true rfl⟩ (show cells + 3 ≤ 601024 by omega) (show slots + 18 ≤ 7293034 by omega) ?_
  refine Lthr (k := w.1) C hfl (List.mem_of_getElem? (i := 0) rfl) hS.1 (by decide +kernel) (List.mem_of_getElem? (i := 2) rfl) (show cells + 3 ≤ 601024 by omega) (show slots + 18 ≤ 7293034 by omega) ?_
  refine Lgo (off := 1356) (tgt := 2321) C (by decide +kernel) (by decide) (LdB ?_)
  exact Lwid (show cells + 3 ≤ cells + 7 by omega) (show slots + 18 ≤ slots + 42 by omega) (K _ _ hS.2)
theorem law_14 (C : LC p s m meth c b L xs D cy) (hfl : l0.stackTraces = false) (hL : L ≤ 3584) (hin : i + 7 ≤ L) (hcl : cells + 7 ≤ 601024) (hsl : slots + 42 ≤ 7293034) (hR : RR l z) (K : ∀ l' z', RR l' z' → LG p l0 e s m below meth c b D cy (cells + 7) (slots + 42) 2321 (mlA i) [] (GG false l' z')) : LG p l0 e s m below meth c b D cy cells slots 1072 (mlA i) [] (GG false l z) := by
  obtain ⟨n, t, s0, h, hs, hk⟩ := hR
  have hS := sim_call (a := xs (i + 1)) h hs hk
  have hE := Cx (z := z) (e_195 (n := n) (l := l) (P := fun o l' => o = .inl (some (.int (wo 195 (f_45 n (xs (i + 1)) l)).1)) ∧ l' = (wo 195 (f_45 n (xs (i + 1)) l)).2) (x0 := xs (i + 1)) (RX_n h) h.ci ⟨rfl, rfl⟩)
  generalize wo 195 (f_45 n (xs (i + 1)) l) = w at hS hE
  have hM := e_150 (n := n) (t := t) (l := z) (P := fun o z' => o = .inl (some (.int (f_150 n t (xs (i + 1)) z).1)) ∧ z' = (f_150 n t (xs (i + 1)) z).2) (RX_n h) h.1.2.1 h.cz ⟨rfl, rfl⟩
  generalize f_150 n t (xs (i + 1)) z = r at hS hM
  refine Lal (j := 1) (r := 0) C (List.mem_of_getElem? (i := 0) rfl) (by decide +kernel) ?_
  refine Lld (i := i) (k := 1) (j := 1) C (List.mem_of_getElem? (i := 3) rfl) (by decide +kernel) (by decide) (by omega) hL ?_
  refine Lal (j := 3) (r := 332) C (List.mem_of_getElem? (i := 2) rfl) (by decide +kernel) ?_
  refine Lwrap (ix := 189) (rest := []) C hfl hE (li := (lk2 calL 10 189).get!.2) (by decide +kernel) ⟨rfl, Nat.le_of_ble_eq_true rfl⟩ ⟨_, _, rfl⟩ rfl rfl (Nat.zero_le _) (by decide +kernel) ⟨Nat.le_of_ble_eq_true rfl, Nat.le_of_ble_eq_true rfl⟩ (show cells + 2 ≤ 601024 by omega) (show slots + 12 ≤ 7293034 by omega) ?_
  refine Lst5 C (by decide +kernel) ?_
  refine Lal (j := 2) (r := 292) C (List.mem_of_getElem? (i := 2) rfl) (by decide +kernel) ?_
  refine Lld (i := i) (k := 1) (j := 1) C (List.mem_of_getElem? (i := 4) rfl) (by decide +kernel) (by decide) (by omega) hL ?_
  refine Lcall (ix := 192) (rest := []) C hfl (Cm hM) (cpM (k := 292) (n := 1) (li := (lk2 calL 10 192).get!.2) (by decide +kernel) rfl rfl (by decide) rfl rfl rfl rfl) (Or.inr (Or.inl ⟨rfl, by decide +kernel⟩)) ⟨Nat.le_of_ble_eq_true rfl, Nat.le_of_ble_eq_true rfl⟩ (show cells + 2 ≤ 601024 by omega) (show slots + 12 ≤ 7293034 by omega) ?_
  refine Lst6 C (by decide +kernel) ?_
  refine Lthr (k := w.1) C hfl (List.mem_of_getElem? (i := 1) rfl) hS.1 (by decide +kernel) (List.mem_of_getElem? (i := 3) rfl) (show cells + 2 ≤ 601024 by omega) (show slots + 12 ≤ 7293034 by omega) ?_
  refine Lout C hS.2.1 (by decide +kernel) ?_
  refine Lgo (off := 1196) (tgt := 2321) C (by decide +kernel) (by decide) (LdC ?_)
  exact Lwid (show cells + 2 ≤ cells + 7 by omega) (show slots + 12 ≤ slots + 42 by omega) (K _ _ hS.2.2)
theorem law_15 (C : LC p s m meth c b L xs D cy) (hfl : l0.stackTraces = false) (hL : L ≤ 3584) (hin : i + 7 ≤ L) (hcl : cells + 7 ≤ 601024) (hsl : slots + 42 ≤ 7293034) (hR : RR l z) (K : ∀ l' z', RR l' z' → LG p l0 e s m below meth c b D cy (cells + 7) (slots + 42) 2321 (mlA i) [] (GG false l' z')) : LG p l0 e s m below meth c b D cy cells slots 1128 (mlA i) [] (GG false l z) := by
  obtain ⟨n, t, s0, h, hs, hk⟩ := hR
  obtain ⟨hS, hZ⟩ := sim_press (a := xs (i + 1)) (b := xs (i + 2)) h hs hk
  have hE := Cx (z := z) (e_196 (n := n) (l := l) (P := fun o l' => o = .inl (some (.int (wo 196 (f_46 n (xs (i + 1)) (xs (i + 2)) l)).1)) ∧ l' = (wo 196 (f_46 n (xs (i + 1)) (xs (i + 2)) l)).2) (x0 := xs (i + 1)) (x1 := xs (i + 2)) (RX_n h) h.ci ⟨rfl, rfl⟩)
  generalize wo 196 (f_46 n (xs (i + 1)) (xs (i + 2)) l) = w at hS hE
  have hM := e_153 (n := n) (t := t) (l := z) (P := fun o z' => o = .inl (some (.int (f_153 n t (xs (i + 1)) (xs (i + 2)) z).1)) ∧ z' = (f_153 n t (xs (i + 1)) (xs (i + 2)) z).2) (RX_n h) h.1.2.1 h.cz hZ ⟨rfl, rfl⟩
  generalize f_153 n t (xs (i + 1)) (xs (i + 2)) z = r at hS hM
  refine Lal (j := 1) (r := 0) C (List.mem_of_getElem? (i := 0) rfl) (by decide +kernel) ?_
  refine Lld (i := i) (k := 1) (j := 1) C (List.mem_of_getElem? (i := 3) rfl) (by decide +kernel) (by decide) (by omega) hL ?_
  refine Lld (i := i) (k := 2) (j := 2) C (List.mem_of_getElem? (i := 3) rfl) (by decide +kernel) (by decide) (by omega) hL ?_
  refine Lal (j := 3) (r := 332) C (List.mem_of_getElem? (i := 2) rfl) (by decide +kernel) ?_
  refine Lwrap (ix := 193) (rest := []) C hfl hE (li := (lk2 calL 10 193).get!.2) (by decide +kernel) ⟨rfl, Nat.le_of_ble_eq_true rfl⟩ ⟨_, _, rfl⟩ rfl rfl (Nat.zero_le _) (by decide +kernel) ⟨Nat.le_of_ble_eq_true rfl, Nat.le_of_ble_eq_true rfl⟩ (show cells + 3 ≤ 601024 by omega) (show slots + 18 ≤ 7293034 by omega) ?_
  refine Lst5 C (by decide +kernel) ?_
  refine Lal (j := 2) (r := 292) C (List.mem_of_getElem? (i := 2) rfl) (by decide +kernel) ?_
  refine Lld (i := i) (k := 1) (j := 1) C (List.mem_of_getElem? (i := 4) rfl) (by decide +kernel) (by decide) (by omega) hL ?_
  refine Lld (i := i) (k := 2) (j := 2) C (List.mem_of_getElem? (i := 4) rfl) (by decide +kernel) (by decide) (by omega) hL ?_
  refine Lcall (ix := 196) (rest := []) C hfl (Cm hM) (cpM (k := 292) (n := 2) (li := (lk2 calL 10 196).get!.2) (by decide +kernel) rfl rfl (by decide) rfl rfl rfl rfl) (Or.inr (Or.inl ⟨rfl, by decide +kernel⟩)) ⟨Nat.le_of_ble_eq_true rfl, Nat.le_of_ble_eq_true rfl⟩ (show cells + 3 ≤ 601024 by omega) (show slots + 18 ≤ 7293034 by omega) ?_
  refine Lst6 C (by decide +kernel) ?_
  refine Lthr (k := w.1) C hfl (List.mem_of_getElem? (i := 1) rfl) hS.1 (by decide +kernel) (List.mem_of_getElem? (i := 3) rfl) (show cells + 3 ≤ 601024 by omega) (show slots + 18 ≤ 7293034 by omega) ?_
  refine Lout C hS.2.1 (by decide +kernel) ?_
  refine Lgo (off := 1128) (tgt := 2321) C (by decide +kernel) (by decide) (LdC ?_)
  exact Lwid (show cells + 3 ≤ cells + 7 by omega) (show slots + 18 ≤ slots + 42 by omega) (K _ _ hS.2.2)
theorem law_16 (C : LC p s m meth c b L xs D cy) (hfl : l0.stackTraces = false) (hL : L ≤ 3584) (hin : i + 7 ≤ L) (hcl : cells + 7 ≤ 601024) (hsl : slots + 42 ≤ 7293034) (hR : RR l z) (K : ∀ l' z', RR l' z' → LG p l0 e s m below meth c b D cy (cells + 7) (slots + 42) 2321 (mlA i) [] (GG false l' z')) : LG p l0 e s m below meth c b D cy cells slots 1196 (mlA i) [] (GG false l z) := by
  obtain ⟨n, t, s0, h, hs, hk⟩ := hR
  have hS := sim_hang (a := xs (i + 1)) h hs hk
  have hE := Cx (z := z) (e_197 (n := n) (l := l) (P := fun o l' => o = .inl (some (.int (wo 197 (f_47 n (xs (i + 1)) l)).1)) ∧ l' = (wo 197 (f_47 n (xs (i + 1)) l)).2) (x0 := xs (i + 1)) (RX_n h) h.ci ⟨rfl, rfl⟩)
  generalize wo 197 (f_47 n (xs (i + 1)) l) = w at hS hE
  have hM := e_154 (n := n) (t := t) (l := z) (P := fun o z' => o = .inl (some (.int (f_154 n t (xs (i + 1)) z).1)) ∧ z' = (f_154 n t (xs (i + 1)) z).2) (RX_n h) h.1.2.1 h.cz (with_R h) ⟨rfl, rfl⟩
  generalize f_154 n t (xs (i + 1)) z = r at hS hM
  refine Lal (j := 1) (r := 0) C (List.mem_of_getElem? (i := 0) rfl) (by decide +kernel) ?_
  refine Lld (i := i) (k := 1) (j := 1) C (List.mem_of_getElem? (i := 3) rfl) (by decide +kernel) (by decide) (by omega) hL ?_
  refine Lal (j := 3) (r := 332) C (List.mem_of_getElem? (i := 2) rfl) (by decide +kernel) ?_
  refine Lwrap (ix := 197) (rest := []) C hfl hE (li := (lk2 calL 10 197).get!.2) (by decide +kernel) ⟨rfl, Nat.le_of_ble_eq_true rfl⟩ ⟨_, _, rfl⟩ rfl rfl (Nat.zero_le _) (by decide +kernel) ⟨Nat.le_of_ble_eq_true rfl, Nat.le_of_ble_eq_true rfl⟩ (show cells + 2 ≤ 601024 by omega) (show slots + 12 ≤ 7293034 by omega) ?_
  refine Lst5 C (by decide +kernel) ?_
  refine Lal (j := 2) (r := 292) C (List.mem_of_getElem? (i := 2) rfl) (by decide +kernel) ?_
  refine Lld (i := i) (k := 1) (j := 1) C (List.mem_of_getElem? (i := 4) rfl) (by decide +kernel) (by decide) (by omega) hL ?_
  refine Lcall (ix := 199) (rest := []) C hfl (Cm hM) (cpM (k := 292) (n := 1) (li := (lk2 calL 10 199).get!.2) (by decide +kernel) rfl rfl (by decide) rfl rfl rfl rfl) (Or.inr (Or.inl ⟨rfl, by decide +kernel⟩)) ⟨Nat.le_of_ble_eq_true rfl, Nat.le_of_ble_eq_true rfl⟩ (show cells + 2 ≤ 601024 by omega) (show slots + 12 ≤ 7293034 by omega) ?_
  refine Lst6 C (by decide +kernel) ?_
  refine Lthr (k := w.1) C hfl (List.mem_of_getElem? (i := 1) rfl) hS.1 (by decide +kernel) (List.mem_of_getElem? (i := 3) rfl) (show cells + 2 ≤ 601024 by omega) (show slots + 12 ≤ 7293034 by omega) ?_
  refine Lout C hS.2.1 (by decide +kernel) ?_
  refine Lgo (off := 1072) (tgt := 2321) C (by decide +kernel) (by decide) (LdC ?_)
  exact Lwid (show cells + 2 ≤ cells + 7 by omega) (show slots + 12 ≤ slots + 42 by omega) (K _ _ hS.2.2)
theorem law_17 (C : LC p s m meth c b L xs D cy) (hfl : l0.stackTraces = false) (hL : L ≤ 3584) (hin : i + 7 ≤ L) (hcl : cells + 7 ≤ 601024) (hsl : slots + 42 ≤ 7293034) (hR : RR l z) (K : ∀ l' z', RR l' z' → LG p l0 e s m below meth c b D cy (cells + 7) (slots + 42) 2321 (mlA i) [] (GG false l' z')) : LG p l0 e s m below meth c b D cy cells slots 1252 (mlA i) [] (GG false l z) := by
  obtain ⟨n, t, s0, h, hs, hk⟩ := hR
  have hS := sim_pick (a := xs (i + 1)) h hs hk
  have hE := Cx (z := z) (e_198 (n := n) (l := l) (P := fun o l' => o = .inl (some (.int (wo 198 (f_48 n (xs (i + 1)) l)).1)) ∧ l' = (wo 198 (f_48 n (xs (i + 1)) l)).2) (x0 := xs (i + 1)) (RX_n h) h.ci ⟨rfl, rfl⟩)
  generalize wo 198 (f_48 n (xs (i + 1)) l) = w at hS hE
  have hM := e_155 (n := n) (t := t) (l := z) (P := fun o z' => o = .inl (some (.int (f_155 n t (xs (i + 1)) z).1)) ∧ z' = (f_155 n t (xs (i + 1)) z).2) (RX_n h) h.1.2.1 h.cz (with_R h) ⟨rfl, rfl⟩
  generalize f_155 n t (xs (i + 1)) z = r at hS hM
  refine Lal (j := 1) (r := 0) C (List.mem_of_getElem? (i := 0) rfl) (by decide +kernel) ?_
  refine Lld (i := i) (k := 1) (j := 1) C (List.mem_of_getElem? (i := 3) rfl) (by decide +kernel) (by decide) (by omega) hL ?_
  refine Lal (j := 3) (r := 332) C (List.mem_of_getElem? (i := 2) rfl) (by decide +kernel) ?_
  refine Lwrap (ix := 200) (rest := []) C hfl hE (li := (lk2 calL 10 200).get!.2) (by decide +kernel) ⟨rfl, Nat.le_of_ble_eq_true rfl⟩ ⟨_, _, rfl⟩ rfl rfl (Nat.zero_le _) (by decide +kernel) ⟨Nat.le_of_ble_eq_true rfl, Nat.le_of_ble_eq_true rfl⟩ (show cells + 2 ≤ 601024 by omega) (show slots + 12 ≤ 7293034 by omega) ?_
  refine Lst5 C (by decide +kernel) ?_
  refine Lal (j := 2) (r := 292) C (List.mem_of_getElem? (i := 2) rfl) (by decide +kernel) ?_
  refine Lld (i := i) (k := 1) (j := 1) C (List.mem_of_getElem? (i := 4) rfl) (by decide +kernel) (by decide) (by omega) hL ?_
  refine Lcall (ix := 202) (rest := []) C hfl (Cm hM) (cpM (k := 292) (n := 1) (li := (lk2 calL 10 202).get!.2) (by decide +kernel) rfl rfl (by decide) rfl rfl rfl rfl) (Or.inr (Or.inl ⟨rfl, by decide +kernel⟩)) ⟨Nat.le_of_ble_eq_true rfl, Nat.le_of_ble_eq_true rfl⟩ (show cells + 2 ≤ 601024 by omega) (show slots + 12 ≤ 7293034 by omega) ?_
  refine Lst6 C (by decide +kernel) ?_
  refine Lthr (k := w.1) C hfl (List.mem_of_getElem? (i := 1) rfl) hS.1 (by decide +kernel) (List.mem_of_getElem? (i := 3) rfl) (show cells + 2 ≤ 601024 by omega) (show slots + 12 ≤ 7293034 by omega) ?_
  refine Lout C hS.2.1 (by decide +kernel) ?_
  refine Lgo (off := 1016) (tgt := 2321) C (by decide +kernel) (by decide) (LdC ?_)
  exact Lwid (show cells + 2 ≤ cells + 7 by omega) (show slots + 12 ≤ slots + 42 by omega) (K _ _ hS.2.2)
theorem law_18 (C : LC p s m meth c b L xs D cy) (hfl : l0.stackTraces = false) (hL : L ≤ 3584) (hin : i + 7 ≤ L) (hcl : cells + 7 ≤ 601024) (hsl : slots + 42 ≤ 7293034) (hR : RR l z) (K : ∀ l' z', RR l' z' → LG p l0 e s m below meth c b D cy (cells + 7) (slots + 42) 2321 (mlA i) [] (GG false l' z')) : LG p l0 e s m below meth c b D cy cells slots 1308 (mlA i) [] (GG false l z) := by
  obtain ⟨n, t, s0, h, hs, hk⟩ := hR
  have hS := sim_signOn (a := xs (i + 1)) (b := xs (i + 2)) h hs hk
  have hE := Cx (z := z) (e_199 (n := n) (l := l) (P := fun o l' => o = .inl (some (.int (wo 199 (f_49 n (xs (i + 1)) (xs (i + 2)) l)).1)) ∧ l' = (wo 199 (f_49 n (xs (i + 1)) (xs (i + 2)) l)).2) (x0 := xs (i + 1)) (x1 := xs (i + 2)) (RX_n h) h.ci ⟨rfl, rfl⟩)
  generalize wo 199 (f_49 n (xs (i + 1)) (xs (i + 2)) l) = w at hS hE
  have hM := e_158 (n := n) (t := t) (l := z) (P := fun o z' => o = .inl (some (.int (f_158 n t (xs (i + 1)) (xs (i + 2)) z).1)) ∧ z' = (f_158 n t (xs (i + 1)) (xs (i + 2)) z).2) (RX_n h) h.1.2.1 h.cz ⟨rfl, rfl⟩
  generalize f_158 n t (xs (i + 1)) (xs (i + 2)) z = r at hS hM
  refine Lal (j := 1) (r := 0) C (List.mem_of_getElem? (i := 0) rfl) (by decide +kernel) ?_
  refine Lld (i := i) (k := 1) (j := 1) C (List.mem_of_getElem? (i := 3) rfl) (by decide +kernel) (by decide) (by omega) hL ?_
  refine Lld (i := i) (k := 2) (j := 2) C (List.mem_of_getElem? (i := 3) rfl) (by decide +kernel) (by decide) (by omega) hL ?_
  refine Lal (j := 3) (r := 332) C (List.mem_of_getElem? (i := 2) rfl) (by decide +kernel) ?_
  refine Lwrap (ix := 203) (rest := []) C hfl hE (li := (lk2 calL 10 203).get!.2) (by decide +kernel) ⟨rfl, Nat.le_of_ble_eq_true rfl⟩ ⟨_, _, rfl⟩ rfl rfl (Nat.zero_le _) (by decide +kernel) ⟨Nat.le_of_ble_eq_true rfl, Nat.le_of_ble_eq_true rfl⟩ (show cells + 3 ≤ 601024 by omega) (show slots + 18 ≤ 7293034 by omega) ?_
  refine Lst5 C (by decide +kernel) ?_
  refine Lal (j := 2) (r := 292) C (List.mem_of_getElem? (i := 2) rfl) (by decide +kernel) ?_
  refine Lld (i := i) (k := 1) (j := 1) C (List.mem_of_getElem? (i := 4) rfl) (by decide +kernel) (by decide) (by omega) hL ?_
  refine Lld (i := i) (k := 2) (j := 2) C (List.mem_of_getElem? (i := 4) rfl) (by decide +kernel) (by decide) (by omega) hL ?_
  refine Lcall (ix := 205) (rest := []) C hfl (Cm hM) (cpM (k := 292) (n := 2) (li := (lk2 calL 10 205).get!.2) (by decide +kernel) rfl rfl (by decide) rfl rfl rfl rfl) (Or.inr (Or.inl ⟨rfl, by decide +kernel⟩)) ⟨Nat.le_of_ble_eq_true rfl, Nat.le_of_ble_eq_true rfl⟩ (show cells + 3 ≤ 601024 by omega) (show slots + 18 ≤ 7293034 by omega) ?_
  refine Lst6 C (by decide +kernel) ?_
  refine Lthr (k := w.1) C hfl (List.mem_of_getElem? (i := 1) rfl) hS.1 (by decide +kernel) (List.mem_of_getElem? (i := 3) rfl) (show cells + 3 ≤ 601024 by omega) (show slots + 18 ≤ 7293034 by omega) ?_
  refine Lout C hS.2.1 (by decide +kernel) ?_
  refine Lgo (off := 948) (tgt := 2321) C (by decide +kernel) (by decide) (LdC ?_)
  exact Lwid (show cells + 3 ≤ cells + 7 by omega) (show slots + 18 ≤ slots + 42 by omega) (K _ _ hS.2.2)
theorem law_19 (C : LC p s m meth c b L xs D cy) (hfl : l0.stackTraces = false) (hL : L ≤ 3584) (hin : i + 7 ≤ L) (hcl : cells + 7 ≤ 601024) (hsl : slots + 42 ≤ 7293034) (hR : RR l z) (K : ∀ l' z', RR l' z' → LG p l0 e s m below meth c b D cy (cells + 7) (slots + 42) 2321 (mlA i) [] (GG false l' z')) : LG p l0 e s m below meth c b D cy cells slots 1376 (mlA i) [] (GG false l z) := by
  obtain ⟨n, t, s0, h, hs, hk⟩ := hR
  have hS := sim_signOff (a := xs (i + 1)) h hs hk
  have hE := Cx (z := z) (e_200 (n := n) (l := l) (P := fun o l' => o = .inl (some (.int (wo 200 (f_50 n (xs (i + 1)) l)).1)) ∧ l' = (wo 200 (f_50 n (xs (i + 1)) l)).2) (x0 := xs (i + 1)) (RX_n h) h.ci ⟨rfl, rfl⟩)
  generalize wo 200 (f_50 n (xs (i + 1)) l) = w at hS hE
  have hM := e_159 (n := n) (t := t) (l := z) (P := fun o z' => o = .inl (some (.int (f_159 n t (xs (i + 1)) z).1)) ∧ z' = (f_159 n t (xs (i + 1)) z).2) (RX_n h) h.1.2.1 h.cz ⟨rfl, rfl⟩
  generalize f_159 n t (xs (i + 1)) z = r at hS hM
  refine Lal (j := 1) (r := 0) C (List.mem_of_getElem? (i := 0) rfl) (by decide +kernel) ?_
  refine Lld (i := i) (k := 1) (j := 1) C (List.mem_of_getElem? (i := 3) rfl) (by decide +kernel) (by decide) (by omega) hL ?_
  refine Lal (j := 3) (r := 332) C (List.mem_of_getElem? (i := 2) rfl) (by decide +kernel) ?_
  refine Lwrap (ix := 206) (rest := []) C hfl hE (li := (lk2 calL 10 206).get!.2) (by decide +kernel) ⟨rfl, Nat.le_of_ble_eq_true rfl⟩ ⟨_, _, rfl⟩ rfl rfl (Nat.zero_le _) (by decide +kernel) ⟨Nat.le_of_ble_eq_true rfl, Nat.le_of_ble_eq_true rfl⟩ (show cells + 2 ≤ 601024 by omega) (show slots + 12 ≤ 7293034 by omega) ?_
  refine Lst5 C (by decide +kernel) ?_
  refine Lal (j := 2) (r := 292) C (List.mem_of_getElem? (i := 2) rfl) (by decide +kernel) ?_
  refine Lld (i := i) (k := 1) (j := 1) C (List.mem_of_getElem? (i := 4) rfl) (by decide +kernel) (by decide) (by omega) hL ?_
  refine Lcall (ix := 208) (rest := []) C hfl (Cm hM) (cpM (k := 292) (n := 1) (li := (lk2 calL 10 208).get!.2) (by decide +kernel) rfl rfl (by decide) rfl rfl rfl rfl) (Or.inr (Or.inl ⟨rfl, by decide +kernel⟩)) ⟨Nat.le_of_ble_eq_true rfl, Nat.le_of_ble_eq_true rfl⟩ (show cells + 2 ≤ 601024 by omega) (show slots + 12 ≤ 7293034 by omega) ?_
  refine Lst6 C (by decide +kernel) ?_
  refine Lthr (k := w.1) C hfl (List.mem_of_getElem? (i := 1) rfl) hS.1 (by decide +kernel) (List.mem_of_getElem? (i := 3) rfl) (show cells + 2 ≤ 601024 by omega) (show slots + 12 ≤ 7293034 by omega) ?_
  refine Lout C hS.2.1 (by decide +kernel) ?_
  refine Lgo (off := 892) (tgt := 2321) C (by decide +kernel) (by decide) (LdC ?_)
  exact Lwid (show cells + 2 ≤ cells + 7 by omega) (show slots + 12 ≤ slots + 42 by omega) (K _ _ hS.2.2)
theorem law_20 (C : LC p s m meth c b L xs D cy) (hfl : l0.stackTraces = false) (hL : L ≤ 3584) (hin : i + 7 ≤ L) (hcl : cells + 7 ≤ 601024) (hsl : slots + 42 ≤ 7293034) (hR : RR l z) (K : ∀ l' z', RR l' z' → LG p l0 e s m below meth c b D cy (cells + 7) (slots + 42) 2321 (mlA i) [] (GG false l' z')) : LG p l0 e s m below meth c b D cy cells slots 1432 (mlA i) [] (GG false l z) := by
  obtain ⟨n, t, s0, h, hs, hk⟩ := hR
  have hS := sim_wrap (a := xs (i + 1)) (b := xs (i + 2)) h hs hk
  have hE := Cx (z := z) (e_201 (n := n) (l := l) (P := fun o l' => o = .inl (some (.int (wo 201 (f_51 n (xs (i + 1)) (xs (i + 2)) l)).1)) ∧ l' = (wo 201 (f_51 n (xs (i + 1)) (xs (i + 2)) l)).2) (x0 := xs (i + 1)) (x1 := xs (i + 2)) (RX_n h) h.ci ⟨rfl, rfl⟩)
  generalize wo 201 (f_51 n (xs (i + 1)) (xs (i + 2)) l) = w at hS hE
  have hM := e_160 (n := n) (t := t) (l := z) (P := fun o z' => o = .inl (some (.int (f_160 n t (xs (i + 1)) (xs (i + 2)) z).1)) ∧ z' = (f_160 n t (xs (i + 1)) (xs (i + 2)) z).2) (RX_n h) h.1.2.1 h.cz ⟨rfl, rfl⟩
  generalize f_160 n t (xs (i + 1)) (xs (i + 2)) z = r at hS hM
  refine Lal (j := 1) (r := 0) C (List.mem_of_getElem? (i := 0) rfl) (by decide +kernel) ?_
  refine Lld (i := i) (k := 1) (j := 1) C (List.mem_of_getElem? (i := 3) rfl) (by decide +kernel) (by decide) (by omega) hL ?_
  refine Lld (i := i) (k := 2) (j := 2) C (List.mem_of_getElem? (i := 3) rfl) (by decide +kernel) (by decide) (by omega) hL ?_
  refine Lal (j := 3) (r := 332) C (List.mem_of_getElem? (i := 2) rfl) (by decide +kernel) ?_
  refine Lwrap (ix := 209) (rest := []) C hfl hE (li := (lk2 calL 10 209).get!.2) (by decide +kernel) ⟨rfl, Nat.le_of_ble_eq_true rfl⟩ ⟨_, _, rfl⟩ rfl rfl (Nat.zero_le _) (by decide +kernel) ⟨Nat.le_of_ble_eq_true rfl, Nat.le_of_ble_eq_true rfl⟩ (show cells + 2 ≤ 601024 by omega) (show slots + 12 ≤ 7293034 by omega) ?_
  refine Lst5 C (by decide +kernel) ?_
  refine Lal (j := 2) (r := 292) C (List.mem_of_getElem? (i := 2) rfl) (by decide +kernel) ?_
  refine Lld (i := i) (k := 1) (j := 1) C (List.mem_of_getElem? (i := 4) rfl) (by decide +kernel) (by decide) (by omega) hL ?_
  refine Lld (i := i) (k := 2) (j := 2) C (List.mem_of_getElem? (i := 4) rfl) (by decide +kernel) (by decide) (by omega) hL ?_
  refine Lcall (ix := 211) (rest := []) C hfl (Cm hM) (cpM (k := 292) (n := 2) (li := (lk2 calL 10 211).get!.2) (by decide +kernel) rfl rfl (by decide) rfl rfl rfl rfl) (Or.inr (Or.inl ⟨rfl, by decide +kernel⟩)) ⟨Nat.le_of_ble_eq_true rfl, Nat.le_of_ble_eq_true rfl⟩ (show cells + 2 ≤ 601024 by omega) (show slots + 12 ≤ 7293034 by omega) ?_
  refine Lst6 C (by decide +kernel) ?_
  refine Lthr (k := w.1) C hfl (List.mem_of_getElem? (i := 1) rfl) hS.1 (by decide +kernel) (List.mem_of_getElem? (i := 3) rfl) (show cells + 2 ≤ 601024 by omega) (show slots + 12 ≤ 7293034 by omega) ?_
  refine Lout C hS.2.1 (by decide +kernel) ?_
  refine Lgo (off := 824) (tgt := 2321) C (by decide +kernel) (by decide) (LdC ?_)
  exact Lwid (show cells + 2 ≤ cells + 7 by omega) (show slots + 12 ≤ slots + 42 by omega) (K _ _ hS.2.2)
theorem law_21 (C : LC p s m meth c b L xs D cy) (hfl : l0.stackTraces = false) (hL : L ≤ 3584) (hin : i + 7 ≤ L) (hcl : cells + 7 ≤ 601024) (hsl : slots + 42 ≤ 7293034) (hR : RR l z) (K : ∀ l' z', RR l' z' → LG p l0 e s m below meth c b D cy (cells + 7) (slots + 42) 2321 (mlA i) [] (GG false l' z')) : LG p l0 e s m below meth c b D cy cells slots 1500 (mlA i) [] (GG false l z) := by
  obtain ⟨n, t, s0, h, hs, hk⟩ := hR
  have hS := sim_finish (a := xs (i + 1)) h hs hk
  have hE := Cx (z := z) (e_202 (n := n) (l := l) (P := fun o l' => o = .inl (some (.int (wo 202 (f_52 n (xs (i + 1)) l)).1)) ∧ l' = (wo 202 (f_52 n (xs (i + 1)) l)).2) (x0 := xs (i + 1)) (RX_n h) h.ci ⟨rfl, rfl⟩)
  generalize wo 202 (f_52 n (xs (i + 1)) l) = w at hS hE
  have hM := e_161 (n := n) (t := t) (l := z) (P := fun o z' => o = .inl (some (.int (f_161 n t (xs (i + 1)) z).1)) ∧ z' = (f_161 n t (xs (i + 1)) z).2) (RX_n h) h.1.2.1 h.cz (holds_R h) ⟨rfl, rfl⟩
  generalize f_161 n t (xs (i + 1)) z = r at hS hM
  refine Lal (j := 1) (r := 0) C (List.mem_of_getElem? (i := 0) rfl) (by decide +kernel) ?_
  refine Lld (i := i) (k := 1) (j := 1) C (List.mem_of_getElem? (i := 3) rfl) (by decide +kernel) (by decide) (by omega) hL ?_
  refine Lal (j := 3) (r := 332) C (List.mem_of_getElem? (i := 2) rfl) (by decide +kernel) ?_
  refine Lwrap (ix := 212) (rest := []) C hfl hE (li := (lk2 calL 10 212).get!.2) (by decide +kernel) ⟨rfl, Nat.le_of_ble_eq_true rfl⟩ ⟨_, _, rfl⟩ rfl rfl (Nat.zero_le _) (by decide +kernel) ⟨Nat.le_of_ble_eq_true rfl, Nat.le_of_ble_eq_true rfl⟩ (show cells + 2 ≤ 601024 by omega) (show slots + 12 ≤ 7293034 by omega) ?_
  refine Lst5 C (by decide +kernel) ?_
  refine Lal (j := 2) (r := 292) C (List.mem_of_getElem? (i := 2) rfl) (by decide +kernel) ?_
  refine Lld (i := i) (k := 1) (j := 1) C (List.mem_of_getElem? (i := 4) rfl) (by decide +kernel) (by decide) (by omega) hL ?_
  refine Lcall (ix := 214) (rest := []) C hfl (Cm hM) (cpM (k := 292) (n := 1) (li := (lk2 calL 10 214).get!.2) (by decide +kernel) rfl rfl (by decide) rfl rfl rfl rfl) (Or.inr (Or.inl ⟨rfl, by decide +kernel⟩)) ⟨Nat.le_of_ble_eq_true rfl, Nat.le_of_ble_eq_true rfl⟩ (show cells + 2 ≤ 601024 by omega) (show slots + 12 ≤ 7293034 by omega) ?_
  refine Lst6 C (by decide +kernel) ?_
  refine Lthr (k := w.1) C hfl (List.mem_of_getElem? (i := 1) rfl) hS.1 (by decide +kernel) (List.mem_of_getElem? (i := 3) rfl) (show cells + 2 ≤ 601024 by omega) (show slots + 12 ≤ 7293034 by omega) ?_
  refine Lout C hS.2.1 (by decide +kernel) ?_
  refine Lgo (off := 768) (tgt := 2321) C (by decide +kernel) (by decide) (LdC ?_)
  exact Lwid (show cells + 2 ≤ cells + 7 by omega) (show slots + 12 ≤ slots + 42 by omega) (K _ _ hS.2.2)
theorem law_22 (C : LC p s m meth c b L xs D cy) (hfl : l0.stackTraces = false) (hL : L ≤ 3584) (hin : i + 7 ≤ L) (hcl : cells + 7 ≤ 601024) (hsl : slots + 42 ≤ 7293034) (hR : RR l z) (K : ∀ l' z', RR l' z' → LG p l0 e s m below meth c b D cy (cells + 7) (slots + 42) 2321 (mlA i) [] (GG false l' z')) : LG p l0 e s m below meth c b D cy cells slots 1556 (mlA i) [] (GG false l z) := by
  obtain ⟨n, t, s0, h, hs, hk⟩ := hR
  have hS := sim_transfer (a := xs (i + 1)) (b := xs (i + 2)) h hs hk
  have hE := Cx (z := z) (e_203 (n := n) (l := l) (P := fun o l' => o = .inl (some (.int (wo 203 (f_53 n (xs (i + 1)) (xs (i + 2)) l)).1)) ∧ l' = (wo 203 (f_53 n (xs (i + 1)) (xs (i + 2)) l)).2) (x0 := xs (i + 1)) (x1 := xs (i + 2)) (RX_n h) h.ci ⟨rfl, rfl⟩)
  generalize wo 203 (f_53 n (xs (i + 1)) (xs (i + 2)) l) = w at hS hE
  have hM := e_162 (n := n) (t := t) (l := z) (P := fun o z' => o = .inl (some (.int (f_162 n t (xs (i + 1)) (xs (i + 2)) z).1)) ∧ z' = (f_162 n t (xs (i + 1)) (xs (i + 2)) z).2) (RX_n h) h.1.2.1 h.cz (holds_R h) ⟨rfl, rfl⟩
  generalize f_162 n t (xs (i + 1)) (xs (i + 2)) z = r at hS hM
  refine Lal (j := 1) (r := 0) C (List.mem_of_getElem? (i := 0) rfl) (by decide +kernel) ?_
  refine Lld (i := i) (k := 1) (j := 1) C (List.mem_of_getElem? (i := 3) rfl) (by decide +kernel) (by decide) (by omega) hL ?_
  refine Lld (i := i) (k := 2) (j := 2) C (List.mem_of_getElem? (i := 3) rfl) (by decide +kernel) (by decide) (by omega) hL ?_
  refine Lal (j := 3) (r := 332) C (List.mem_of_getElem? (i := 2) rfl) (by decide +kernel) ?_
  refine Lwrap (ix := 215) (rest := []) C hfl hE (li := (lk2 calL 10 215).get!.2) (by decide +kernel) ⟨rfl, Nat.le_of_ble_eq_true rfl⟩ ⟨_, _, rfl⟩ rfl rfl (Nat.zero_le _) (by decide +kernel) ⟨Nat.le_of_ble_eq_true rfl, Nat.le_of_ble_eq_true rfl⟩ (show cells + 3 ≤ 601024 by omega) (show slots + 18 ≤ 7293034 by omega) ?_
  refine Lst5 C (by decide +kernel) ?_
  refine Lal (j := 2) (r := 292) C (List.mem_of_getElem? (i := 2) rfl) (by decide +kernel) ?_
  refine Lld (i := i) (k := 1) (j := 1) C (List.mem_of_getElem? (i := 4) rfl) (by decide +kernel) (by decide) (by omega) hL ?_
  refine Lld (i := i) (k := 2) (j := 2) C (List.mem_of_getElem? (i := 4) rfl) (by decide +kernel) (by decide) (by omega) hL ?_
  refine Lcall (ix := 217) (rest := []) C hfl (Cm hM) (cpM (k := 292) (n := 2) (li := (lk2 calL 10 217).get!.2) (by decide +kernel) rfl rfl (by decide) rfl rfl rfl rfl) (Or.inr (Or.inl ⟨rfl, by decide +kernel⟩)) ⟨Nat.le_of_ble_eq_true rfl, Nat.le_of_ble_eq_true rfl⟩ (show cells + 3 ≤ 601024 by omega) (show slots + 18 ≤ 7293034 by omega) ?_
  refine Lst6 C (by decide +kernel) ?_
  refine Lthr (k := w.1) C hfl (List.mem_of_getElem? (i := 1) rfl) hS.1 (by decide +kernel) (List.mem_of_getElem? (i := 3) rfl) (show cells + 3 ≤ 601024 by omega) (show slots + 18 ≤ 7293034 by omega) ?_
  refine Lout C hS.2.1 (by decide +kernel) ?_
  refine Lgo (off := 700) (tgt := 2321) C (by decide +kernel) (by decide) (LdC ?_)
  exact Lwid (show cells + 3 ≤ cells + 7 by omega) (show slots + 18 ≤ slots + 42 by omega) (K _ _ hS.2.2)
theorem law_23 (C : LC p s m meth c b L xs D cy) (hfl : l0.stackTraces = false) (hL : L ≤ 3584) (hin : i + 7 ≤ L) (hcl : cells + 7 ≤ 601024) (hsl : slots + 42 ≤ 7293034) (hR : RR l z) (K : ∀ l' z', RR l' z' → LG p l0 e s m below meth c b D cy (cells + 7) (slots + 42) 2321 (mlA i) [] (GG false l' z')) : LG p l0 e s m below meth c b D cy cells slots 1624 (mlA i) [] (GG false l z) := by
  obtain ⟨n, t, s0, h, hs, hk⟩ := hR
  obtain ⟨hS, hZ⟩ := sim_pass (a := xs (i + 1)) h hs hk
  have hE := Cx (z := z) (e_204 (n := n) (l := l) (P := fun o l' => o = .inl (some (.int (wo 204 (f_54 n (xs (i + 1)) l)).1)) ∧ l' = (wo 204 (f_54 n (xs (i + 1)) l)).2) (x0 := xs (i + 1)) (RX_n h) h.ci ⟨rfl, rfl⟩)
  generalize wo 204 (f_54 n (xs (i + 1)) l) = w at hS hE
  have hM := e_166 (n := n) (t := t) (l := z) (P := fun o z' => o = .inl (some (.int (mPass n t (xs (i + 1)) z).1)) ∧ z' = (mPass n t (xs (i + 1)) z).2) (RX_n h) h.1.2.1 h.cz hZ ⟨rfl, rfl⟩
  generalize mPass n t (xs (i + 1)) z = r at hS hM
  refine Lal (j := 1) (r := 0) C (List.mem_of_getElem? (i := 0) rfl) (by decide +kernel) ?_
  refine Lld (i := i) (k := 1) (j := 1) C (List.mem_of_getElem? (i := 3) rfl) (by decide +kernel) (by decide) (by omega) hL ?_
  refine Lal (j := 3) (r := 332) C (List.mem_of_getElem? (i := 2) rfl) (by decide +kernel) ?_
  refine Lwrap (ix := 218) (rest := []) C hfl hE (li := (lk2 calL 10 218).get!.2) (by decide +kernel) ⟨rfl, Nat.le_of_ble_eq_true rfl⟩ ⟨_, _, rfl⟩ rfl rfl (Nat.zero_le _) (by decide +kernel) ⟨Nat.le_of_ble_eq_true rfl, Nat.le_of_ble_eq_true rfl⟩ (show cells + 2 ≤ 601024 by omega) (show slots + 12 ≤ 7293034 by omega) ?_
  refine Lst5 C (by decide +kernel) ?_
  refine Lal (j := 2) (r := 292) C (List.mem_of_getElem? (i := 2) rfl) (by decide +kernel) ?_
  refine Lld (i := i) (k := 1) (j := 1) C (List.mem_of_getElem? (i := 4) rfl) (by decide +kernel) (by decide) (by omega) hL ?_
  refine Lcall (ix := 220) (rest := []) C hfl (Cm hM) (cpM (k := 292) (n := 1) (li := (lk2 calL 10 220).get!.2) (by decide +kernel) rfl rfl (by decide) rfl rfl rfl rfl) (Or.inr (Or.inl ⟨rfl, by decide +kernel⟩)) ⟨Nat.le_of_ble_eq_true rfl, Nat.le_of_ble_eq_true rfl⟩ (show cells + 2 ≤ 601024 by omega) (show slots + 12 ≤ 7293034 by omega) ?_
  refine Lst6 C (by decide +kernel) ?_
  refine Lthr (k := w.1) C hfl (List.mem_of_getElem? (i := 1) rfl) hS.1 (by decide +kernel) (List.mem_of_getElem? (i := 3) rfl) (show cells + 2 ≤ 601024 by omega) (show slots + 12 ≤ 7293034 by omega) ?_
  refine Lout C hS.2.1 (by decide +kernel) ?_
  refine Lgo (off := 644) (tgt := 2321) C (by decide +kernel) (by decide) (LdC ?_)
  exact Lwid (show cells + 2 ≤ cells + 7 by omega) (show slots + 12 ≤ slots + 42 by omega) (K _ _ hS.2.2)
theorem law_25 (C : LC p s m meth c b L xs D cy) (hfl : l0.stackTraces = false) (hL : L ≤ 3584) (hin : i + 7 ≤ L) (hcl : cells + 7 ≤ 601024) (hsl : slots + 42 ≤ 7293034) (hR : RR l z) (K : ∀ l' z', RR l' z' → LG p l0 e s m below meth c b D cy (cells + 7) (slots + 42) 2321 (mlA i) [] (GG false l' z')) : LG p l0 e s m below meth c b D cy cells slots 1693 (mlA i) [] (GG false l z) := by
  obtain ⟨n, t, s0, h, hs, hk⟩ := hR
  have hS := sim_state (a := xs (i + 1)) h hs hk
  have hE := Cx (z := z) (e_205 (n := n) (l := l) (P := fun o l' => o = .inl (some (.int (wo 205 (f_56 n (xs (i + 1)) l)).1)) ∧ l' = (wo 205 (f_56 n (xs (i + 1)) l)).2) (x0 := xs (i + 1)) (RX_n h) h.ci ⟨rfl, rfl⟩)
  generalize wo 205 (f_56 n (xs (i + 1)) l) = w at hS hE
  have hM := e_168 (n := n) (t := t) (l := z) (P := fun o z' => o = .inl (some (.int (f_168 n t (xs (i + 1)) z).1)) ∧ z' = (f_168 n t (xs (i + 1)) z).2) (RX_n h) h.1.2.1 h.cz ⟨rfl, rfl⟩
  generalize f_168 n t (xs (i + 1)) z = r at hS hM
  refine Lal (j := 1) (r := 0) C (List.mem_of_getElem? (i := 0) rfl) (by decide +kernel) ?_
  refine Lld (i := i) (k := 1) (j := 1) C (List.mem_of_getElem? (i := 3) rfl) (by decide +kernel) (by decide) (by omega) hL ?_
  refine Lal (j := 3) (r := 332) C (List.mem_of_getElem? (i := 2) rfl) (by decide +kernel) ?_
  refine Lwrap (ix := 225) (rest := []) C hfl hE (li := (lk2 calL 10 225).get!.2) (by decide +kernel) ⟨rfl, Nat.le_of_ble_eq_true rfl⟩ ⟨_, _, rfl⟩ rfl rfl (Nat.zero_le _) (by decide +kernel) ⟨Nat.le_of_ble_eq_true rfl, Nat.le_of_ble_eq_true rfl⟩ (show cells + 1 ≤ 601024 by omega) (show slots + 6 ≤ 7293034 by omega) ?_
  refine Lst5 C (by decide +kernel) ?_
  refine Lal (j := 2) (r := 292) C (List.mem_of_getElem? (i := 2) rfl) (by decide +kernel) ?_
  refine Lld (i := i) (k := 1) (j := 1) C (List.mem_of_getElem? (i := 4) rfl) (by decide +kernel) (by decide) (by omega) hL ?_
  refine Lcall (ix := 227) (rest := []) C hfl (Cm hM) (cpM (k := 292) (n := 1) (li := (lk2 calL 10 227).get!.2) (by decide +kernel) rfl rfl (by decide) rfl rfl rfl rfl) (Or.inr (Or.inl ⟨rfl, by decide +kernel⟩)) ⟨Nat.le_of_ble_eq_true rfl, Nat.le_of_ble_eq_true rfl⟩ (show cells + 1 ≤ 601024 by omega) (show slots + 6 ≤ 7293034 by omega) ?_
  refine Lst6 C (by decide +kernel) ?_
  refine Lthr (k := w.1) C hfl (List.mem_of_getElem? (i := 1) rfl) hS.1 (by decide +kernel) (List.mem_of_getElem? (i := 3) rfl) (show cells + 1 ≤ 601024 by omega) (show slots + 6 ≤ 7293034 by omega) ?_
  refine Lout C hS.2.1 (by decide +kernel) ?_
  refine Lgo (off := 575) (tgt := 2321) C (by decide +kernel) (by decide) (LdC ?_)
  exact Lwid (show cells + 1 ≤ cells + 7 by omega) (show slots + 6 ≤ slots + 42 by omega) (K _ _ hS.2.2)
theorem law_26 (C : LC p s m meth c b L xs D cy) (hfl : l0.stackTraces = false) (hL : L ≤ 3584) (hin : i + 7 ≤ L) (hcl : cells + 7 ≤ 601024) (hsl : slots + 42 ≤ 7293034) (hR : RR l z) (K : ∀ l' z', RR l' z' → LG p l0 e s m below meth c b D cy (cells + 7) (slots + 42) 2321 (mlA i) [] (GG false l' z')) : LG p l0 e s m below meth c b D cy cells slots 1749 (mlA i) [] (GG false l z) := by
  obtain ⟨n, t, s0, h, hs, hk⟩ := hR
  have hS := sim_end (a := xs (i + 1)) h hs hk
  have hE := Cx (z := z) (e_206 (n := n) (l := l) (P := fun o l' => o = .inl (some (.int (wo 206 (f_57 n (xs (i + 1)) l)).1)) ∧ l' = (wo 206 (f_57 n (xs (i + 1)) l)).2) (x0 := xs (i + 1)) (RX_n h) h.ci ⟨rfl, rfl⟩)
  generalize wo 206 (f_57 n (xs (i + 1)) l) = w at hS hE
  have hM := e_169 (n := n) (t := t) (l := z) (P := fun o z' => o = .inl (some (.int (f_169 n t (xs (i + 1)) z).1)) ∧ z' = (f_169 n t (xs (i + 1)) z).2) (RX_n h) h.1.2.1 h.cz ⟨rfl, rfl⟩
  generalize f_169 n t (xs (i + 1)) z = r at hS hM
  refine Lal (j := 1) (r := 0) C (List.mem_of_getElem? (i := 0) rfl) (by decide +kernel) ?_
  refine Lld (i := i) (k := 1) (j := 1) C (List.mem_of_getElem? (i := 3) rfl) (by decide +kernel) (by decide) (by omega) hL ?_
  refine Lal (j := 3) (r := 332) C (List.mem_of_getElem? (i := 2) rfl) (by decide +kernel) ?_
  refine Lwrap (ix := 228) (rest := []) C hfl hE (li := (lk2 calL 10 228).get!.2) (by decide +kernel) ⟨rfl, Nat.le_of_ble_eq_true rfl⟩ ⟨_, _, rfl⟩ rfl rfl (Nat.zero_le _) (by decide +kernel) ⟨Nat.le_of_ble_eq_true rfl, Nat.le_of_ble_eq_true rfl⟩ (show cells + 1 ≤ 601024 by omega) (show slots + 6 ≤ 7293034 by omega) ?_
  refine Lst5 C (by decide +kernel) ?_
  refine Lal (j := 2) (r := 292) C (List.mem_of_getElem? (i := 2) rfl) (by decide +kernel) ?_
  refine Lld (i := i) (k := 1) (j := 1) C (List.mem_of_getElem? (i := 4) rfl) (by decide +kernel) (by decide) (by omega) hL ?_
  refine Lcall (ix := 230) (rest := []) C hfl (Cm hM) (cpM (k := 292) (n := 1) (li := (lk2 calL 10 230).get!.2) (by decide +kernel) rfl rfl (by decide) rfl rfl rfl rfl) (Or.inr (Or.inl ⟨rfl, by decide +kernel⟩)) ⟨Nat.le_of_ble_eq_true rfl, Nat.le_of_ble_eq_true rfl⟩ (show cells + 1 ≤ 601024 by omega) (show slots + 6 ≤ 7293034 by omega) ?_
  refine Lst6 C (by decide +kernel) ?_
  refine Lthr (k := w.1) C hfl (List.mem_of_getElem? (i := 1) rfl) hS.1 (by decide +kernel) (List.mem_of_getElem? (i := 3) rfl) (show cells + 1 ≤ 601024 by omega) (show slots + 6 ≤ 7293034 by omega) ?_
  refine Lout C hS.2.1 (by decide +kernel) ?_
  refine Lgo (off := 519) (tgt := 2321) C (by decide +kernel) (by decide) (LdC ?_)
  exact Lwid (show cells + 1 ≤ cells + 7 by omega) (show slots + 6 ≤ slots + 42 by omega) (K _ _ hS.2.2)
theorem law_27 (C : LC p s m meth c b L xs D cy) (hfl : l0.stackTraces = false) (hL : L ≤ 3584) (hin : i + 7 ≤ L) (hcl : cells + 7 ≤ 601024) (hsl : slots + 42 ≤ 7293034) (hR : RR l z) (K : ∀ l' z', RR l' z' → LG p l0 e s m below meth c b D cy (cells + 7) (slots + 42) 2321 (mlA i) [] (GG false l' z')) : LG p l0 e s m below meth c b D cy cells slots 1805 (mlA i) [] (GG false l z) := by
  obtain ⟨n, t, s0, h, hs, hk⟩ := hR
  have hS := sim_nodeOf (a := xs (i + 1)) h hs hk
  have hE := Cx (z := z) (e_207 (n := n) (l := l) (P := fun o l' => o = .inl (some (.int (wo 207 (f_58 n (xs (i + 1)) l)).1)) ∧ l' = (wo 207 (f_58 n (xs (i + 1)) l)).2) (x0 := xs (i + 1)) (RX_n h) h.ci ⟨rfl, rfl⟩)
  generalize wo 207 (f_58 n (xs (i + 1)) l) = w at hS hE
  have hM := e_170 (n := n) (t := t) (l := z) (P := fun o z' => o = .inl (some (.int (f_170 n t (xs (i + 1)) z).1)) ∧ z' = (f_170 n t (xs (i + 1)) z).2) (RX_n h) h.1.2.1 h.cz ⟨rfl, rfl⟩
  generalize f_170 n t (xs (i + 1)) z = r at hS hM
  refine Lal (j := 1) (r := 0) C (List.mem_of_getElem? (i := 0) rfl) (by decide +kernel) ?_
  refine Lld (i := i) (k := 1) (j := 1) C (List.mem_of_getElem? (i := 3) rfl) (by decide +kernel) (by decide) (by omega) hL ?_
  refine Lal (j := 3) (r := 332) C (List.mem_of_getElem? (i := 2) rfl) (by decide +kernel) ?_
  refine Lwrap (ix := 231) (rest := []) C hfl hE (li := (lk2 calL 10 231).get!.2) (by decide +kernel) ⟨rfl, Nat.le_of_ble_eq_true rfl⟩ ⟨_, _, rfl⟩ rfl rfl (Nat.zero_le _) (by decide +kernel) ⟨Nat.le_of_ble_eq_true rfl, Nat.le_of_ble_eq_true rfl⟩ (show cells + 1 ≤ 601024 by omega) (show slots + 6 ≤ 7293034 by omega) ?_
  refine Lst5 C (by decide +kernel) ?_
  refine Lal (j := 2) (r := 292) C (List.mem_of_getElem? (i := 2) rfl) (by decide +kernel) ?_
  refine Lld (i := i) (k := 1) (j := 1) C (List.mem_of_getElem? (i := 4) rfl) (by decide +kernel) (by decide) (by omega) hL ?_
  refine Lcall (ix := 233) (rest := []) C hfl (Cm hM) (cpM (k := 292) (n := 1) (li := (lk2 calL 10 233).get!.2) (by decide +kernel) rfl rfl (by decide) rfl rfl rfl rfl) (Or.inr (Or.inl ⟨rfl, by decide +kernel⟩)) ⟨Nat.le_of_ble_eq_true rfl, Nat.le_of_ble_eq_true rfl⟩ (show cells + 1 ≤ 601024 by omega) (show slots + 6 ≤ 7293034 by omega) ?_
  refine Lst6 C (by decide +kernel) ?_
  refine Lthr (k := w.1) C hfl (List.mem_of_getElem? (i := 1) rfl) hS.1 (by decide +kernel) (List.mem_of_getElem? (i := 3) rfl) (show cells + 1 ≤ 601024 by omega) (show slots + 6 ≤ 7293034 by omega) ?_
  refine Lout C hS.2.1 (by decide +kernel) ?_
  refine Lgo (off := 463) (tgt := 2321) C (by decide +kernel) (by decide) (LdC ?_)
  exact Lwid (show cells + 1 ≤ cells + 7 by omega) (show slots + 6 ≤ slots + 42 by omega) (K _ _ hS.2.2)
theorem law_28 (C : LC p s m meth c b L xs D cy) (hfl : l0.stackTraces = false) (hL : L ≤ 3584) (hin : i + 7 ≤ L) (hcl : cells + 7 ≤ 601024) (hsl : slots + 42 ≤ 7293034) (hR : RR l z) (K : ∀ l' z', RR l' z' → LG p l0 e s m below meth c b D cy (cells + 7) (slots + 42) 2321 (mlA i) [] (GG false l' z')) : LG p l0 e s m below meth c b D cy cells slots 1861 (mlA i) [] (GG false l z) := by
  obtain ⟨n, t, s0, h, hs, hk⟩ := hR
  have hS := sim_numberOf (a := xs (i + 1)) h hs hk
  have hE := Cx (z := z) (e_208 (n := n) (l := l) (P := fun o l' => o = .inl (some (.int (wo 208 (f_59 n (xs (i + 1)) l)).1)) ∧ l' = (wo 208 (f_59 n (xs (i + 1)) l)).2) (x0 := xs (i + 1)) (RX_n h) h.ci ⟨rfl, rfl⟩)
  generalize wo 208 (f_59 n (xs (i + 1)) l) = w at hS hE
  have hM := e_171 (n := n) (t := t) (l := z) (P := fun o z' => o = .inl (some (.int (f_171 n t (xs (i + 1)) z).1)) ∧ z' = (f_171 n t (xs (i + 1)) z).2) (RX_n h) h.1.2.1 h.cz ⟨rfl, rfl⟩
  generalize f_171 n t (xs (i + 1)) z = r at hS hM
  refine Lal (j := 1) (r := 0) C (List.mem_of_getElem? (i := 0) rfl) (by decide +kernel) ?_
  refine Lld (i := i) (k := 1) (j := 1) C (List.mem_of_getElem? (i := 3) rfl) (by decide +kernel) (by decide) (by omega) hL ?_
  refine Lal (j := 3) (r := 332) C (List.mem_of_getElem? (i := 2) rfl) (by decide +kernel) ?_
  refine Lwrap (ix := 234) (rest := []) C hfl hE (li := (lk2 calL 10 234).get!.2) (by decide +kernel) ⟨rfl, Nat.le_of_ble_eq_true rfl⟩ ⟨_, _, rfl⟩ rfl rfl (Nat.zero_le _) (by decide +kernel) ⟨Nat.le_of_ble_eq_true rfl, Nat.le_of_ble_eq_true rfl⟩ (show cells + 1 ≤ 601024 by omega) (show slots + 6 ≤ 7293034 by omega) ?_
  refine Lst5 C (by decide +kernel) ?_
  refine Lal (j := 2) (r := 292) C (List.mem_of_getElem? (i := 2) rfl) (by decide +kernel) ?_
  refine Lld (i := i) (k := 1) (j := 1) C (List.mem_of_getElem? (i := 4) rfl) (by decide +kernel) (by decide) (by omega) hL ?_
  refine Lcall (ix := 236) (rest := []) C hfl (Cm hM) (cpM (k := 292) (n := 1) (li := (lk2 calL 10 236).get!.2) (by decide +kernel) rfl rfl (by decide) rfl rfl rfl rfl) (Or.inr (Or.inl ⟨rfl, by decide +kernel⟩)) ⟨Nat.le_of_ble_eq_true rfl, Nat.le_of_ble_eq_true rfl⟩ (show cells + 1 ≤ 601024 by omega) (show slots + 6 ≤ 7293034 by omega) ?_
  refine Lst6 C (by decide +kernel) ?_
  refine Lthr (k := w.1) C hfl (List.mem_of_getElem? (i := 1) rfl) hS.1 (by decide +kernel) (List.mem_of_getElem? (i := 3) rfl) (show cells + 1 ≤ 601024 by omega) (show slots + 6 ≤ 7293034 by omega) ?_
  refine Lout C hS.2.1 (by decide +kernel) ?_
  refine Lgo (off := 407) (tgt := 2321) C (by decide +kernel) (by decide) (LdC ?_)
  exact Lwid (show cells + 1 ≤ cells + 7 by omega) (show slots + 6 ≤ slots + 42 by omega) (K _ _ hS.2.2)
theorem law_29 (C : LC p s m meth c b L xs D cy) (hfl : l0.stackTraces = false) (hL : L ≤ 3584) (hin : i + 7 ≤ L) (hcl : cells + 7 ≤ 601024) (hsl : slots + 42 ≤ 7293034) (hR : RR l z) (K : ∀ l' z', RR l' z' → LG p l0 e s m below meth c b D cy (cells + 7) (slots + 42) 2321 (mlA i) [] (GG false l' z')) : LG p l0 e s m below meth c b D cy cells slots 1917 (mlA i) [] (GG false l z) := by
  obtain ⟨n, t, s0, h, hs, hk⟩ := hR
  have hS := sim_placeOf (a := xs (i + 1)) h hs hk
  have hE := Cx (z := z) (e_209 (n := n) (l := l) (P := fun o l' => o = .inl (some (.int (wo 209 (f_60 n (xs (i + 1)) l)).1)) ∧ l' = (wo 209 (f_60 n (xs (i + 1)) l)).2) (x0 := xs (i + 1)) (RX_n h) h.ci ⟨rfl, rfl⟩)
  generalize wo 209 (f_60 n (xs (i + 1)) l) = w at hS hE
  have hM := e_173 (n := n) (t := t) (l := z) (P := fun o z' => o = .inl (some (.int (f_173 n t (xs (i + 1)) z).1)) ∧ z' = (f_173 n t (xs (i + 1)) z).2) (RX_n h) h.1.2.1 h.cz ⟨rfl, rfl⟩
  generalize f_173 n t (xs (i + 1)) z = r at hS hM
  refine Lal (j := 1) (r := 0) C (List.mem_of_getElem? (i := 0) rfl) (by decide +kernel) ?_
  refine Lld (i := i) (k := 1) (j := 1) C (List.mem_of_getElem? (i := 3) rfl) (by decide +kernel) (by decide) (by omega) hL ?_
  refine Lal (j := 3) (r := 332) C (List.mem_of_getElem? (i := 2) rfl) (by decide +kernel) ?_
  refine Lwrap (ix := 237) (rest := []) C hfl hE (li := (lk2 calL 10 237).get!.2) (by decide +kernel) ⟨rfl, Nat.le_of_ble_eq_true rfl⟩ ⟨_, _, rfl⟩ rfl rfl (Nat.zero_le _) (by decide +kernel) ⟨Nat.le_of_ble_eq_true rfl, Nat.le_of_ble_eq_true rfl⟩ (show cells + 1 ≤ 601024 by omega) (show slots + 6 ≤ 7293034 by omega) ?_
  refine Lst5 C (by decide +kernel) ?_
  refine Lal (j := 2) (r := 292) C (List.mem_of_getElem? (i := 2) rfl) (by decide +kernel) ?_
  refine Lld (i := i) (k := 1) (j := 1) C (List.mem_of_getElem? (i := 4) rfl) (by decide +kernel) (by decide) (by omega) hL ?_
  refine Lcall (ix := 239) (rest := []) C hfl (Cm hM) (cpM (k := 292) (n := 1) (li := (lk2 calL 10 239).get!.2) (by decide +kernel) rfl rfl (by decide) rfl rfl rfl rfl) (Or.inr (Or.inl ⟨rfl, by decide +kernel⟩)) ⟨Nat.le_of_ble_eq_true rfl, Nat.le_of_ble_eq_true rfl⟩ (show cells + 1 ≤ 601024 by omega) (show slots + 6 ≤ 7293034 by omega) ?_
  refine Lst6 C (by decide +kernel) ?_
  refine Lthr (k := w.1) C hfl (List.mem_of_getElem? (i := 1) rfl) hS.1 (by decide +kernel) (List.mem_of_getElem? (i := 3) rfl) (show cells + 1 ≤ 601024 by omega) (show slots + 6 ≤ 7293034 by omega) ?_
  refine Lout C hS.2.1 (by decide +kernel) ?_
  refine Lgo (off := 351) (tgt := 2321) C (by decide +kernel) (by decide) (LdC ?_)
  exact Lwid (show cells + 1 ≤ cells + 7 by omega) (show slots + 6 ≤ slots + 42 by omega) (K _ _ hS.2.2)
theorem law_30 (C : LC p s m meth c b L xs D cy) (hfl : l0.stackTraces = false) (hL : L ≤ 3584) (hin : i + 7 ≤ L) (hcl : cells + 7 ≤ 601024) (hsl : slots + 42 ≤ 7293034) (hR : RR l z) (K : ∀ l' z', RR l' z' → LG p l0 e s m below meth c b D cy (cells + 7) (slots + 42) 2321 (mlA i) [] (GG false l' z')) : LG p l0 e s m below meth c b D cy cells slots 1973 (mlA i) [] (GG false l z) := by
  obtain ⟨n, t, s0, h, hs, hk⟩ := hR
  have hS := sim_placeByReplay (a := xs (i + 1)) h hs hk
  have hE := Cx (z := z) (e_210 (n := n) (l := l) (P := fun o l' => o = .inl (some (.int (wo 210 (f_61 n (xs (i + 1)) l)).1)) ∧ l' = (wo 210 (f_61 n (xs (i + 1)) l)).2) (x0 := xs (i + 1)) (RX_n h) h.ci ⟨rfl, rfl⟩)
  generalize wo 210 (f_61 n (xs (i + 1)) l) = w at hS hE
  have hM := e_174 (n := n) (t := t) (l := z) (P := fun o z' => o = .inl (some (.int (f_174 n t (xs (i + 1)) z).1)) ∧ z' = (f_174 n t (xs (i + 1)) z).2) (RX_n h) h.1.2.1 h.cz ⟨rfl, rfl⟩
  generalize f_174 n t (xs (i + 1)) z = r at hS hM
  refine Lal (j := 1) (r := 0) C (List.mem_of_getElem? (i := 0) rfl) (by decide +kernel) ?_
  refine Lld (i := i) (k := 1) (j := 1) C (List.mem_of_getElem? (i := 3) rfl) (by decide +kernel) (by decide) (by omega) hL ?_
  refine Lal (j := 3) (r := 332) C (List.mem_of_getElem? (i := 2) rfl) (by decide +kernel) ?_
  refine Lwrap (ix := 240) (rest := []) C hfl hE (li := (lk2 calL 10 240).get!.2) (by decide +kernel) ⟨rfl, Nat.le_of_ble_eq_true rfl⟩ ⟨_, _, rfl⟩ rfl rfl (Nat.zero_le _) (by decide +kernel) ⟨Nat.le_of_ble_eq_true rfl, Nat.le_of_ble_eq_true rfl⟩ (show cells + 1 ≤ 601024 by omega) (show slots + 6 ≤ 7293034 by omega) ?_
  refine Lst5 C (by decide +kernel) ?_
  refine Lal (j := 2) (r := 292) C (List.mem_of_getElem? (i := 2) rfl) (by decide +kernel) ?_
  refine Lld (i := i) (k := 1) (j := 1) C (List.mem_of_getElem? (i := 4) rfl) (by decide +kernel) (by decide) (by omega) hL ?_
  refine Lcall (ix := 242) (rest := []) C hfl (Cm hM) (cpM (k := 292) (n := 1) (li := (lk2 calL 10 242).get!.2) (by decide +kernel) rfl rfl (by decide) rfl rfl rfl rfl) (Or.inr (Or.inl ⟨rfl, by decide +kernel⟩)) ⟨Nat.le_of_ble_eq_true rfl, Nat.le_of_ble_eq_true rfl⟩ (show cells + 1 ≤ 601024 by omega) (show slots + 6 ≤ 7293034 by omega) ?_
  refine Lst6 C (by decide +kernel) ?_
  refine Lthr (k := w.1) C hfl (List.mem_of_getElem? (i := 1) rfl) hS.1 (by decide +kernel) (List.mem_of_getElem? (i := 3) rfl) (show cells + 1 ≤ 601024 by omega) (show slots + 6 ≤ 7293034 by omega) ?_
  refine Lout C hS.2.1 (by decide +kernel) ?_
  refine Lgo (off := 295) (tgt := 2321) C (by decide +kernel) (by decide) (LdC ?_)
  exact Lwid (show cells + 1 ≤ cells + 7 by omega) (show slots + 6 ≤ slots + 42 by omega) (K _ _ hS.2.2)
theorem law_31 (C : LC p s m meth c b L xs D cy) (hfl : l0.stackTraces = false) (hL : L ≤ 3584) (hin : i + 7 ≤ L) (hcl : cells + 7 ≤ 601024) (hsl : slots + 42 ≤ 7293034) (hR : RR l z) (K : ∀ l' z', RR l' z' → LG p l0 e s m below meth c b D cy (cells + 7) (slots + 42) 2321 (mlA i) [] (GG false l' z')) : LG p l0 e s m below meth c b D cy cells slots 2029 (mlA i) [] (GG false l z) := by
  obtain ⟨n, t, s0, h, hs, hk⟩ := hR
  have hS := sim_waiting (a := xs (i + 1)) h hs hk
  have hE := Cx (z := z) (e_211 (n := n) (l := l) (P := fun o l' => o = .inl (some (.int (wo 211 (f_62 n (xs (i + 1)) l)).1)) ∧ l' = (wo 211 (f_62 n (xs (i + 1)) l)).2) (x0 := xs (i + 1)) (RX_n h) h.ci ⟨rfl, rfl⟩)
  generalize wo 211 (f_62 n (xs (i + 1)) l) = w at hS hE
  have hM := e_175 (n := n) (t := t) (l := z) (P := fun o z' => o = .inl (some (.int (f_175 n t (xs (i + 1)) z).1)) ∧ z' = (f_175 n t (xs (i + 1)) z).2) (RX_n h) h.1.2.1 h.cz ⟨rfl, rfl⟩
  generalize f_175 n t (xs (i + 1)) z = r at hS hM
  refine Lal (j := 1) (r := 0) C (List.mem_of_getElem? (i := 0) rfl) (by decide +kernel) ?_
  refine Lld (i := i) (k := 1) (j := 1) C (List.mem_of_getElem? (i := 3) rfl) (by decide +kernel) (by decide) (by omega) hL ?_
  refine Lal (j := 3) (r := 332) C (List.mem_of_getElem? (i := 2) rfl) (by decide +kernel) ?_
  refine Lwrap (ix := 243) (rest := []) C hfl hE (li := (lk2 calL 10 243).get!.2) (by decide +kernel) ⟨rfl, Nat.le_of_ble_eq_true rfl⟩ ⟨_, _, rfl⟩ rfl rfl (Nat.zero_le _) (by decide +kernel) ⟨Nat.le_of_ble_eq_true rfl, Nat.le_of_ble_eq_true rfl⟩ (show cells + 1 ≤ 601024 by omega) (show slots + 6 ≤ 7293034 by omega) ?_
  refine Lst5 C (by decide +kernel) ?_
  refine Lal (j := 2) (r := 292) C (List.mem_of_getElem? (i := 2) rfl) (by decide +kernel) ?_
  refine Lld (i := i) (k := 1) (j := 1) C (List.mem_of_getElem? (i := 4) rfl) (by decide +kernel) (by decide) (by omega) hL ?_
  refine Lcall (ix := 245) (rest := []) C hfl (Cm hM) (cpM (k := 292) (n := 1) (li := (lk2 calL 10 245).get!.2) (by decide +kernel) rfl rfl (by decide) rfl rfl rfl rfl) (Or.inr (Or.inl ⟨rfl, by decide +kernel⟩)) ⟨Nat.le_of_ble_eq_true rfl, Nat.le_of_ble_eq_true rfl⟩ (show cells + 1 ≤ 601024 by omega) (show slots + 6 ≤ 7293034 by omega) ?_
  refine Lst6 C (by decide +kernel) ?_
  refine Lthr (k := w.1) C hfl (List.mem_of_getElem? (i := 1) rfl) hS.1 (by decide +kernel) (List.mem_of_getElem? (i := 3) rfl) (show cells + 1 ≤ 601024 by omega) (show slots + 6 ≤ 7293034 by omega) ?_
  refine Lout C hS.2.1 (by decide +kernel) ?_
  refine Lgo (off := 239) (tgt := 2321) C (by decide +kernel) (by decide) (LdC ?_)
  exact Lwid (show cells + 1 ≤ cells + 7 by omega) (show slots + 6 ≤ slots + 42 by omega) (K _ _ hS.2.2)
theorem law_32 (C : LC p s m meth c b L xs D cy) (hfl : l0.stackTraces = false) (hL : L ≤ 3584) (hin : i + 7 ≤ L) (hcl : cells + 7 ≤ 601024) (hsl : slots + 42 ≤ 7293034) (hR : RR l z) (K : ∀ l' z', RR l' z' → LG p l0 e s m below meth c b D cy (cells + 7) (slots + 42) 2321 (mlA i) [] (GG false l' z')) : LG p l0 e s m below meth c b D cy cells slots 2085 (mlA i) [] (GG false l z) := by
  obtain ⟨n, t, s0, h, hs, hk⟩ := hR
  have hS := sim_agent (a := xs (i + 1)) h hs hk
  have hE := Cx (z := z) (e_212 (n := n) (l := l) (P := fun o l' => o = .inl (some (.int (wo 212 (f_63 n (xs (i + 1)) l)).1)) ∧ l' = (wo 212 (f_63 n (xs (i + 1)) l)).2) (x0 := xs (i + 1)) (RX_n h) h.ci ⟨rfl, rfl⟩)
  generalize wo 212 (f_63 n (xs (i + 1)) l) = w at hS hE
  have hM := e_176 (n := n) (t := t) (l := z) (P := fun o z' => o = .inl (some (.int (f_176 n t (xs (i + 1)) z).1)) ∧ z' = (f_176 n t (xs (i + 1)) z).2) (RX_n h) h.1.2.1 h.cz ⟨rfl, rfl⟩
  generalize f_176 n t (xs (i + 1)) z = r at hS hM
  refine Lal (j := 1) (r := 0) C (List.mem_of_getElem? (i := 0) rfl) (by decide +kernel) ?_
  refine Lld (i := i) (k := 1) (j := 1) C (List.mem_of_getElem? (i := 3) rfl) (by decide +kernel) (by decide) (by omega) hL ?_
  refine Lal (j := 3) (r := 332) C (List.mem_of_getElem? (i := 2) rfl) (by decide +kernel) ?_
  refine Lwrap (ix := 246) (rest := []) C hfl hE (li := (lk2 calL 10 246).get!.2) (by decide +kernel) ⟨rfl, Nat.le_of_ble_eq_true rfl⟩ ⟨_, _, rfl⟩ rfl rfl (Nat.zero_le _) (by decide +kernel) ⟨Nat.le_of_ble_eq_true rfl, Nat.le_of_ble_eq_true rfl⟩ (show cells + 1 ≤ 601024 by omega) (show slots + 6 ≤ 7293034 by omega) ?_
  refine Lst5 C (by decide +kernel) ?_
  refine Lal (j := 2) (r := 292) C (List.mem_of_getElem? (i := 2) rfl) (by decide +kernel) ?_
  refine Lld (i := i) (k := 1) (j := 1) C (List.mem_of_getElem? (i := 4) rfl) (by decide +kernel) (by decide) (by omega) hL ?_
  refine Lcall (ix := 248) (rest := []) C hfl (Cm hM) (cpM (k := 292) (n := 1) (li := (lk2 calL 10 248).get!.2) (by decide +kernel) rfl rfl (by decide) rfl rfl rfl rfl) (Or.inr (Or.inl ⟨rfl, by decide +kernel⟩)) ⟨Nat.le_of_ble_eq_true rfl, Nat.le_of_ble_eq_true rfl⟩ (show cells + 1 ≤ 601024 by omega) (show slots + 6 ≤ 7293034 by omega) ?_
  refine Lst6 C (by decide +kernel) ?_
  refine Lthr (k := w.1) C hfl (List.mem_of_getElem? (i := 1) rfl) hS.1 (by decide +kernel) (List.mem_of_getElem? (i := 3) rfl) (show cells + 1 ≤ 601024 by omega) (show slots + 6 ≤ 7293034 by omega) ?_
  refine Lout C hS.2.1 (by decide +kernel) ?_
  refine Lgo (off := 183) (tgt := 2321) C (by decide +kernel) (by decide) (LdC ?_)
  exact Lwid (show cells + 1 ≤ cells + 7 by omega) (show slots + 6 ≤ slots + 42 by omega) (K _ _ hS.2.2)
theorem law_33 (C : LC p s m meth c b L xs D cy) (hfl : l0.stackTraces = false) (hL : L ≤ 3584) (hin : i + 7 ≤ L) (hcl : cells + 7 ≤ 601024) (hsl : slots + 42 ≤ 7293034) (hR : RR l z) (K : ∀ l' z', RR l' z' → LG p l0 e s m below meth c b D cy (cells + 7) (slots + 42) 2321 (mlA i) [] (GG false l' z')) : LG p l0 e s m below meth c b D cy cells slots 2141 (mlA i) [] (GG false l z) := by
  obtain ⟨n, t, s0, h, hs, hk⟩ := hR
  have hS := sim_callOf (a := xs (i + 1)) h hs hk
  have hE := Cx (z := z) (e_213 (n := n) (l := l) (P := fun o l' => o = .inl (some (.int (wo 213 (f_64 n (xs (i + 1)) l)).1)) ∧ l' = (wo 213 (f_64 n (xs (i + 1)) l)).2) (x0 := xs (i + 1)) (RX_n h) h.ci ⟨rfl, rfl⟩)
  generalize wo 213 (f_64 n (xs (i + 1)) l) = w at hS hE
  have hM := e_177 (n := n) (t := t) (l := z) (P := fun o z' => o = .inl (some (.int (f_177 n t (xs (i + 1)) z).1)) ∧ z' = (f_177 n t (xs (i + 1)) z).2) (RX_n h) h.1.2.1 h.cz ⟨rfl, rfl⟩
  generalize f_177 n t (xs (i + 1)) z = r at hS hM
  refine Lal (j := 1) (r := 0) C (List.mem_of_getElem? (i := 0) rfl) (by decide +kernel) ?_
  refine Lld (i := i) (k := 1) (j := 1) C (List.mem_of_getElem? (i := 3) rfl) (by decide +kernel) (by decide) (by omega) hL ?_
  refine Lal (j := 3) (r := 332) C (List.mem_of_getElem? (i := 2) rfl) (by decide +kernel) ?_
  refine Lwrap (ix := 249) (rest := []) C hfl hE (li := (lk2 calL 10 249).get!.2) (by decide +kernel) ⟨rfl, Nat.le_of_ble_eq_true rfl⟩ ⟨_, _, rfl⟩ rfl rfl (Nat.zero_le _) (by decide +kernel) ⟨Nat.le_of_ble_eq_true rfl, Nat.le_of_ble_eq_true rfl⟩ (show cells + 1 ≤ 601024 by omega) (show slots + 6 ≤ 7293034 by omega) ?_
  refine Lst5 C (by decide +kernel) ?_
  refine Lal (j := 2) (r := 292) C (List.mem_of_getElem? (i := 2) rfl) (by decide +kernel) ?_
  refine Lld (i := i) (k := 1) (j := 1) C (List.mem_of_getElem? (i := 4) rfl) (by decide +kernel) (by decide) (by omega) hL ?_
  refine Lcall (ix := 251) (rest := []) C hfl (Cm hM) (cpM (k := 292) (n := 1) (li := (lk2 calL 10 251).get!.2) (by decide +kernel) rfl rfl (by decide) rfl rfl rfl rfl) (Or.inr (Or.inl ⟨rfl, by decide +kernel⟩)) ⟨Nat.le_of_ble_eq_true rfl, Nat.le_of_ble_eq_true rfl⟩ (show cells + 1 ≤ 601024 by omega) (show slots + 6 ≤ 7293034 by omega) ?_
  refine Lst6 C (by decide +kernel) ?_
  refine Lthr (k := w.1) C hfl (List.mem_of_getElem? (i := 1) rfl) hS.1 (by decide +kernel) (List.mem_of_getElem? (i := 3) rfl) (show cells + 1 ≤ 601024 by omega) (show slots + 6 ≤ 7293034 by omega) ?_
  refine Lout C hS.2.1 (by decide +kernel) ?_
  refine Lgo (off := 127) (tgt := 2321) C (by decide +kernel) (by decide) (LdC ?_)
  exact Lwid (show cells + 1 ≤ cells + 7 by omega) (show slots + 6 ≤ slots + 42 by omega) (K _ _ hS.2.2)
theorem law_34 (C : LC p s m meth c b L xs D cy) (hfl : l0.stackTraces = false) (hL : L ≤ 3584) (hin : i + 7 ≤ L) (hcl : cells + 7 ≤ 601024) (hsl : slots + 42 ≤ 7293034) (hR : RR l z) (K : ∀ l' z', RR l' z' → LG p l0 e s m below meth c b D cy (cells + 7) (slots + 42) 2321 (mlA i) [] (GG false l' z')) : LG p l0 e s m below meth c b D cy cells slots 2197 (mlA i) [] (GG false l z) := by
  obtain ⟨n, t, s0, h, hs, hk⟩ := hR
  have hS := sim_ways (a := xs (i + 1)) (b := xs (i + 2)) h hs hk
  have hE := Cx (z := z) (e_214 (n := n) (l := l) (P := fun o l' => o = .inl (some (.int (wo 214 (f_65 n (xs (i + 1)) (xs (i + 2)) l)).1)) ∧ l' = (wo 214 (f_65 n (xs (i + 1)) (xs (i + 2)) l)).2) (x0 := xs (i + 1)) (x1 := xs (i + 2)) (RX_n h) h.ci ⟨rfl, rfl⟩)
  generalize wo 214 (f_65 n (xs (i + 1)) (xs (i + 2)) l) = w at hS hE
  have hM := e_178 (n := n) (t := t) (l := z) (P := fun o z' => o = .inl (some (.int (f_178 n t (xs (i + 1)) (xs (i + 2)) z).1)) ∧ z' = (f_178 n t (xs (i + 1)) (xs (i + 2)) z).2) (RX_n h) h.1.2.1 h.cz ⟨rfl, rfl⟩
  generalize f_178 n t (xs (i + 1)) (xs (i + 2)) z = r at hS hM
  refine Lal (j := 1) (r := 0) C (List.mem_of_getElem? (i := 0) rfl) (by decide +kernel) ?_
  refine Lld (i := i) (k := 1) (j := 1) C (List.mem_of_getElem? (i := 3) rfl) (by decide +kernel) (by decide) (by omega) hL ?_
  refine Lld (i := i) (k := 2) (j := 2) C (List.mem_of_getElem? (i := 3) rfl) (by decide +kernel) (by decide) (by omega) hL ?_
  refine Lal (j := 3) (r := 332) C (List.mem_of_getElem? (i := 2) rfl) (by decide +kernel) ?_
  refine Lwrap (ix := 252) (rest := []) C hfl hE (li := (lk2 calL 10 252).get!.2) (by decide +kernel) ⟨rfl, Nat.le_of_ble_eq_true rfl⟩ ⟨_, _, rfl⟩ rfl rfl (Nat.zero_le _) (by decide +kernel) ⟨Nat.le_of_ble_eq_true rfl, Nat.le_of_ble_eq_true rfl⟩ (show cells + 2 ≤ 601024 by omega) (show slots + 12 ≤ 7293034 by omega) ?_
  refine Lst5 C (by decide +kernel) ?_
  refine Lal (j := 2) (r := 292) C (List.mem_of_getElem? (i := 2) rfl) (by decide +kernel) ?_
  refine Lld (i := i) (k := 1) (j := 1) C (List.mem_of_getElem? (i := 4) rfl) (by decide +kernel) (by decide) (by omega) hL ?_
  refine Lld (i := i) (k := 2) (j := 2) C (List.mem_of_getElem? (i := 4) rfl) (by decide +kernel) (by decide) (by omega) hL ?_
  refine Lcall (ix := 254) (rest := []) C hfl (Cm hM) (cpM (k := 292) (n := 2) (li := (lk2 calL 10 254).get!.2) (by decide +kernel) rfl rfl (by decide) rfl rfl rfl rfl) (Or.inr (Or.inl ⟨rfl, by decide +kernel⟩)) ⟨Nat.le_of_ble_eq_true rfl, Nat.le_of_ble_eq_true rfl⟩ (show cells + 2 ≤ 601024 by omega) (show slots + 12 ≤ 7293034 by omega) ?_
  refine Lst6 C (by decide +kernel) ?_
  refine Lthr (k := w.1) C hfl (List.mem_of_getElem? (i := 1) rfl) hS.1 (by decide +kernel) (List.mem_of_getElem? (i := 3) rfl) (show cells + 2 ≤ 601024 by omega) (show slots + 12 ≤ 7293034 by omega) ?_
  refine Lout C hS.2.1 (by decide +kernel) ?_
  refine Lgo (off := 59) (tgt := 2321) C (by decide +kernel) (by decide) (LdC ?_)
  exact Lwid (show cells + 2 ≤ cells + 7 by omega) (show slots + 12 ≤ slots + 42 by omega) (K _ _ hS.2.2)
theorem law_35 (C : LC p s m meth c b L xs D cy) (hfl : l0.stackTraces = false) (hL : L ≤ 3584) (hin : i + 7 ≤ L) (hcl : cells + 7 ≤ 601024) (hsl : slots + 42 ≤ 7293034) (hR : RR l z) (K : ∀ l' z', RR l' z' → LG p l0 e s m below meth c b D cy (cells + 7) (slots + 42) 2321 (mlA i) [] (GG false l' z')) : LG p l0 e s m below meth c b D cy cells slots 2265 (mlA i) [] (GG false l z) := by
  obtain ⟨n, t, s0, h, hs, hk⟩ := hR
  have hS := sim_begun (a := xs (i + 1)) h hs hk
  have hE := Cx (z := z) (e_215 (n := n) (l := l) (P := fun o l' => o = .inl (some (.int (wo 215 (f_66 n (xs (i + 1)) l)).1)) ∧ l' = (wo 215 (f_66 n (xs (i + 1)) l)).2) (x0 := xs (i + 1)) (RX_n h) h.ci ⟨rfl, rfl⟩)
  generalize wo 215 (f_66 n (xs (i + 1)) l) = w at hS hE
  have hM := e_179 (n := n) (t := t) (l := z) (P := fun o z' => o = .inl (some (.int (f_179 n t (xs (i + 1)) z).1)) ∧ z' = (f_179 n t (xs (i + 1)) z).2) (RX_n h) h.1.2.1 h.cz ⟨rfl, rfl⟩
  generalize f_179 n t (xs (i + 1)) z = r at hS hM
  refine Lal (j := 1) (r := 0) C (List.mem_of_getElem? (i := 0) rfl) (by decide +kernel) ?_
  refine Lld (i := i) (k := 1) (j := 1) C (List.mem_of_getElem? (i := 3) rfl) (by decide +kernel) (by decide) (by omega) hL ?_
  refine Lal (j := 3) (r := 332) C (List.mem_of_getElem? (i := 2) rfl) (by decide +kernel) ?_
  refine Lwrap (ix := 255) (rest := []) C hfl hE (li := (lk2 calL 10 255).get!.2) (by decide +kernel) ⟨rfl, Nat.le_of_ble_eq_true rfl⟩ ⟨_, _, rfl⟩ rfl rfl (Nat.zero_le _) (by decide +kernel) ⟨Nat.le_of_ble_eq_true rfl, Nat.le_of_ble_eq_true rfl⟩ (show cells + 1 ≤ 601024 by omega) (show slots + 6 ≤ 7293034 by omega) ?_
  refine Lst5 C (by decide +kernel) ?_
  refine Lal (j := 2) (r := 292) C (List.mem_of_getElem? (i := 2) rfl) (by decide +kernel) ?_
  refine Lld (i := i) (k := 1) (j := 1) C (List.mem_of_getElem? (i := 4) rfl) (by decide +kernel) (by decide) (by omega) hL ?_
  refine Lcall (ix := 257) (rest := []) C hfl (Cm hM) (cpM (k := 292) (n := 1) (li := (lk2 calL 10 257).get!.2) (by decide +kernel) rfl rfl (by decide) rfl rfl rfl rfl) (Or.inr (Or.inl ⟨rfl, by decide +kernel⟩)) ⟨Nat.le_of_ble_eq_true rfl, Nat.le_of_ble_eq_true rfl⟩ (show cells + 1 ≤ 601024 by omega) (show slots + 6 ≤ 7293034 by omega) ?_
  refine Lst6 C (by decide +kernel) ?_
  refine Lthr (k := w.1) C hfl (List.mem_of_getElem? (i := 1) rfl) hS.1 (by decide +kernel) (List.mem_of_getElem? (i := 3) rfl) (show cells + 1 ≤ 601024 by omega) (show slots + 6 ≤ 7293034 by omega) ?_
  refine Lout C hS.2.1 (by decide +kernel) ?_
  refine Lgo (off := 3) (tgt := 2321) C (by decide +kernel) (by decide) (LdC ?_)
  exact Lwid (show cells + 1 ≤ cells + 7 by omega) (show slots + 6 ≤ slots + 42 by omega) (K _ _ hS.2.2)
end LAWC
