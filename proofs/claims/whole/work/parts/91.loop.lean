/-! ===== the law's cases that are not like the rest, and its loop ===== -/
section LAWL
variable {p : Program} {l0 : Launch} {e : Env} {s : State} {m : MethodId} {below : List Frame} {meth : Method} {c : Code} {b L : Nat} {xs : Nat → Int32} {D : va_G} {cy : Nat → ClassId}
variable {cells slots i : Nat} {l z : Sg}
def b01 (x : Int32) : Int32 := if x = 0 then 0 else 1
theorem b01_or (x : Int32) : b01 x = 0 ∨ b01 x = 1 := by unfold b01; split <;> simp
/-- x != 0 -/
theorem Lne {pc : Nat} {ml : ML} {st : List Value} {g : Sg} {x : Int32} (C : LC p s m meth c b L xs D cy) (hd : decode code pc = .ok (.ifCond .eq 7, 3) ∧ decode code (pc + 3) = .ok (.iconst 1, 1) ∧ decode code (pc + 4) = .ok (.goto 4, 3) ∧ decode code (pc + 7) = .ok (.iconst 0, 1))
    (K : LG p l0 e s m below meth c b D cy cells slots (pc + 8) ml (.int (b01 x) :: st) g) : LG p l0 e s m below meth c b D cy cells slots pc ml (.int x :: st) g := by
  obtain ⟨d1, d2, d3, d4⟩ := hd
  intro H locs ls hP hS hl
  have hx := C.1
  have hb := C.2.1
  refine lv_if_eq (tgt := pc + 7) hx hb d1 (by omega) (fun q => ?_) (fun q => ?_)
  · refine lv_iconst (v := 0) hx hb d4 (by decide) ?_
    have := K H locs ls hP hS hl
    unfold b01 at this
    rw [if_pos q] at this
    exact this
  · refine lv_iconst (v := 1) hx hb d2 (by decide) (lv_goto (tgt := pc + 8) hx hb d3 (by omega) ?_)
    have := K H locs ls hP hS hl
    unfold b01 at this
    rw [if_neg q] at this
    exact this
theorem Lout12 {k v : Int32} (C : LC p s m meth c b L xs D cy) (hk : k = 0 → l 332 0 = b01 v)
    (K : LG p l0 e s m below meth c b D cy cells slots 1056 (mlC i k v) [] (GG false l z)) : LG p l0 e s m below meth c b D cy cells slots 1032 (mlC i k v) [] (GG false l z) := by
  intro H locs ls hP hS hl
  have hx := C.1
  have hb := C.2.1
  have hWd := C.2.2.2.2.2.2.1
  have h5 := lv_mem (j := 5) (v := .int k) hl (List.mem_of_getElem? (i := 1) rfl)
  have h6 := lv_mem (j := 6) (v := .int v) hl (List.mem_of_getElem? (i := 0) rfl)
  have h3 := lv_mem (j := 3) (v := .ref 332) hl (List.mem_of_getElem? (i := 4) rfl)
  refine lv_iload hx hb (show decode code 1032 = .ok (.iload 5, 2) by decide +kernel) h5 (lv_if_ne (tgt := 1056) hx hb (show decode code 1034 = .ok (.ifCond .ne 22, 3) by decide +kernel) (by decide) (fun _ => K H locs ls hP hS hl) (fun hk0 => ?_))
  refine lv_aload_n hx hb (show decode code 1037 = .ok (.aload_n 3, 1) by decide +kernel) rfl h3 (lv_iconst (v := 0) hx hb (show decode code 1038 = .ok (.iconst 0, 1) by decide +kernel) (by decide) ?_)
  have hc : (heapOf (GG false l z))[332]? = some (102, [.long (l 332 0).toInt64]) := by
    rw [heapOf_at (by decide)]
    rfl
  have ha := wsOf_get (b := s.heap.size) (cy := cy) hc
  rw [trC_long] at ha
  refine va_lald (i := 0) hx hb hWd.1 hP 332 2 ha rfl (show vp_in 0 1 by unfold vp_in; decide) (show decode code 1039 = .ok (.laload, 1) by decide +kernel) (lv_iload hx hb (show decode code 1040 = .ok (.iload 6, 2) by decide +kernel) h6 ?_)
  have key : ∀ y : Int64, y = (b01 v).toInt64 → W p l0 e room_1 s m #[Value.ref b] below meth c H locs cells slots (lw_Z below #[Value.ref b] s) (F0 m 1050 ls [.long y, .long (l 332 0).toInt64]) := by
    rintro y rfl
    refine W.lcmp hx hb (show decode code 1050 = .ok (.lcmp, 1) by decide +kernel) ?_
    have hcmp : lg_cmp (l 332 0).toInt64 (b01 v).toInt64 = 0 := by rw [hk hk0]; unfold lg_cmp; simp
    refine lv_if_eq (tgt := 1056) hx hb (show decode code 1051 = .ok (.ifCond .eq 5, 3) by decide +kernel) (by decide) (fun _ => K H locs ls hP hS hl) (fun q2 => absurd hcmp q2)
  refine lv_if_eq (tgt := 1049) hx hb (show decode code 1042 = .ok (.ifCond .eq 7, 3) by decide +kernel) (by decide) (fun q => ?_) (fun q => ?_)
  · refine lv_lconst hx hb (show decode code 1049 = .ok (.lconst 0, 1) by decide +kernel) rfl (key _ ?_)
    unfold b01
    rw [if_pos q]
    rfl
  · refine lv_lconst hx hb (show decode code 1045 = .ok (.lconst 1, 1) by decide +kernel) rfl (lv_goto (tgt := 1050) hx hb (show decode code 1046 = .ok (.goto 4, 3) by decide +kernel) (by decide) (key _ ?_))
    unfold b01
    rw [if_neg q]
    rfl
theorem law_12 (C : LC p s m meth c b L xs D cy) (hfl : l0.stackTraces = false) (hL : L ≤ 3584) (hin : i + 7 ≤ L) (hcl : cells + 7 ≤ 601024) (hsl : slots + 42 ≤ 7293034) (hR : RR l z) (K : ∀ l' z', RR l' z' → LG p l0 e s m below meth c b D cy (cells + 7) (slots + 42) 2321 (mlA i) [] (GG false l' z')) : LG p l0 e s m below meth c b D cy cells slots 968 (mlA i) [] (GG false l z) := by
  obtain ⟨n, t, s0, h, hs, hk⟩ := hR
  have hS := sim_holiday (a := xs (i + 1)) (b := b01 (xs (i + 2))) h hs hk (b01_or _)
  have hz : ∀ j, j < 84 → z 295 j = 0 ∨ z 295 j = 1 := h.1.2.2.2.2.2.2.2.2.2.2.2.1
  have hlz : ∀ j, j < 84 → l 295 j = 0 ∨ l 295 j = 1 := fun j hj => by rw [h.1.2.2.2.2.2.2.2.2.2.2.1 295 j rfl]; exact hz j hj
  have hE := Cx (z := z) (e_194 (n := n) (l := l) (P := fun o l' => o = .inl (some (.int (wh 194 (f_43 n (xs (i + 1)) (b01 (xs (i + 2))) l)).1)) ∧ l' = (wh 194 (f_43 n (xs (i + 1)) (b01 (xs (i + 2))) l)).2) (x0 := xs (i + 1)) (x1 := b01 (xs (i + 2))) (RX_n h) h.ci (b01_or _) hlz ⟨rfl, rfl⟩)
  generalize wh 194 (f_43 n (xs (i + 1)) (b01 (xs (i + 2))) l) = w at hS hE
  have hM := e_125 (n := n) (t := t) (l := z) (P := fun o z' => o = .inl (some (.int (f_125 n t (xs (i + 1)) (b01 (xs (i + 2))) z).1)) ∧ z' = (f_125 n t (xs (i + 1)) (b01 (xs (i + 2))) z).2) (RX_n h) h.1.2.1 h.cz (b01_or _) hz ⟨rfl, rfl⟩
  generalize f_125 n t (xs (i + 1)) (b01 (xs (i + 2))) z = r at hS hM
  refine Lal (j := 1) (r := 0) C (List.mem_of_getElem? (i := 0) rfl) (by decide +kernel) ?_
  refine Lld (i := i) (k := 1) (j := 1) C (List.mem_of_getElem? (i := 3) rfl) (by decide +kernel) (by decide) (by omega) hL ?_
  refine Lld (i := i) (k := 2) (j := 2) C (List.mem_of_getElem? (i := 3) rfl) (by decide +kernel) (by decide) (by omega) hL ?_
  refine Lne C (by decide +kernel) ?_
  refine Lal (j := 3) (r := 332) C (List.mem_of_getElem? (i := 2) rfl) (by decide +kernel) ?_
  refine Lwrap (ix := 180) (rest := []) C hfl hE (li := (lk2 calL 10 180).get!.2) (by decide +kernel) ⟨rfl, Nat.le_of_ble_eq_true rfl⟩ ⟨_, _, rfl⟩ rfl rfl (Nat.zero_le _) (by decide +kernel) ⟨Nat.le_of_ble_eq_true rfl, Nat.le_of_ble_eq_true rfl⟩ (show cells + 1 ≤ 601024 by omega) (show slots + 6 ≤ 7293034 by omega) ?_
  refine Lst5 C (by decide +kernel) ?_
  refine Lal (j := 2) (r := 292) C (List.mem_of_getElem? (i := 2) rfl) (by decide +kernel) ?_
  refine Lld (i := i) (k := 1) (j := 1) C (List.mem_of_getElem? (i := 4) rfl) (by decide +kernel) (by decide) (by omega) hL ?_
  refine Lld (i := i) (k := 2) (j := 2) C (List.mem_of_getElem? (i := 4) rfl) (by decide +kernel) (by decide) (by omega) hL ?_
  refine Lne C (by decide +kernel) ?_
  refine Lcall (ix := 183) (rest := []) C hfl (Cm hM) (cpM (k := 292) (n := 2) (li := (lk2 calL 10 183).get!.2) (by decide +kernel) rfl rfl (by decide) rfl rfl rfl rfl) (Or.inr (Or.inl ⟨rfl, by decide +kernel⟩)) ⟨Nat.le_of_ble_eq_true rfl, Nat.le_of_ble_eq_true rfl⟩ (show cells + 1 ≤ 601024 by omega) (show slots + 6 ≤ 7293034 by omega) ?_
  refine Lst6 C (by decide +kernel) ?_
  refine Lthr (k := w.1) C hfl (List.mem_of_getElem? (i := 1) rfl) hS.1 (by decide +kernel) (List.mem_of_getElem? (i := 3) rfl) (show cells + 1 ≤ 601024 by omega) (show slots + 6 ≤ 7293034 by omega) ?_
  refine Lout12 C hS.2.1 ?_
  refine Lgo (off := 1265) (tgt := 2321) C (by decide +kernel) (by decide) (LdC ?_)
  exact Lwid (show cells + 1 ≤ cells + 7 by omega) (show slots + 6 ≤ slots + 42 by omega) (K _ _ hS.2.2)
theorem law_13 (C : LC p s m meth c b L xs D cy) (hfl : l0.stackTraces = false) (hL : L ≤ 3584) (hin : i + 7 ≤ L) (hcl : cells + 7 ≤ 601024) (hsl : slots + 42 ≤ 7293034) (hR : RR l z) (K : ∀ l' z', RR l' z' → LG p l0 e s m below meth c b D cy (cells + 7) (slots + 42) 2321 (mlA i) [] (GG false l' z')) : LG p l0 e s m below meth c b D cy cells slots 1059 (mlA i) [] (GG false l z) := by
  obtain ⟨n, t, s0, h, hs, hk⟩ := hR
  have hS := sim_isOpen h hs hk
  have hE := Cx (z := z) (e_44 (l := l) (P := fun o l' => o = .inl (some (.int (f_44 l))) ∧ l' = l) ⟨rfl, rfl⟩)
  have hM := e_127 (n := n) (t := t) (l := z) (P := fun o z' => o = .inl (some (.int (f_127 n t z).1)) ∧ z' = (f_127 n t z).2) (RX_n h) h.1.2.1 h.cz ⟨rfl, rfl⟩
  generalize f_44 l = w at hS hE
  generalize f_127 n t z = r at hS hM
  refine Lal (j := 1) (r := 0) C (List.mem_of_getElem? (i := 0) rfl) (by decide +kernel) ?_
  refine Lcall (ix := 184) (rest := []) C hfl hE (cpM (k := 0) (n := 0) (li := (lk2 calL 10 184).get!.2) (by decide +kernel) rfl rfl (by decide) rfl rfl rfl rfl) (Or.inr (Or.inl ⟨rfl, by decide +kernel⟩)) ⟨Nat.le_of_ble_eq_true rfl, Nat.le_of_ble_eq_true rfl⟩ (show cells + 0 ≤ 601024 by omega) (show slots + 0 ≤ 7293034 by omega) ?_
  refine Lal (j := 2) (r := 292) C (List.mem_of_getElem? (i := 1) rfl) (by decide +kernel) ?_
  refine Lcall (ix := 188) (rest := [.int w]) C hfl (Cm hM) (cpM (k := 292) (n := 0) (li := (lk2 calL 10 188).get!.2) (by decide +kernel) rfl rfl (by decide) rfl rfl rfl rfl) (Or.inr (Or.inl ⟨rfl, by decide +kernel⟩)) ⟨Nat.le_of_ble_eq_true rfl, Nat.le_of_ble_eq_true rfl⟩ (show cells + 0 ≤ 601024 by omega) (show slots + 0 ≤ 7293034 by omega) ?_
  intro H locs ls hP hS1 hl
  refine lv_icmp_eq (tgt := 2321) C.1 C.2.1 (show decode code (1059 + 1 + 3 + 1 + 3) = .ok (.if_icmp .eq 1254, 3) by decide +kernel) (by decide) (fun _ => ?_) (fun q => absurd hS.1 q)
  exact Lwid (show cells + 0 ≤ cells + 7 by omega) (show slots + 0 ≤ slots + 42 by omega) (K _ _ hS.2) H locs ls hP hS1 hl
theorem law_24 (C : LC p s m meth c b L xs D cy) (hfl : l0.stackTraces = false) (hL : L ≤ 3584) (hin : i + 7 ≤ L) (hcl : cells + 7 ≤ 601024) (hsl : slots + 42 ≤ 7293034) (hR : RR l z) (K : ∀ l' z', RR l' z' → LG p l0 e s m below meth c b D cy (cells + 7) (slots + 42) 2321 (mlA i) [] (GG false l' z')) : LG p l0 e s m below meth c b D cy cells slots 1680 (mlA i) [] (GG false l z) := by
  obtain ⟨n, t, s0, h, hs, hk⟩ := hR
  have hS := sim_calls h hs hk
  have hE := Cx (z := z) (e_55 (n := n) (l := l) (P := fun o l' => o = .inl (some (.int (f_55 n l))) ∧ l' = l) (RX_n h) h.ci ⟨rfl, rfl⟩)
  have hM := e_167 (n := n) (t := t) (l := z) (P := fun o z' => o = .inl (some (.int (f_167 n t z).1)) ∧ z' = (f_167 n t z).2) (RX_n h) h.1.2.1 h.cz ⟨rfl, rfl⟩
  generalize f_55 n l = w at hS hE
  generalize f_167 n t z = r at hS hM
  refine Lal (j := 1) (r := 0) C (List.mem_of_getElem? (i := 0) rfl) (by decide +kernel) ?_
  refine Lcall (ix := 221) (rest := []) C hfl hE (cpM (k := 0) (n := 0) (li := (lk2 calL 10 221).get!.2) (by decide +kernel) rfl rfl (by decide) rfl rfl rfl rfl) (Or.inr (Or.inl ⟨rfl, by decide +kernel⟩)) ⟨Nat.le_of_ble_eq_true rfl, Nat.le_of_ble_eq_true rfl⟩ (show cells + 0 ≤ 601024 by omega) (show slots + 0 ≤ 7293034 by omega) ?_
  refine Lal (j := 2) (r := 292) C (List.mem_of_getElem? (i := 1) rfl) (by decide +kernel) ?_
  refine Lcall (ix := 224) (rest := [.int w]) C hfl (Cm hM) (cpM (k := 292) (n := 0) (li := (lk2 calL 10 224).get!.2) (by decide +kernel) rfl rfl (by decide) rfl rfl rfl rfl) (Or.inr (Or.inl ⟨rfl, by decide +kernel⟩)) ⟨Nat.le_of_ble_eq_true rfl, Nat.le_of_ble_eq_true rfl⟩ (show cells + 0 ≤ 601024 by omega) (show slots + 0 ≤ 7293034 by omega) ?_
  intro H locs ls hP hS1 hl
  refine lv_icmp_eq (tgt := 2321) C.1 C.2.1 (show decode code (1680 + 1 + 3 + 1 + 3) = .ok (.if_icmp .eq 633, 3) by decide +kernel) (by decide) (fun _ => ?_) (fun q => absurd hS.1 q)
  exact Lwid (show cells + 0 ≤ cells + 7 by omega) (show slots + 0 ≤ slots + 42 by omega) (K _ _ hS.2) H locs ls hP hS1 hl
theorem le7 {L i : Nat} (hL : L ≤ 3584) (hi : i ≤ 3584) (h : ¬ i32 L - 7 < i32 i) : i + 7 ≤ L := by
  rw [Int32.lt_iff_toInt_lt, Int32.toInt_sub, i32_int (by omega), i32_int (by omega)] at h
  have e7 : (7 : Int32).toInt = 7 := by decide
  rw [e7, Int.bmod_eq_of_le (by omega) (by omega)] at h
  omega
theorem and63 (x : Int32) : ∃ q, q < 64 ∧ x &&& 63 = i32 q := by
  refine ⟨(x.toBitVec &&& 63#32).toNat, ?_, ?_⟩
  · rw [BitVec.toNat_and]
    exact Nat.lt_succ_of_le Nat.and_le_right
  · apply Int32.toBitVec_inj.mp
    apply BitVec.eq_of_toNat_eq
    show (x.toBitVec &&& 63#32).toNat = (BitVec.ofNat 32 (x.toBitVec &&& 63#32).toNat).toNat
    rw [BitVec.toNat_ofNat, Nat.mod_eq_of_lt (BitVec.isLt _)]
theorem dT : decode code 40 = .ok (.tableswitch 2281 0 35 #[160, 220, 256, 336, 408, 492, 590, 650, 686, 784, 832, 868, 928, 1019, 1032, 1088, 1156, 1212, 1268, 1336, 1392, 1460, 1516, 1584, 1640, 1653, 1709, 1765, 1821, 1877, 1933, 1989, 2045, 2101, 2157, 2225], 160) := by decide +kernel
theorem i32_small {q : Nat} (h : q < 64) : (i32 q).toInt = (q : Int) := i32_int (by omega)
theorem law_case (C : LC p s m meth c b L xs D cy) (hfl : l0.stackTraces = false) (hL : L ≤ 3584) (hin : i + 7 ≤ L) (hcl : cells + 7 ≤ 601024) (hsl : slots + 42 ≤ 7293034) (hR : RR l z) (K : ∀ l' z', RR l' z' → LG p l0 e s m below meth c b D cy (cells + 7) (slots + 42) 2321 (mlA i) [] (GG false l' z')) : ∀ q, q < 64 → LG p l0 e s m below meth c b D cy cells slots 40 (mlA i) [.int (i32 q)] (GG false l z) := by
  intro q hq H locs ls hP hS hl
  have hx := C.1
  have hb := C.2.1
  match q, hq with
  | 0, _ => exact lv_tableIn (off := 160) (tgt := 200) hx hb dT (by decide) (by decide) (by decide) (by decide) (law_0 C hfl hL hin hcl hsl hR K H locs ls hP hS hl)
  | 1, _ => exact lv_tableIn (off := 220) (tgt := 260) hx hb dT (by decide) (by decide) (by decide) (by decide) (law_1 C hfl hL hin hcl hsl hR K H locs ls hP hS hl)
  | 2, _ => exact lv_tableIn (off := 256) (tgt := 296) hx hb dT (by decide) (by decide) (by decide) (by decide) (law_2 C hfl hL hin hcl hsl hR K H locs ls hP hS hl)
  | 3, _ => exact lv_tableIn (off := 336) (tgt := 376) hx hb dT (by decide) (by decide) (by decide) (by decide) (law_3 C hfl hL hin hcl hsl hR K H locs ls hP hS hl)
  | 4, _ => exact lv_tableIn (off := 408) (tgt := 448) hx hb dT (by decide) (by decide) (by decide) (by decide) (law_4 C hfl hL hin hcl hsl hR K H locs ls hP hS hl)
  | 5, _ => exact lv_tableIn (off := 492) (tgt := 532) hx hb dT (by decide) (by decide) (by decide) (by decide) (law_5 C hfl hL hin hcl hsl hR K H locs ls hP hS hl)
  | 6, _ => exact lv_tableIn (off := 590) (tgt := 630) hx hb dT (by decide) (by decide) (by decide) (by decide) (law_6 C hfl hL hin hcl hsl hR K H locs ls hP hS hl)
  | 7, _ => exact lv_tableIn (off := 650) (tgt := 690) hx hb dT (by decide) (by decide) (by decide) (by decide) (law_7 C hfl hL hin hcl hsl hR K H locs ls hP hS hl)
  | 8, _ => exact lv_tableIn (off := 686) (tgt := 726) hx hb dT (by decide) (by decide) (by decide) (by decide) (law_8 C hfl hL hin hcl hsl hR K H locs ls hP hS hl)
  | 9, _ => exact lv_tableIn (off := 784) (tgt := 824) hx hb dT (by decide) (by decide) (by decide) (by decide) (law_9 C hfl hL hin hcl hsl hR K H locs ls hP hS hl)
  | 10, _ => exact lv_tableIn (off := 832) (tgt := 872) hx hb dT (by decide) (by decide) (by decide) (by decide) (law_10 C hfl hL hin hcl hsl hR K H locs ls hP hS hl)
  | 11, _ => exact lv_tableIn (off := 868) (tgt := 908) hx hb dT (by decide) (by decide) (by decide) (by decide) (law_11 C hfl hL hin hcl hsl hR K H locs ls hP hS hl)
  | 12, _ => exact lv_tableIn (off := 928) (tgt := 968) hx hb dT (by decide) (by decide) (by decide) (by decide) (law_12 C hfl hL hin hcl hsl hR K H locs ls hP hS hl)
  | 13, _ => exact lv_tableIn (off := 1019) (tgt := 1059) hx hb dT (by decide) (by decide) (by decide) (by decide) (law_13 C hfl hL hin hcl hsl hR K H locs ls hP hS hl)
  | 14, _ => exact lv_tableIn (off := 1032) (tgt := 1072) hx hb dT (by decide) (by decide) (by decide) (by decide) (law_14 C hfl hL hin hcl hsl hR K H locs ls hP hS hl)
  | 15, _ => exact lv_tableIn (off := 1088) (tgt := 1128) hx hb dT (by decide) (by decide) (by decide) (by decide) (law_15 C hfl hL hin hcl hsl hR K H locs ls hP hS hl)
  | 16, _ => exact lv_tableIn (off := 1156) (tgt := 1196) hx hb dT (by decide) (by decide) (by decide) (by decide) (law_16 C hfl hL hin hcl hsl hR K H locs ls hP hS hl)
  | 17, _ => exact lv_tableIn (off := 1212) (tgt := 1252) hx hb dT (by decide) (by decide) (by decide) (by decide) (law_17 C hfl hL hin hcl hsl hR K H locs ls hP hS hl)
  | 18, _ => exact lv_tableIn (off := 1268) (tgt := 1308) hx hb dT (by decide) (by decide) (by decide) (by decide) (law_18 C hfl hL hin hcl hsl hR K H locs ls hP hS hl)
  | 19, _ => exact lv_tableIn (off := 1336) (tgt := 1376) hx hb dT (by decide) (by decide) (by decide) (by decide) (law_19 C hfl hL hin hcl hsl hR K H locs ls hP hS hl)
  | 20, _ => exact lv_tableIn (off := 1392) (tgt := 1432) hx hb dT (by decide) (by decide) (by decide) (by decide) (law_20 C hfl hL hin hcl hsl hR K H locs ls hP hS hl)
  | 21, _ => exact lv_tableIn (off := 1460) (tgt := 1500) hx hb dT (by decide) (by decide) (by decide) (by decide) (law_21 C hfl hL hin hcl hsl hR K H locs ls hP hS hl)
  | 22, _ => exact lv_tableIn (off := 1516) (tgt := 1556) hx hb dT (by decide) (by decide) (by decide) (by decide) (law_22 C hfl hL hin hcl hsl hR K H locs ls hP hS hl)
  | 23, _ => exact lv_tableIn (off := 1584) (tgt := 1624) hx hb dT (by decide) (by decide) (by decide) (by decide) (law_23 C hfl hL hin hcl hsl hR K H locs ls hP hS hl)
  | 24, _ => exact lv_tableIn (off := 1640) (tgt := 1680) hx hb dT (by decide) (by decide) (by decide) (by decide) (law_24 C hfl hL hin hcl hsl hR K H locs ls hP hS hl)
  | 25, _ => exact lv_tableIn (off := 1653) (tgt := 1693) hx hb dT (by decide) (by decide) (by decide) (by decide) (law_25 C hfl hL hin hcl hsl hR K H locs ls hP hS hl)
  | 26, _ => exact lv_tableIn (off := 1709) (tgt := 1749) hx hb dT (by decide) (by decide) (by decide) (by decide) (law_26 C hfl hL hin hcl hsl hR K H locs ls hP hS hl)
  | 27, _ => exact lv_tableIn (off := 1765) (tgt := 1805) hx hb dT (by decide) (by decide) (by decide) (by decide) (law_27 C hfl hL hin hcl hsl hR K H locs ls hP hS hl)
  | 28, _ => exact lv_tableIn (off := 1821) (tgt := 1861) hx hb dT (by decide) (by decide) (by decide) (by decide) (law_28 C hfl hL hin hcl hsl hR K H locs ls hP hS hl)
  | 29, _ => exact lv_tableIn (off := 1877) (tgt := 1917) hx hb dT (by decide) (by decide) (by decide) (by decide) (law_29 C hfl hL hin hcl hsl hR K H locs ls hP hS hl)
  | 30, _ => exact lv_tableIn (off := 1933) (tgt := 1973) hx hb dT (by decide) (by decide) (by decide) (by decide) (law_30 C hfl hL hin hcl hsl hR K H locs ls hP hS hl)
  | 31, _ => exact lv_tableIn (off := 1989) (tgt := 2029) hx hb dT (by decide) (by decide) (by decide) (by decide) (law_31 C hfl hL hin hcl hsl hR K H locs ls hP hS hl)
  | 32, _ => exact lv_tableIn (off := 2045) (tgt := 2085) hx hb dT (by decide) (by decide) (by decide) (by decide) (law_32 C hfl hL hin hcl hsl hR K H locs ls hP hS hl)
  | 33, _ => exact lv_tableIn (off := 2101) (tgt := 2141) hx hb dT (by decide) (by decide) (by decide) (by decide) (law_33 C hfl hL hin hcl hsl hR K H locs ls hP hS hl)
  | 34, _ => exact lv_tableIn (off := 2157) (tgt := 2197) hx hb dT (by decide) (by decide) (by decide) (by decide) (law_34 C hfl hL hin hcl hsl hR K H locs ls hP hS hl)
  | 35, _ => exact lv_tableIn (off := 2225) (tgt := 2265) hx hb dT (by decide) (by decide) (by decide) (by decide) (law_35 C hfl hL hin hcl hsl hR K H locs ls hP hS hl)
  | q + 36, hq => exact lv_tableOut (tgt := 2321) hx hb dT (Or.inr (by rw [i32_small hq]; omega)) (by decide) (Lwid (Nat.le_add_right _ _) (Nat.le_add_right _ _) (K _ _ hR) H locs ls hP hS hl)
theorem law_loop (C : LC p s m meth c b L xs D cy) (hfl : l0.stackTraces = false) (hL : L ≤ 3584) : ∀ (d i cells slots : Nat) (l z : Sg), L + 1 ≤ i + d → i ≤ L → cells ≤ 400 + i → slots ≤ 14000 + 6 * i → RR l z → LG p l0 e s m below meth c b D cy cells slots 23 (mlA i) [] (GG false l z) := by
  obtain ⟨hx, hb, hr, hml, hown, hts, hWd, hX, hbl, hlocks⟩ := id C
  intro d
  induction d with
  | zero => intro i cells slots l z h1 h2; exact absurd h1 (by omega)
  | succ d ih =>
    intro i cells slots l z h1 h2 h3 h4 hR H locs ls hP hS hl
    have g4 := lv_mem (j := 4) (v := .int (i32 i)) hl (List.mem_of_getElem? (i := 3) rfl)
    refine lv_iload hx hb (show decode code 23 = .ok (.iload 4, 2) by decide +kernel) g4 (lv_aload_n hx hb (show decode code 25 = .ok (.aload_n 0, 1) by decide +kernel) rfl (lv_zero hl) (va_slen (s := s) hx hb hX hbl (AB_no C) hS (show decode code 26 = .ok (.arraylength, 1) by decide +kernel) (lv_bipush (v := 7) hx hb (show decode code 27 = .ok (.bipush 7, 2) by decide +kernel) (by decide) (lv_isub hx hb (show decode code 29 = .ok (.isub, 1) by decide +kernel) ?_))))
    refine lv_icmp_gt (tgt := 2327) hx hb (show decode code 30 = .ok (.if_icmp .gt 2297, 3) by decide +kernel) (by decide) (fun _ => ?_) (fun hn => ?_)
    · refine lv_iconst (v := 1) hx hb (show decode code 2327 = .ok (.iconst 1, 1) by decide +kernel) (by decide) ?_
      refine va_forget (fun q hq => hS.2.2 q hq) ?_
      refine W.widen (k := 601024) (n := 7293034) (by omega) (by omega) ?_
      exact lw_ret hx hb hr hlocks (show decode code 2328 = .ok (.ireturn, 1) by decide +kernel)
    · have hin : i + 7 ≤ L := le7 hL (by omega) hn
      have hcl : (i32 i).toNatClampNeg = i := i32_cl (by omega)
      refine lv_aload_n hx hb (show decode code 33 = .ok (.aload_n 0, 1) by decide +kernel) rfl (lv_zero hl) (lv_iload hx hb (show decode code 34 = .ok (.iload 4, 2) by decide +kernel) g4 ?_)
      refine va_sld (s := s) hx hb hX hbl (AB_no C) hS (fun q => ?_) (show decode code 36 = .ok (.iaload, 1) by decide +kernel) (lv_bipush (v := 63) hx hb (show decode code 37 = .ok (.bipush 63, 2) by decide +kernel) (by decide) (lv_iand hx hb (show decode code 39 = .ok (.iand, 1) by decide +kernel) ?_))
      · rcases q with q | q
        · exact i32_nn (by omega) q
        · rw [hcl] at q; omega
      obtain ⟨q, hq, e1⟩ := and63 (xs (i32 i).toNatClampNeg)
      rw [e1]
      refine law_case C hfl hL hin (show cells + 7 ≤ 601024 by omega) (show slots + 42 ≤ 7293034 by omega) hR (fun l' z' hR' => ?_) q hq H locs ls hP hS hl
      intro H1 locs1 ls1 hP1 hS1 hl1
      refine lv_iinc (k := 4) (v := i32 (i + 7)) hx hb (show decode code 2321 = .ok (.iinc 4 7, 3) by decide +kernel) hl1 rfl (i32_add i 7) (by decide) rfl (fun ls' hl' => ?_)
      refine lv_goto (tgt := 23) hx hb (show decode code 2324 = .ok (.goto (-2301), 3) by decide +kernel) (by decide) ?_
      exact ih (i + 7) (cells + 7) (slots + 42) l' z' (by omega) (by omega) (by omega) (by omega) hR' H1 locs1 ls' hP1 hS1 (lv_sub hl' [1, 2, 3, 4, 0] rfl)
end LAWL
