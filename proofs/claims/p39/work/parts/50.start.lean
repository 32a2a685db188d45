/-! ===== what holds at the law's start ===== -/
def FL : List Jvm.Cond := flatC (Jvm.Cond.and given_1 narrow_1)
theorem fl_of {b : Nat} {s : State} (hg : (Jvm.Cond.and given_1 narrow_1).before #[Value.ref b] s = true) {i : Nat} {w : Jvm.Cond} (h : FL[i]? = some w) : w.before #[Value.ref b] s = true := flat_of_before _ hg w (List.mem_of_getElem? h)
theorem fl_u : FL[4]? = some (Jvm.Cond.isRef (.static Bundle.tN "UNASSIGNED_STACK" Bundle.steD)) := by decide +kernel
theorem fl_n : FL[5]? = some (Jvm.Cond.isRef (.static Bundle.tN "SUPPRESSED_SENTINEL" Bundle.listD)) := by decide +kernel
theorem fl_c01 : FL[22]? = some (Jvm.Cond.not (.castable "java/lang/IndexOutOfBoundsException" "java/lang/IllegalArgumentException")) := by decide +kernel
theorem fl_c02 : FL[32]? = some (Jvm.Cond.not (.castable "java/lang/IndexOutOfBoundsException" "java/lang/IllegalStateException")) := by decide +kernel
theorem fl_c10 : FL[13]? = some (Jvm.Cond.not (.castable "java/lang/IllegalArgumentException" "java/lang/IndexOutOfBoundsException")) := by decide +kernel
theorem fl_c12 : FL[31]? = some (Jvm.Cond.not (.castable "java/lang/IllegalArgumentException" "java/lang/IllegalStateException")) := by decide +kernel
theorem fl_c20 : FL[14]? = some (Jvm.Cond.not (.castable "java/lang/IllegalStateException" "java/lang/IndexOutOfBoundsException")) := by decide +kernel
theorem fl_c21 : FL[23]? = some (Jvm.Cond.not (.castable "java/lang/IllegalStateException" "java/lang/IllegalArgumentException")) := by decide +kernel
/-- the strings: pool place, place among the premises, place among the words -/
def stL : List (Nat × Nat × Nat) := [(83, 343, 710), (98, 377, 718), (109, 532, 822), (145, 591, 843), (167, 123, 461), (182, 170, 611), (194, 419, 727), (199, 452, 732), (243, 270, 662), (284, 33, 377), (287, 72, 436), (289, 149, 610), (291, 206, 652), (295, 104, 450), (298, 312, 709), (300, 49, 417), (302, 230, 657), (304, 492, 749)]
theorem st_c1 : (thrL.zip stL).all (fun q => decide (q.2.1 = q.1.2.1.2.2.1) && (decide (FL[q.2.2.1]? = some (Jvm.Cond.exactly (.string RX6 q.1.2.1.2.2.1) "java/lang/String")) && decide (lw_tbl[q.2.2.2]? = some (Jvm.Cond.stringRef RX6 q.1.2.1.2.2.1 q.1.2.2)))) = true := by decide +kernel
theorem st_c2 : thrL.length = stL.length := by decide +kernel
theorem xw_tbl : ∀ w ∈ xwL, w ∈ lw_tbl := by decide +kernel
theorem nest_tbl : ∀ w ∈ nestL, w ∈ lw_tbl := by
  intro w hw
  obtain ⟨q, hq, h⟩ := List.mem_filterMap.mp hw
  have h1 := of_decide_eq_true (List.all_eq_true.mp cal_c1 _ hq)
  split at h
  · cases h
  · rename_i h3
    cases h
    rw [if_neg h3] at h1
    exact List.mem_of_getElem? h1
theorem ao_Node : Jvm.Cond.arrayOver (.object "Menuline$Node") ∈ lw_tbl := List.mem_of_getElem? (i := 60) (by decide +kernel)
theorem ao_Line : Jvm.Cond.arrayOver (.object "Menuline$Line") ∈ lw_tbl := List.mem_of_getElem? (i := 62) (by decide +kernel)
theorem ao_Desk : Jvm.Cond.arrayOver (.object "Menuline$Desk") ∈ lw_tbl := List.mem_of_getElem? (i := 64) (by decide +kernel)
theorem ao_I : Jvm.Cond.arrayOver (.array .int) ∈ lw_tbl := List.mem_of_getElem? (i := 112) (by decide +kernel)
theorem ls_U : Jvm.Cond.laysStatic Bundle.tN "UNASSIGNED_STACK" Bundle.steD ∈ lw_tbl := List.mem_of_getElem? (i := 363) (by decide +kernel)
theorem ls_S : Jvm.Cond.laysStatic Bundle.tN "SUPPRESSED_SENTINEL" Bundle.listD ∈ lw_tbl := List.mem_of_getElem? (i := 365) (by decide +kernel)
theorem in_T : Jvm.Cond.initialized Bundle.tN ∈ lw_tbl := List.mem_of_getElem? (i := 43) (by decide +kernel)
theorem Wd_start {b : Nat} {s : State} (hts : ∀ w ∈ lw_tbl, w.before #[Value.ref b] s = true) (hg : (Jvm.Cond.and given_1 narrow_1).before #[Value.ref b] s = true) : ∃ (D : va_G) (cy : Nat → ClassId), Wd s.heap.size D cy s := by
  have hT : ∀ w ∈ TBL, w.before #[Value.ref b] s = true := fun w hw => hts w (tbl_in hw)
  have hk : ∀ ci : Nat, ∃ q : ClassId × (Nat → Nat), ci < 7 → u_Kn s (cN ci) (clT ci) (clN ci) q.1 q.2 := fun ci => by
    by_cases h : ci < 7
    · obtain ⟨c, iS, hh⟩ := u_known hT (lay_in h) (hT _ (ins_ok h).1)
      exact ⟨(c, iS), fun _ => hh⟩
    · exact ⟨(0, fun _ => 0), fun z => absurd z h⟩
  have hq : ∃ f : Nat → ClassId × (Nat → Nat), ∀ ci, ci < 7 → u_Kn s (cN ci) (clT ci) (clN ci) (f ci).1 (f ci).2 := ⟨fun ci => (hk ci).choose, fun ci h => (hk ci).choose_spec h⟩
  obtain ⟨f, hf⟩ := hq
  have hA : ∀ ty : FieldType, ty.isReference = false → Jvm.Cond.arrayClass ty ∈ TBL → ∃ c, ArrOfT s c ty ∧ va_RA s c ty := fun ty ht h => by
    obtain ⟨c, k, comp, h1, h2, h3⟩ := Cond.arrayClass_spec (hT _ h)
    refine ⟨c, fun N z => ⟨(fun q h => by cases h), k, h2, comp, h3⟩, ?_⟩
    cases ty <;> first | exact h1 | (cases ht)
  have hO : ∀ C : String, Jvm.Cond.arrayOver (.object C) ∈ lw_tbl → ∃ c, ArrOfT s c (.object C) ∧ va_RA s c (.object C) := fun C h => by
    obtain ⟨comp, c, k, h1, h2, h3, h4, h5⟩ := Cond.arrayOver_spec (hts _ h)
    exact ⟨c, fun N z => ⟨(fun q h => by cases h), k, h3, comp, h4⟩, k, comp, h3, h4, h1, h5⟩
  have hI : ∃ c, ArrOfT s c (.array .int) ∧ va_RA s c (.array .int) := by
    obtain ⟨comp, c, k, h1, h3, h4, h5⟩ := Cond.arrayOver_specA (hts _ ao_I)
    exact ⟨c, fun N z => ⟨(fun q h => by cases h), k, h3, comp, h4⟩, h5⟩
  obtain ⟨c0, a0⟩ := hA .int rfl arrW_int
  obtain ⟨c1, a1⟩ := hA .boolean rfl arrW_boolean
  obtain ⟨c3, a3⟩ := hO _ ao_Node
  obtain ⟨c4, a4⟩ := hO _ ao_Line
  obtain ⟨c5, a5⟩ := hO _ ao_Desk
  obtain ⟨c6, a6⟩ := hI
  have hno : ∀ a : Nat, a < s.heap.size → ¬ AB s.heap.size a := fun a h z => Nat.lt_irrefl _ (Nat.lt_of_lt_of_le h z)
  refine ⟨(fun ci => (f ci).1, fun ci => (f ci).2), fun t => if t = 100 then c0 else if t = 101 then c1 else if t = 103 then c3 else if t = 104 then c4 else if t = 105 then c5 else c6, ⟨fun ci q hq => ?_, fun i q hq => ?_⟩, Nat.le_refl _,
    vx_Zqof (hts _ ls_U) (hts _ in_T) (fl_of hg fl_u) hno, vx_Zqof (hts _ ls_S) (hts _ in_T) (fl_of hg fl_n) hno, fun q hq => ?_, fun w hw => ?_, fun q hq => ?_, hts _ ao_Node, hts _ ao_Line, hts _ ao_Desk, hts _ ao_I⟩
  · have h8 : ci < 7 := (List.getElem?_eq_some_iff.mp hq).1
    rw [vw_at h8] at hq
    cases hq
    exact hf ci h8
  · have h7 : i < 7 := (List.getElem?_eq_some_iff.mp hq).1
    match i, h7, hq with
    | 0, _, hq => cases hq; exact a0
    | 1, _, hq => cases hq; exact a1
    | 2, _, hq => cases hq; exact a0
    | 3, _, hq => cases hq; exact a3
    | 4, _, hq => cases hq; exact a4
    | 5, _, hq => cases hq; exact a5
    | 6, _, hq => cases hq; exact a6
  · obtain ⟨i, hi⟩ := List.getElem?_of_mem hq
    have hil := (List.getElem?_eq_some_iff.mp hi).1
    have hz : (thrL.zip stL)[i]? = some (q, stL[i]'(by rw [← st_c2]; exact hil)) := by
      rw [List.getElem?_zip_eq_some]
      exact ⟨hi, List.getElem?_eq_getElem _⟩
    have h1 := List.all_eq_true.mp st_c1 _ (List.mem_of_getElem? hz)
    simp only [Bool.and_eq_true, decide_eq_true_eq] at h1
    obtain ⟨-, h2, h3⟩ := h1
    obtain ⟨a, c, cA, kA, q1, -⟩ := Cond.exactly_spec (fl_of hg h2)
    exact ⟨a, vk_R.of (A := #[Value.ref b]) (hts _ (List.mem_of_getElem? h3)) q1⟩
  · have hw2 : w ∈ lw_tbl := (List.mem_append.mp hw).elim (xw_tbl w) (nest_tbl w)
    exact xwK_move (State.WarmedH.refl s) (List.all_eq_true.mp xw_all w hw) (hts w hw2)
  · have h6 : q = (0, 1) ∨ q = (0, 2) ∨ q = (1, 0) ∨ q = (1, 2) ∨ q = (2, 0) ∨ q = (2, 1) := by simpa [ncL] using hq
    rcases h6 with rfl | rfl | rfl | rfl | rfl | rfl
    · exact va_Nc.of (fl_of hg fl_c01)
    · exact va_Nc.of (fl_of hg fl_c02)
    · exact va_Nc.of (fl_of hg fl_c10)
    · exact va_Nc.of (fl_of hg fl_c12)
    · exact va_Nc.of (fl_of hg fl_c20)
    · exact va_Nc.of (fl_of hg fl_c21)
