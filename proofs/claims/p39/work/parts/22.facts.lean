/-! ===== the words behind the tables ===== -/
def TBL : List Jvm.Cond := lw_tbl.filter goodWord
theorem tbl_of {w : Jvm.Cond} {i : Nat} (h : lw_tbl[i]? = some w) (g : goodWord w = true) : w ∈ TBL := List.mem_filter.mpr ⟨List.mem_of_getElem? h, g⟩
theorem tbl_good {w : Jvm.Cond} (h : w ∈ TBL) : goodWord w = true := (List.mem_filter.mp h).2
theorem tbl_in {w : Jvm.Cond} (h : w ∈ TBL) : w ∈ lw_tbl := (List.mem_filter.mp h).1
def ckF (q : (Nat × Nat) × (Nat × Nat × Nat × Bool) × Nat) : Bool :=
  decide (lw_tbl[q.2.2]? = some (Jvm.Cond.fieldLink (cN q.1.1) q.1.2 (cN q.2.1.1) (clT q.2.1.1 q.2.1.2.1).2.1 (clT q.2.1.1 q.2.1.2.1).2.2.1)) && (decide (q.2.1.2.1 < clN q.2.1.1) && (((clT q.2.1.1 q.2.1.2.1).2.2.2 == q.2.1.2.2.2) && (decide (q.2.1.1 < 7) && (decide ((clT q.2.1.1 q.2.1.2.1).1 = cN q.2.1.1) &&
  (match q.2.1.2.2.1 with
    | 0 => decide (clY q.2.1.1 q.2.1.2.1 = .int)
    | 1 => decide (clY q.2.1.1 q.2.1.2.1 = .boolean)
    | _ => (clY q.2.1.1 q.2.1.2.1).isReference)))))
theorem fld_ck : fldL.all ckF = true := by decide +kernel
def wAt (L : List Nat) (i : Nat) : Option Jvm.Cond := lw_tbl[(L[i]?).getD 100000]?
theorem cal_c1 : calL.all (fun q => decide (lw_tbl[q.2.2.1]? = some (if q.2.1.2 < 3 then Jvm.Cond.methodLink (cN q.1.1) q.1.2 (mNm q.2.1.1) else Jvm.Cond.methodLinkNest (cN q.1.1) q.1.2 (mNm q.2.1.1) "Menuline"))) = true := by decide +kernel
theorem cal_c2 : calL.all (fun q => decide (q.2.1.1 < mN)) = true := by decide +kernel
theorem cal_c3 : calL.all (fun q => decide (wAt q.2.2.2 1 = some (Jvm.Cond.initialized (mNm q.2.1.1).cls))) = true := by decide +kernel
theorem cal_c4 : calL.all (fun q => decide (wAt q.2.2.2 2 = some (if q.2.1.2 % 3 = 0 then Jvm.Cond.static (mNm q.2.1.1) else Jvm.Cond.instanceMethod (mNm q.2.1.1)))) = true := by decide +kernel
theorem cal_c5 : calL.all (fun q => decide (q.2.1.2 = 1 → wAt q.2.2.2 3 = some (Jvm.Cond.selects (mNm q.2.1.1).cls (mNm q.2.1.1) (mNm q.2.1.1)))) = true := by decide +kernel
theorem cal_c6 : calL.all (fun q => decide ((mNm q.2.1.1).cls ≠ "java/lang/invoke/MethodHandle" ∧ (mNm q.2.1.1).cls ≠ "java/lang/invoke/VarHandle" ∧ (parseMethodDescriptor (mNm q.2.1.1).desc).map (fun d => d.parameters.length) = some (if q.2.1.2 % 3 = 0 then mNA q.2.1.1 else mNA q.2.1.1 - 1))) = true := by decide +kernel
theorem cal_c7 : calL.all (fun q => plainName (mNm q.2.1.1).cls) = true := by decide +kernel
theorem cal_c8 : calL.all (fun q => decide ((mNm q.2.1.1).cls = cN (mCls q.2.1.1))) = true := by decide +kernel
theorem cal_c9 : calL.all (fun q => decide (q.2.1.2 % 3 = 2 → (mNm q.2.1.1).name = "<init>" ∧ mRt q.2.1.1 = none)) = true := by decide +kernel
theorem cal_c10 : calL.all (fun q => decide (q.2.1.2 % 3 = 0 ∨ 0 < mNA q.2.1.1)) = true := by decide +kernel
theorem cal_c11 : calL.all (fun q => mIni q.2.1.1 == decide ((mNm q.2.1.1).name = "<init>")) = true := by decide +kernel
theorem cal_c12 : calL.all (fun q => decide (q.2.1.2 ≠ 4)) = true := by decide +kernel
theorem cal_c13 : calL.all (fun q => decide (q.2.1.2 % 3 = 0 ∨ mCls q.2.1.1 < 7)) = true := by decide +kernel
theorem new_ck : newL.all (fun q => decide (lw_tbl[q.2.2]? = some (Jvm.Cond.classLink (cN q.1.1) q.1.2 (cN q.2.1))) && decide (q.2.1 < 7)) = true := by decide +kernel
def arN (t : Nat) : String := match t with
  | 103 => "Menuline$Node"
  | 104 => "Menuline$Line"
  | 105 => "Menuline$Desk"
  | _ => "[[I"
theorem arr_ck : arrL.all (fun q => decide (lw_tbl[q.2.2]? = some (Jvm.Cond.classLink (cN q.1.1) q.1.2 (arN q.2.1))) && (q.2.1 == 103 || (q.2.1 == 104 || (q.2.1 == 105 || q.2.1 == 106)))) = true := by decide +kernel
theorem ldc_ck : ldcL.all (fun q => decide (lw_tbl[q.2.2]? = some (Jvm.Cond.constant (cN q.1.1) q.1.2 q.2.1))) = true := by decide +kernel
theorem obj_ck : objL.all (fun q => decide (lw_tbl[q.2.2]? = some (Jvm.Cond.methodLink (cN q.1.1) q.1.2 objectInit))) = true := by decide +kernel
theorem max_ck : maxL.all (fun q => decide (lw_tbl[q.2.2]? = some (Jvm.Cond.methodLink (cN q.1.1) q.1.2 Lib.Math.max.name))) = true := by decide +kernel
theorem max_w : Jvm.Cond.static Lib.Math.max.name ∈ TBL ∧ Jvm.Cond.initialized "java/lang/Math" ∈ TBL ∧ Jvm.Cond.code Lib.Math.max.name Lib.Math.max.code 2 (some .int) ∈ TBL := ⟨tbl_of (i := 716) (by decide +kernel) rfl, tbl_of (i := 49) (by decide +kernel) rfl, tbl_of (i := 717) (by decide +kernel) rfl⟩
theorem obj_w : Jvm.Cond.instanceMethod objectInit ∈ TBL ∧ Jvm.Cond.code objectInit ⟨#[0xb1]⟩ 1 none ∈ TBL := ⟨tbl_of (i := 57) (by decide +kernel) rfl, tbl_of (i := 58) (by decide +kernel) rfl⟩
theorem arrW_int : Jvm.Cond.arrayClass .int ∈ TBL := tbl_of (i := 84) (by decide +kernel) rfl
theorem arrW_boolean : Jvm.Cond.arrayClass .boolean ∈ TBL := tbl_of (i := 85) (by decide +kernel) rfl
theorem lay_0 : ∀ w ∈ wsX00, w ∈ TBL := fun w h => List.mem_filter.mpr ⟨((goodIn_r (big := lw_tbl) wsX00 [284, 286, 288, 290, 292, 294] (by decide +kernel) (by decide +kernel)) w h).1, List.all_eq_true.mp (by decide +kernel : wsX00.all goodWord = true) w h⟩
theorem ins_0 : Jvm.Cond.instantiable RX0 6 ∈ TBL ∧ Jvm.Cond.initialized RX0 ∈ TBL := ⟨tbl_of (i := 268) (by decide +kernel) rfl, tbl_of (i := 42) (by decide +kernel) rfl⟩
theorem lay_1 : ∀ w ∈ wsX10, w ∈ TBL := fun w h => List.mem_filter.mpr ⟨((goodIn_r (big := lw_tbl) wsX10 [98, 100, 102, 104, 106, 108] (by decide +kernel) (by decide +kernel)) w h).1, List.all_eq_true.mp (by decide +kernel : wsX10.all goodWord = true) w h⟩
theorem ins_1 : Jvm.Cond.instantiable RX1 6 ∈ TBL ∧ Jvm.Cond.initialized RX1 ∈ TBL := ⟨tbl_of (i := 87) (by decide +kernel) rfl, tbl_of (i := 38) (by decide +kernel) rfl⟩
theorem lay_2 : ∀ w ∈ wsX20, w ∈ TBL := fun w h => List.mem_filter.mpr ⟨((goodIn_r (big := lw_tbl) wsX20 [129, 131, 133] (by decide +kernel) (by decide +kernel)) w h).1, List.all_eq_true.mp (by decide +kernel : wsX20.all goodWord = true) w h⟩
theorem ins_2 : Jvm.Cond.instantiable RX2 3 ∈ TBL ∧ Jvm.Cond.initialized RX2 ∈ TBL := ⟨tbl_of (i := 119) (by decide +kernel) rfl, tbl_of (i := 40) (by decide +kernel) rfl⟩
theorem lay_3 : ∀ w ∈ wsX30, w ∈ TBL := fun w h => List.mem_filter.mpr ⟨((goodIn_r (big := lw_tbl) wsX30 [231, 233, 235, 237, 239, 241, 243, 245, 247, 249, 251, 253, 255, 257, 259, 261, 263, 265] (by decide +kernel) (by decide +kernel)) w h).1, List.all_eq_true.mp (by decide +kernel : wsX30.all goodWord = true) w h⟩
theorem ins_3 : Jvm.Cond.instantiable RX3 18 ∈ TBL ∧ Jvm.Cond.initialized RX3 ∈ TBL := ⟨tbl_of (i := 195) (by decide +kernel) rfl, tbl_of (i := 41) (by decide +kernel) rfl⟩
theorem lay_4 : ∀ w ∈ wsX40, w ∈ TBL := fun w h => List.mem_filter.mpr ⟨((goodIn_r (big := lw_tbl) wsX40 [162, 164, 166, 168, 170, 172, 174, 176, 178, 180, 182, 184, 186, 188, 190, 192] (by decide +kernel) (by decide +kernel)) w h).1, List.all_eq_true.mp (by decide +kernel : wsX40.all goodWord = true) w h⟩
theorem ins_4 : Jvm.Cond.instantiable RX4 16 ∈ TBL ∧ Jvm.Cond.initialized RX4 ∈ TBL := ⟨tbl_of (i := 113) (by decide +kernel) rfl, tbl_of (i := 39) (by decide +kernel) rfl⟩
theorem lay_5 : ∀ w ∈ wsX50, w ∈ TBL := fun w h => List.mem_filter.mpr ⟨((goodIn_r (big := lw_tbl) wsX50 [77, 79, 81] (by decide +kernel) (by decide +kernel)) w h).1, List.all_eq_true.mp (by decide +kernel : wsX50.all goodWord = true) w h⟩
theorem ins_5 : Jvm.Cond.instantiable RX5 3 ∈ TBL ∧ Jvm.Cond.initialized RX5 ∈ TBL := ⟨tbl_of (i := 66) (by decide +kernel) rfl, tbl_of (i := 37) (by decide +kernel) rfl⟩
theorem lay_6 : ∀ w ∈ wsX60, w ∈ TBL := fun w h => List.mem_filter.mpr ⟨((goodIn_r (big := lw_tbl) wsX60 [306, 308, 310, 312, 314, 316, 318, 320, 322] (by decide +kernel) (by decide +kernel)) w h).1, List.all_eq_true.mp (by decide +kernel : wsX60.all goodWord = true) w h⟩
theorem ins_6 : Jvm.Cond.instantiable RX6 9 ∈ TBL ∧ Jvm.Cond.initialized RX6 ∈ TBL := ⟨tbl_of (i := 52) (by decide +kernel) rfl, tbl_of (i := 36) (by decide +kernel) rfl⟩
