/-! ===== the calls of a script by hand ===== -/
def rList : List Nat := [0, 1, 2, 3, 4, 9, 11, 17, 60]
theorem rList_all : rList.all riOK = true := by
  unfold rList
  simp only [List.all_cons, List.all_nil, Bool.and_true, ri_0, ri_1, ri_2, ri_3, ri_4, ri_9, ri_11, ri_17, ri_60, Bool.and_self]
theorem rList_ok {n : Nat} (h : rList.any (fun q => Nat.beq q n) = true) : riOK n = true := by
  obtain ⟨q, hq, h2⟩ := List.any_eq_true.mp h
  rw [← Nat.beq_eq.mp h2]
  exact List.all_eq_true.mp rList_all q hq
noncomputable def apiV (mj : Nat) (xs : List Int32) (n m : Nat) : Option (Option Value × Nat) :=
  if mj = 46 then a2 xs (fun a b => rP (F_46 n a b m))
  else if mj = 45 then a1 xs (fun a => rP (F_45 n a m))
  else if mj = 54 then a1 xs (fun a => rP (P_54 n a m))
  else if mj = 56 then a1 xs (fun a => rP (F_56 n a m))
  else if mj = 57 then a1 xs (fun a => rP (F_57 n a m))
  else if mj = 58 then a1 xs (fun a => rP (F_58 n a m))
  else if mj = 63 then a1 xs (fun a => rP (F_63 n a m))
  else if mj = 64 then a1 xs (fun a => rP (F_64 n a m))
  else if mj = 62 then a1 xs (fun a => rP (F_62 n a m))
  else if mj = 60 then a1 xs (fun a => rP (F_60 n a m))
  else if mj = 61 then a1 xs (fun a => rP (F_61 n a m))
  else if mj = 65 then a2 xs (fun a b => rP (F_65 n a b m))
  else if mj = 66 then a1 xs (fun a => rP (F_66 n a m))
  else if mj = 59 then a1 xs (fun a => rP (F_59 n a m))
  else if mj = 183 then a7 xs (fun w a b c d e f => rT (F_182 n w a b c d e f m))
  else if mj = 184 then a4 xs (fun w a b c => bif hhF m then rA (F_184 n w a b c m) else none)
  else if mj = 185 then a1 xs (fun a => bif hhF m && (decide (a = i32 n) && rList.any (fun q => Nat.beq q n)) then some (some (.int 1), m) else none)
  else if mj = 186 then a5 xs (fun a b c d e => bif decide (isCl n a) then some (some (.int (F_186 a b c d e m)), m) else none)
  else if mj = 49 then a2 xs (fun a b => rP (F_49 n a b m))
  else if mj = 50 then a1 xs (fun a => rP (F_50 n a m))
  else if mj = 51 then a2 xs (fun a b => rP (F_51 n a b m))
  else if mj = 52 then a1 xs (fun a => rP (F_52 n a m))
  else if mj = 53 then a2 xs (fun a b => rP (F_53 n a b m))
  else if mj = 47 then a1 xs (fun a => rP (F_47 n a m))
  else if mj = 48 then a1 xs (fun a => rP (F_48 n a m))
  else if mj = 33 then a3 xs (fun a b c => rP (F_33 n a b c m))
  else if mj = 31 then a3 xs (fun a b c => rN (F_31 n a b c m))
  else if mj = 32 then a1 xs (fun a => rN (F_32 n a m))
  else if mj = 34 then a4 xs (fun a b c d => rN (F_34 n a b c d m))
  else if mj = 35 then a5 xs (fun a b c d e => rN (F_35 n a b c d e m))
  else if mj = 36 then a6 xs (fun a b c d e f => rN (F_36 n a b c d e f m))
  else if mj = 37 then a3 xs (fun a b c => rN (F_37 n a b c m))
  else if mj = 38 then a1 xs (fun a => rN (F_38 n a m))
  else if mj = 39 then a6 xs (fun a b c d e f => rN (F_39 n a b c d e f m))
  else if mj = 40 then a2 xs (fun a b => rN (F_40 n a b m))
  else if mj = 41 then a1 xs (fun a => rN (F_41 n a m))
  else if mj = 42 then a3 xs (fun a b c => rN (F_42 n a b c m))
  else if mj = 44 then a0 xs (some (some (.int (F_44 m)), m))
  else if mj = 55 then a0 xs (some (some (.int (i32 n)), m))
  else if mj = 43 then a2 xs (fun a b => bif hhF m && (decide (b = 0) || decide (b = 1)) then rP (F_43 n a b m) else none)
  else none
theorem api_sound {mj : Nat} {xs : List Int32} {n m m1 : Nat} {v : Option Value} (hl : n ≤ 60) (hCI : CI (dec m) n) (h : apiV mj xs n m = some (v, m1)) : Es false mj (.ref 0 :: xs.map Value.int) (dec m) (PV v m1) := by
  unfold apiV at h
  by_cases h46 : mj = 46
  · rw [if_pos h46] at h
    subst h46
    obtain ⟨a, b, rfl, h9⟩ := a2_ok h
    exact e_46 hl hCI (by rw [t_46]; exact rP_ok h9)
  rw [if_neg h46] at h
  by_cases h45 : mj = 45
  · rw [if_pos h45] at h
    subst h45
    obtain ⟨a, rfl, h9⟩ := a1_ok h
    exact e_45 hl hCI (by rw [t_45]; exact rP_ok h9)
  rw [if_neg h45] at h
  by_cases h54 : mj = 54
  · rw [if_pos h54] at h
    subst h54
    obtain ⟨a, rfl, h9⟩ := a1_ok h
    exact e_54 hl hCI (by rw [t_P54]; exact rP_ok h9)
  rw [if_neg h54] at h
  by_cases h56 : mj = 56
  · rw [if_pos h56] at h
    subst h56
    obtain ⟨a, rfl, h9⟩ := a1_ok h
    exact e_56 hl hCI (by rw [t_56]; exact rP_ok h9)
  rw [if_neg h56] at h
  by_cases h57 : mj = 57
  · rw [if_pos h57] at h
    subst h57
    obtain ⟨a, rfl, h9⟩ := a1_ok h
    exact e_57 hl hCI (by rw [t_57]; exact rP_ok h9)
  rw [if_neg h57] at h
  by_cases h58 : mj = 58
  · rw [if_pos h58] at h
    subst h58
    obtain ⟨a, rfl, h9⟩ := a1_ok h
    exact e_58 hl hCI (by rw [t_58]; exact rP_ok h9)
  rw [if_neg h58] at h
  by_cases h63 : mj = 63
  · rw [if_pos h63] at h
    subst h63
    obtain ⟨a, rfl, h9⟩ := a1_ok h
    exact e_63 hl hCI (by rw [t_63]; exact rP_ok h9)
  rw [if_neg h63] at h
  by_cases h64 : mj = 64
  · rw [if_pos h64] at h
    subst h64
    obtain ⟨a, rfl, h9⟩ := a1_ok h
    exact e_64 hl hCI (by rw [t_64]; exact rP_ok h9)
  rw [if_neg h64] at h
  by_cases h62 : mj = 62
  · rw [if_pos h62] at h
    subst h62
    obtain ⟨a, rfl, h9⟩ := a1_ok h
    exact e_62 hl hCI (by rw [t_62]; exact rP_ok h9)
  rw [if_neg h62] at h
  by_cases h60 : mj = 60
  · rw [if_pos h60] at h
    subst h60
    obtain ⟨a, rfl, h9⟩ := a1_ok h
    exact e_60 hl hCI (by rw [t_60]; exact rP_ok h9)
  rw [if_neg h60] at h
  by_cases h61 : mj = 61
  · rw [if_pos h61] at h
    subst h61
    obtain ⟨a, rfl, h9⟩ := a1_ok h
    exact e_61 hl hCI (by rw [t_61]; exact rP_ok h9)
  rw [if_neg h61] at h
  by_cases h65 : mj = 65
  · rw [if_pos h65] at h
    subst h65
    obtain ⟨a, b, rfl, h9⟩ := a2_ok h
    exact e_65 hl hCI (by rw [t_65]; exact rP_ok h9)
  rw [if_neg h65] at h
  by_cases h66 : mj = 66
  · rw [if_pos h66] at h
    subst h66
    obtain ⟨a, rfl, h9⟩ := a1_ok h
    exact e_66 hl hCI (by rw [t_66]; exact rP_ok h9)
  rw [if_neg h66] at h
  by_cases h59 : mj = 59
  · rw [if_pos h59] at h
    subst h59
    obtain ⟨a, rfl, h9⟩ := a1_ok h
    exact e_59 hl hCI (by rw [t_59]; exact rP_ok h9)
  rw [if_neg h59] at h
  by_cases h183 : mj = 183
  · rw [if_pos h183] at h
    subst h183
    obtain ⟨w, a, b, c, d, e, f, rfl, h9⟩ := a7_ok h
    exact e_183 hl hCI (by rw [t_182]; exact rT_ok h9)
  rw [if_neg h183] at h
  by_cases h184 : mj = 184
  · rw [if_pos h184] at h
    subst h184
    obtain ⟨w, a, b, c, rfl, h9⟩ := a4_ok h
    cases hb : hhF m
    · rw [hb] at h9; cases h9
    · rw [hb] at h9
      exact e_184 hl hCI (hhF_ok hb) (by rw [t_184]; exact rA_ok h9)
  rw [if_neg h184] at h
  by_cases h185 : mj = 185
  · rw [if_pos h185] at h
    subst h185
    obtain ⟨a, rfl, h9⟩ := a1_ok h
    cases hb : hhF m && (decide (a = i32 n) && rList.any (fun q => Nat.beq q n))
    · rw [hb] at h9; cases h9
    · rw [hb] at h9
      simp only [Bool.and_eq_true, decide_eq_true_eq] at hb
      obtain ⟨hb1, rfl, hb2⟩ := hb
      cases h9
      exact e_185 hl hCI (hhF_ok hb1) (rList_ok hb2) ⟨rfl, rfl⟩
  rw [if_neg h185] at h
  by_cases h186 : mj = 186
  · rw [if_pos h186] at h
    subst h186
    obtain ⟨a, b, c, d, e, rfl, h9⟩ := a5_ok h
    cases hb : decide (isCl n a)
    · rw [hb] at h9; cases h9
    · rw [hb] at h9
      cases h9
      exact e_186 hl hCI (of_decide_eq_true hb) (by rw [t_186]; exact ⟨rfl, rfl⟩)
  rw [if_neg h186] at h
  by_cases h49 : mj = 49
  · rw [if_pos h49] at h
    subst h49
    obtain ⟨a, b, rfl, h9⟩ := a2_ok h
    exact e_49 hl hCI (by rw [t_49]; exact rP_ok h9)
  rw [if_neg h49] at h
  by_cases h50 : mj = 50
  · rw [if_pos h50] at h
    subst h50
    obtain ⟨a, rfl, h9⟩ := a1_ok h
    exact e_50 hl hCI (by rw [t_50]; exact rP_ok h9)
  rw [if_neg h50] at h
  by_cases h51 : mj = 51
  · rw [if_pos h51] at h
    subst h51
    obtain ⟨a, b, rfl, h9⟩ := a2_ok h
    exact e_51 hl hCI (by rw [t_51]; exact rP_ok h9)
  rw [if_neg h51] at h
  by_cases h52 : mj = 52
  · rw [if_pos h52] at h
    subst h52
    obtain ⟨a, rfl, h9⟩ := a1_ok h
    exact e_52 hl hCI (by rw [t_52]; exact rP_ok h9)
  rw [if_neg h52] at h
  by_cases h53 : mj = 53
  · rw [if_pos h53] at h
    subst h53
    obtain ⟨a, b, rfl, h9⟩ := a2_ok h
    exact e_53 hl hCI (by rw [t_53]; exact rP_ok h9)
  rw [if_neg h53] at h
  by_cases h47 : mj = 47
  · rw [if_pos h47] at h
    subst h47
    obtain ⟨a, rfl, h9⟩ := a1_ok h
    exact e_47 hl hCI (by rw [t_47]; exact rP_ok h9)
  rw [if_neg h47] at h
  by_cases h48 : mj = 48
  · rw [if_pos h48] at h
    subst h48
    obtain ⟨a, rfl, h9⟩ := a1_ok h
    exact e_48 hl hCI (by rw [t_48]; exact rP_ok h9)
  rw [if_neg h48] at h
  by_cases h33 : mj = 33
  · rw [if_pos h33] at h
    subst h33
    obtain ⟨a, b, c, rfl, h9⟩ := a3_ok h
    exact e_33 hl hCI (by rw [t_33]; exact rP_ok h9)
  rw [if_neg h33] at h
  by_cases h31 : mj = 31
  · rw [if_pos h31] at h
    subst h31
    obtain ⟨a, b, c, rfl, h9⟩ := a3_ok h
    exact e_31 hl hCI (by rw [t_31]; exact rN_ok h9)
  rw [if_neg h31] at h
  by_cases h32 : mj = 32
  · rw [if_pos h32] at h
    subst h32
    obtain ⟨a, rfl, h9⟩ := a1_ok h
    exact e_32 hl hCI (by rw [t_32]; exact rN_ok h9)
  rw [if_neg h32] at h
  by_cases h34 : mj = 34
  · rw [if_pos h34] at h
    subst h34
    obtain ⟨a, b, c, d, rfl, h9⟩ := a4_ok h
    exact e_34 hl hCI (by rw [t_34]; exact rN_ok h9)
  rw [if_neg h34] at h
  by_cases h35 : mj = 35
  · rw [if_pos h35] at h
    subst h35
    obtain ⟨a, b, c, d, e, rfl, h9⟩ := a5_ok h
    exact e_35 hl hCI (by rw [t_35]; exact rN_ok h9)
  rw [if_neg h35] at h
  by_cases h36 : mj = 36
  · rw [if_pos h36] at h
    subst h36
    obtain ⟨a, b, c, d, e, f, rfl, h9⟩ := a6_ok h
    exact e_36 hl hCI (by rw [t_36]; exact rN_ok h9)
  rw [if_neg h36] at h
  by_cases h37 : mj = 37
  · rw [if_pos h37] at h
    subst h37
    obtain ⟨a, b, c, rfl, h9⟩ := a3_ok h
    exact e_37 hl hCI (by rw [t_37]; exact rN_ok h9)
  rw [if_neg h37] at h
  by_cases h38 : mj = 38
  · rw [if_pos h38] at h
    subst h38
    obtain ⟨a, rfl, h9⟩ := a1_ok h
    exact e_38 hl hCI (by rw [t_38]; exact rN_ok h9)
  rw [if_neg h38] at h
  by_cases h39 : mj = 39
  · rw [if_pos h39] at h
    subst h39
    obtain ⟨a, b, c, d, e, f, rfl, h9⟩ := a6_ok h
    exact e_39 hl hCI (by rw [t_39]; exact rN_ok h9)
  rw [if_neg h39] at h
  by_cases h40 : mj = 40
  · rw [if_pos h40] at h
    subst h40
    obtain ⟨a, b, rfl, h9⟩ := a2_ok h
    exact e_40 hl hCI (by rw [t_40]; exact rN_ok h9)
  rw [if_neg h40] at h
  by_cases h41 : mj = 41
  · rw [if_pos h41] at h
    subst h41
    obtain ⟨a, rfl, h9⟩ := a1_ok h
    exact e_41 hl hCI (by rw [t_41]; exact rN_ok h9)
  rw [if_neg h41] at h
  by_cases h42 : mj = 42
  · rw [if_pos h42] at h
    subst h42
    obtain ⟨a, b, c, rfl, h9⟩ := a3_ok h
    exact e_42 hl hCI (by rw [t_42]; exact rN_ok h9)
  rw [if_neg h42] at h
  by_cases h44 : mj = 44
  · rw [if_pos h44] at h
    subst h44
    obtain ⟨rfl, h9⟩ := a0_ok h
    cases h9
    exact e_44 (by rw [t_44]; exact ⟨rfl, rfl⟩)
  rw [if_neg h44] at h
  by_cases h55 : mj = 55
  · rw [if_pos h55] at h
    subst h55
    obtain ⟨rfl, h9⟩ := a0_ok h
    cases h9
    exact e_55 hl hCI ⟨rfl, rfl⟩
  rw [if_neg h55] at h
  by_cases h43 : mj = 43
  · rw [if_pos h43] at h
    subst h43
    obtain ⟨a, b, rfl, h9⟩ := a2_ok h
    cases hb : hhF m && (decide (b = 0) || decide (b = 1))
    · rw [hb] at h9; cases h9
    · rw [hb] at h9
      simp only [Bool.and_eq_true, Bool.or_eq_true, decide_eq_true_eq] at hb
      exact e_43 hl hCI hb.2 (hhF_ok hb.1) (by rw [t_43]; exact rP_ok h9)
  rw [if_neg h43] at h
  cases h
