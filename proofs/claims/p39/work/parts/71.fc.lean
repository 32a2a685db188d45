/-! ===== the class on memory as a number ===== -/
noncomputable def F_31 (n : Nat) (x0 : Int32) (x1 : Int32) (x2 : Int32) (l : Nat) : PN := (if isN x0 then (if isT x2 then (if (1 : Int32) ≤ x1 ∧ x1 ≤ (60 : Int32) then (if quietF l n = true then (bndF (F_25 x0.toNatClampNeg (1 : Int32) x2 (-1 : Int32) l) fun l7 => (.inl 0, (Wm l7 (ad 2254 30 433 x0.toNatClampNeg) x1))) else (.inr 2, l)) else (.inr 1, l)) else (.inr 0, l)) else (.inr 0, l))
theorem t_31 (n : Nat) (x0 : Int32) (x1 : Int32) (x2 : Int32) (m9 : Nat) : f_31 n x0 x1 x2 (dec m9) = dP (F_31 n x0 x1 x2 m9) := by
  unfold f_31 F_31
  (simp only [dk_433, ud_433, bnd_d, bnd2_d, bndF_eq, bnd2F_eq, dec_bnd, d2_bnd, dP_bnd, dec_bnd2, d2_bnd2, dP_bnd2, dec_ite, d2_ite, dP_ite, d2_mk, dP_mk, qk, t_25]) <;> (repeat' first | with_reducible rfl | refine ite_t9 ?_ ?_ ?_ | refine bnd_c9 (fun _ => ?_) | refine bnd2_c9 (fun _ _ => ?_))
noncomputable def F_32 (n : Nat) (x0 : Int32) (l : Nat) : PN := (if isN x0 then (if quietF l n = true then (bndF (F_25 x0.toNatClampNeg (2 : Int32) (-1 : Int32) (-1 : Int32) l) fun l4 => (.inl 0, l4)) else (.inr 2, l)) else (.inr 0, l))
theorem t_32 (n : Nat) (x0 : Int32) (m9 : Nat) : f_32 n x0 (dec m9) = dP (F_32 n x0 m9) := by
  unfold f_32 F_32
  (simp only [bnd_d, bnd2_d, bndF_eq, bnd2F_eq, dec_bnd, d2_bnd, dP_bnd, dec_bnd2, d2_bnd2, dP_bnd2, dec_ite, d2_ite, dP_ite, d2_mk, dP_mk, qk, t_25]) <;> (repeat' first | with_reducible rfl | refine ite_t9 ?_ ?_ ?_ | refine bnd_c9 (fun _ => ?_) | refine bnd2_c9 (fun _ _ => ?_))
noncomputable def F_33 (n : Nat) (x0 : Int32) (x1 : Int32) (x2 : Int32) (l : Nat) : PN := (if isN x0 then (if isT x2 then (if (10 ≤ x1 ∧ x1 ≤ 19) ∨ ((100 ≤ x1 ∧ x1 ≤ 199) ∨ (1000 ≤ x1 ∧ x1 ≤ 1999)) then (if quietF l n = true then (if (R l (ad 118 30 296 x0.toNatClampNeg)) = (2 : Int32) then (bnd2F (F_9 x0.toNatClampNeg x1 x2 l) fun v7 l7 => (if ¬ v7 = 0 then (.inl ((R l7 (ad 298 30 306 x0.toNatClampNeg))), l7) else (.inr 2, l7))) else (.inr 2, l)) else (.inr 2, l)) else (.inr 1, l)) else (.inr 0, l)) else (.inr 0, l))
theorem t_33 (n : Nat) (x0 : Int32) (x1 : Int32) (x2 : Int32) (m9 : Nat) : f_33 n x0 x1 x2 (dec m9) = dP (F_33 n x0 x1 x2 m9) := by
  unfold f_33 F_33
  (simp only [dk_296, ud_296, dk_306, ud_306, bnd_d, bnd2_d, bndF_eq, bnd2F_eq, dec_bnd, d2_bnd, dP_bnd, dec_bnd2, d2_bnd2, dP_bnd2, dec_ite, d2_ite, dP_ite, d2_mk, dP_mk, qk, t_9]) <;> (repeat' first | with_reducible rfl | refine ite_t9 ?_ ?_ ?_ | refine bnd_c9 (fun _ => ?_) | refine bnd2_c9 (fun _ _ => ?_))
noncomputable def F_34 (n : Nat) (x0 : Int32) (x1 : Int32) (x2 : Int32) (x3 : Int32) (l : Nat) : PN := (if isN x0 then (if isT x3 then (if (1 : Int32) ≤ x1 ∧ x1 ≤ (6 : Int32) then (if x1 ≤ x2 ∧ x2 ≤ (6 : Int32) then (if quietF l n = true then (bndF (F_25 x0.toNatClampNeg (3 : Int32) x3 (-1 : Int32) l) fun l8 => (.inl 0, (Wm (Wm l8 (ad 2374 30 437 x0.toNatClampNeg) x1) (ad 2404 30 438 x0.toNatClampNeg) x2))) else (.inr 2, l)) else (.inr 1, l)) else (.inr 1, l)) else (.inr 0, l)) else (.inr 0, l))
theorem t_34 (n : Nat) (x0 : Int32) (x1 : Int32) (x2 : Int32) (x3 : Int32) (m9 : Nat) : f_34 n x0 x1 x2 x3 (dec m9) = dP (F_34 n x0 x1 x2 x3 m9) := by
  unfold f_34 F_34
  (simp only [dk_437, ud_437, dk_438, ud_438, bnd_d, bnd2_d, bndF_eq, bnd2F_eq, dec_bnd, d2_bnd, dP_bnd, dec_bnd2, d2_bnd2, dP_bnd2, dec_ite, d2_ite, dP_ite, d2_mk, dP_mk, qk, t_25]) <;> (repeat' first | with_reducible rfl | refine ite_t9 ?_ ?_ ?_ | refine bnd_c9 (fun _ => ?_) | refine bnd2_c9 (fun _ _ => ?_))
noncomputable def F_35 (n : Nat) (x0 : Int32) (x1 : Int32) (x2 : Int32) (x3 : Int32) (x4 : Int32) (l : Nat) : PN := (if isN x0 then (if isT x4 then (if (1 : Int32) ≤ x1 ∧ x1 ≤ (60 : Int32) then (if (1 : Int32) ≤ x2 ∧ x2 ≤ (20 : Int32) then (if (1 : Int32) ≤ x3 ∧ x3 ≤ (5 : Int32) then (if quietF l n = true then (if (R l (ad 118 30 296 x0.toNatClampNeg)) = (2 : Int32) then (.inl 0, (Wm (Wm (Wm (Wm l (ad 208 30 303 x0.toNatClampNeg) x1) (ad 238 30 304 x0.toNatClampNeg) x2) (ad 268 30 305 x0.toNatClampNeg) x3) (ad 178 30 302 x0.toNatClampNeg) x4)) else (if (R l (ad 118 30 296 x0.toNatClampNeg)) = (3 : Int32) then (.inl 0, (Wm (Wm (Wm (Wm l (ad 208 30 303 x0.toNatClampNeg) x1) (ad 238 30 304 x0.toNatClampNeg) x2) (ad 268 30 305 x0.toNatClampNeg) x3) (ad 178 30 302 x0.toNatClampNeg) x4)) else (.inr 2, l))) else (.inr 2, l)) else (.inr 1, l)) else (.inr 1, l)) else (.inr 1, l)) else (.inr 0, l)) else (.inr 0, l))
theorem t_35 (n : Nat) (x0 : Int32) (x1 : Int32) (x2 : Int32) (x3 : Int32) (x4 : Int32) (m9 : Nat) : f_35 n x0 x1 x2 x3 x4 (dec m9) = dP (F_35 n x0 x1 x2 x3 x4 m9) := by
  unfold f_35 F_35
  (simp only [dk_296, ud_296, dk_302, ud_302, dk_303, ud_303, dk_304, ud_304, dk_305, ud_305, bnd_d, bnd2_d, bndF_eq, bnd2F_eq, dec_bnd, d2_bnd, dP_bnd, dec_bnd2, d2_bnd2, dP_bnd2, dec_ite, d2_ite, dP_ite, d2_mk, dP_mk, qk]) <;> (repeat' first | with_reducible rfl | refine ite_t9 ?_ ?_ ?_ | refine bnd_c9 (fun _ => ?_) | refine bnd2_c9 (fun _ _ => ?_))
noncomputable def F_36 (n : Nat) (x0 : Int32) (x1 : Int32) (x2 : Int32) (x3 : Int32) (x4 : Int32) (x5 : Int32) (l : Nat) : PN := (if isN x0 then (if isT x4 then (if isT x5 then (if (0 : Int32) ≤ x1 ∧ x1 ≤ (4 : Int32) then (if (0 : Int32) ≤ x2 ∧ x2 ≤ (f_79 x1) then (if (0 : Int32) ≤ x3 ∧ x3 ≤ (60 : Int32) then (if quietF l n = true then (bndF (F_25 x0.toNatClampNeg (4 : Int32) x4 x5 l) fun l11 => (.inl 0, (Wm (Wm (Wm l11 (ad 2434 30 439 x0.toNatClampNeg) x1) (ad 2464 30 440 x0.toNatClampNeg) x2) (ad 2494 30 441 x0.toNatClampNeg) x3))) else (.inr 2, l)) else (.inr 1, l)) else (.inr 1, l)) else (.inr 1, l)) else (.inr 0, l)) else (.inr 0, l)) else (.inr 0, l))
theorem t_36 (n : Nat) (x0 : Int32) (x1 : Int32) (x2 : Int32) (x3 : Int32) (x4 : Int32) (x5 : Int32) (m9 : Nat) : f_36 n x0 x1 x2 x3 x4 x5 (dec m9) = dP (F_36 n x0 x1 x2 x3 x4 x5 m9) := by
  unfold f_36 F_36
  (simp only [dk_439, ud_439, dk_440, ud_440, dk_441, ud_441, bnd_d, bnd2_d, bndF_eq, bnd2F_eq, dec_bnd, d2_bnd, dP_bnd, dec_bnd2, d2_bnd2, dP_bnd2, dec_ite, d2_ite, dP_ite, d2_mk, dP_mk, qk, t_25]) <;> (repeat' first | with_reducible rfl | refine ite_t9 ?_ ?_ ?_ | refine bnd_c9 (fun _ => ?_) | refine bnd2_c9 (fun _ _ => ?_))
noncomputable def F_37 (n : Nat) (x0 : Int32) (x1 : Int32) (x2 : Int32) (l : Nat) : PN := (if isN x0 then (if isT x1 then (if isT x2 then (if quietF l n = true then (bndF (F_25 x0.toNatClampNeg (5 : Int32) x1 x2 l) fun l6 => (.inl 0, l6)) else (.inr 2, l)) else (.inr 0, l)) else (.inr 0, l)) else (.inr 0, l))
theorem t_37 (n : Nat) (x0 : Int32) (x1 : Int32) (x2 : Int32) (m9 : Nat) : f_37 n x0 x1 x2 (dec m9) = dP (F_37 n x0 x1 x2 m9) := by
  unfold f_37 F_37
  (simp only [bnd_d, bnd2_d, bndF_eq, bnd2F_eq, dec_bnd, d2_bnd, dP_bnd, dec_bnd2, d2_bnd2, dP_bnd2, dec_ite, d2_ite, dP_ite, d2_mk, dP_mk, qk, t_25]) <;> (repeat' first | with_reducible rfl | refine ite_t9 ?_ ?_ ?_ | refine bnd_c9 (fun _ => ?_) | refine bnd2_c9 (fun _ _ => ?_))
noncomputable def F_38 (n : Nat) (x0 : Int32) (l : Nat) : PN := (if isN x0 then (if quietF l n = true then (bndF (F_25 x0.toNatClampNeg (6 : Int32) (-1 : Int32) (-1 : Int32) l) fun l4 => (.inl 0, l4)) else (.inr 2, l)) else (.inr 0, l))
theorem t_38 (n : Nat) (x0 : Int32) (m9 : Nat) : f_38 n x0 (dec m9) = dP (F_38 n x0 m9) := by
  unfold f_38 F_38
  (simp only [bnd_d, bnd2_d, bndF_eq, bnd2F_eq, dec_bnd, d2_bnd, dP_bnd, dec_bnd2, d2_bnd2, dP_bnd2, dec_ite, d2_ite, dP_ite, d2_mk, dP_mk, qk, t_25]) <;> (repeat' first | with_reducible rfl | refine ite_t9 ?_ ?_ ?_ | refine bnd_c9 (fun _ => ?_) | refine bnd2_c9 (fun _ _ => ?_))
noncomputable def F_39 (n : Nat) (x0 : Int32) (x1 : Int32) (x2 : Int32) (x3 : Int32) (x4 : Int32) (x5 : Int32) (l : Nat) : PN := (if isN x0 then (if isT x5 then (if (0 : Int32) ≤ x1 ∧ x1 ≤ (5 : Int32) then (if (0 : Int32) ≤ x2 ∧ x2 ≤ (9 : Int32) then (if (1 : Int32) ≤ x3 ∧ x3 ≤ (500 : Int32) then (if (1 : Int32) ≤ x4 ∧ x4 ≤ (30 : Int32) then (if quietF l n = true then (bndF (F_25 x0.toNatClampNeg (7 : Int32) x5 (-2 : Int32) l) fun l13 => (.inl 0, (Wm (Wm (Wm (Wm l13 (ad 2524 30 442 x0.toNatClampNeg) x1) (ad 2554 30 443 x0.toNatClampNeg) x2) (ad 2404 30 438 x0.toNatClampNeg) x3) (ad 2584 30 444 x0.toNatClampNeg) x4))) else (.inr 2, l)) else (.inr 1, l)) else (.inr 1, l)) else (.inr 1, l)) else (.inr 1, l)) else (.inr 0, l)) else (.inr 0, l))
theorem t_39 (n : Nat) (x0 : Int32) (x1 : Int32) (x2 : Int32) (x3 : Int32) (x4 : Int32) (x5 : Int32) (m9 : Nat) : f_39 n x0 x1 x2 x3 x4 x5 (dec m9) = dP (F_39 n x0 x1 x2 x3 x4 x5 m9) := by
  unfold f_39 F_39
  (simp only [dk_438, ud_438, dk_442, ud_442, dk_443, ud_443, dk_444, ud_444, bnd_d, bnd2_d, bndF_eq, bnd2F_eq, dec_bnd, d2_bnd, dP_bnd, dec_bnd2, d2_bnd2, dP_bnd2, dec_ite, d2_ite, dP_ite, d2_mk, dP_mk, qk, t_25]) <;> (repeat' first | with_reducible rfl | refine ite_t9 ?_ ?_ ?_ | refine bnd_c9 (fun _ => ?_) | refine bnd2_c9 (fun _ _ => ?_))
noncomputable def F_40 (n : Nat) (x0 : Int32) (x1 : Int32) (l : Nat) : PN := (if isN x0 then (if isT x1 then (if quietF l n = true then (if (R l (ad 118 30 296 x0.toNatClampNeg)) = (7 : Int32) then (.inl 0, (Wm l (ad 178 30 302 x0.toNatClampNeg) x1)) else (.inr 2, l)) else (.inr 2, l)) else (.inr 0, l)) else (.inr 0, l))
theorem t_40 (n : Nat) (x0 : Int32) (x1 : Int32) (m9 : Nat) : f_40 n x0 x1 (dec m9) = dP (F_40 n x0 x1 m9) := by
  unfold f_40 F_40
  (simp only [dk_296, ud_296, dk_302, ud_302, bnd_d, bnd2_d, bndF_eq, bnd2F_eq, dec_bnd, d2_bnd, dP_bnd, dec_bnd2, d2_bnd2, dP_bnd2, dec_ite, d2_ite, dP_ite, d2_mk, dP_mk, qk]) <;> (repeat' first | with_reducible rfl | refine ite_t9 ?_ ?_ ?_ | refine bnd_c9 (fun _ => ?_) | refine bnd2_c9 (fun _ _ => ?_))
noncomputable def F_41 (n : Nat) (x0 : Int32) (l : Nat) : PN := (if isN x0 then (if quietF l n = true then (bndF (F_25 x0.toNatClampNeg (8 : Int32) (-1 : Int32) (-1 : Int32) l) fun l4 => (.inl 0, l4)) else (.inr 2, l)) else (.inr 0, l))
theorem t_41 (n : Nat) (x0 : Int32) (m9 : Nat) : f_41 n x0 (dec m9) = dP (F_41 n x0 m9) := by
  unfold f_41 F_41
  (simp only [bnd_d, bnd2_d, bndF_eq, bnd2F_eq, dec_bnd, d2_bnd, dP_bnd, dec_bnd2, d2_bnd2, dP_bnd2, dec_ite, d2_ite, dP_ite, d2_mk, dP_mk, qk, t_25]) <;> (repeat' first | with_reducible rfl | refine ite_t9 ?_ ?_ ?_ | refine bnd_c9 (fun _ => ?_) | refine bnd2_c9 (fun _ _ => ?_))
noncomputable def F_42 (n : Nat) (x0 : Int32) (x1 : Int32) (x2 : Int32) (l : Nat) : PN := (if (0 : Int32) ≤ x0 ∧ x0 ≤ (6 : Int32) then (if (0 : Int32) ≤ x1 ∧ x1 ≤ (240 : Int32) then (if x1 ≤ x2 ∧ x2 ≤ (240 : Int32) then (.inl 0, (Wm (Wm l (ad 20 7 293 x0.toNatClampNeg) x1) (ad 27 7 294 x0.toNatClampNeg) x2)) else (.inr 1, l)) else (.inr 1, l)) else (.inr 1, l))
theorem t_42 (n : Nat) (x0 : Int32) (x1 : Int32) (x2 : Int32) (m9 : Nat) : f_42 n x0 x1 x2 (dec m9) = dP (F_42 n x0 x1 x2 m9) := by
  unfold f_42 F_42
  (simp only [dk_293, ud_293, dk_294, ud_294, bnd_d, bnd2_d, bndF_eq, bnd2F_eq, dec_bnd, d2_bnd, dP_bnd, dec_bnd2, d2_bnd2, dP_bnd2, dec_ite, d2_ite, dP_ite, d2_mk, dP_mk, qk]) <;> (repeat' first | with_reducible rfl | refine ite_t9 ?_ ?_ ?_ | refine bnd_c9 (fun _ => ?_) | refine bnd2_c9 (fun _ _ => ?_))
noncomputable def F_43 (n : Nat) (x0 : Int32) (x1 : Int32) (l : Nat) : PN := (if (0 : Int32) ≤ x0 ∧ x0 ≤ (83 : Int32) then (.inl ((R l (ad 34 84 295 x0.toNatClampNeg))), (Wm l (ad 34 84 295 x0.toNatClampNeg) x1)) else (.inr 1, l))
theorem t_43 (n : Nat) (x0 : Int32) (x1 : Int32) (m9 : Nat) : f_43 n x0 x1 (dec m9) = dP (F_43 n x0 x1 m9) := by
  unfold f_43 F_43
  (simp only [dk_295, ud_295, bnd_d, bnd2_d, bndF_eq, bnd2F_eq, dec_bnd, d2_bnd, dP_bnd, dec_bnd2, d2_bnd2, dP_bnd2, dec_ite, d2_ite, dP_ite, d2_mk, dP_mk, qk]) <;> (repeat' first | with_reducible rfl | refine ite_t9 ?_ ?_ ?_ | refine bnd_c9 (fun _ => ?_) | refine bnd2_c9 (fun _ _ => ?_))
noncomputable def F_44 (l : Nat) : Int32 := (F_29 ((R l (ad 0 20 292 0))) l)
theorem t_44  (m9 : Nat) : f_44 (dec m9) = F_44 m9 := by
  unfold f_44 F_44
  (simp only [dk_292, ud_292, bnd_d, bnd2_d, bndF_eq, bnd2F_eq, dec_bnd, d2_bnd, dP_bnd, dec_bnd2, d2_bnd2, dP_bnd2, dec_ite, d2_ite, dP_ite, d2_mk, dP_mk, qk, t_29]) <;> (repeat' first | with_reducible rfl | refine ite_t9 ?_ ?_ ?_ | refine bnd_c9 (fun _ => ?_) | refine bnd2_c9 (fun _ _ => ?_))
noncomputable def F_55 (n : Nat) (l : Nat) : Int32 := i32 n
theorem t_55 (n : Nat) (m9 : Nat) : f_55 n (dec m9) = F_55 n m9 := by
  unfold f_55 F_55
  (simp only [bnd_d, bnd2_d, bndF_eq, bnd2F_eq, dec_bnd, d2_bnd, dP_bnd, dec_bnd2, d2_bnd2, dP_bnd2, dec_ite, d2_ite, dP_ite, d2_mk, dP_mk, qk]) <;> (repeat' first | with_reducible rfl | refine ite_t9 ?_ ?_ ?_ | refine bnd_c9 (fun _ => ?_) | refine bnd2_c9 (fun _ _ => ?_))
noncomputable def F_45 (n : Nat) (x0 : Int32) (l : Nat) : PN := (if isN x0 then (if n < 60 then (bndF (F_80 (n + 1) n x0 (Wm l (ad 0 20 292 19) (i32 (n + 1)))) fun l4 => (bndF (F_95 (n + 1) l4) fun l5 => (.inl (i32 n), l5))) else (.inr 2, l)) else (.inr 0, l))
theorem t_45 (n : Nat) (x0 : Int32) (m9 : Nat) : f_45 n x0 (dec m9) = dP (F_45 n x0 m9) := by
  unfold f_45 F_45
  (simp only [dk_292, ud_292, bnd_d, bnd2_d, bndF_eq, bnd2F_eq, dec_bnd, d2_bnd, dP_bnd, dec_bnd2, d2_bnd2, dP_bnd2, dec_ite, d2_ite, dP_ite, d2_mk, dP_mk, qk, t_80, t_95]) <;> (repeat' first | with_reducible rfl | refine ite_t9 ?_ ?_ ?_ | refine bnd_c9 (fun _ => ?_) | refine bnd2_c9 (fun _ _ => ?_))
noncomputable def F_46 (n : Nat) (x0 : Int32) (x1 : Int32) (l : Nat) : PN := (if isCl n x0 then (if (0 : Int32) ≤ x1 ∧ x1 ≤ (11 : Int32) then (if (R l (ad 958 60 311 x0.toNatClampNeg)) = 0 then (bnd2F (F_85 x0.toNatClampNeg x1 l) fun v6 l6 => (if v6 = (-2 : Int32) then (.inl ((R l6 (ad 1078 60 313 x0.toNatClampNeg))), l6) else (bndF (F_81 n x0.toNatClampNeg v6 l6) fun l8 => (bndF (F_95 n l8) fun l9 => (.inl ((R l9 (ad 1078 60 313 x0.toNatClampNeg))), l9))))) else (if (R l (ad 958 60 311 x0.toNatClampNeg)) = (1 : Int32) then (bnd2F (F_85 x0.toNatClampNeg x1 l) fun v11 l11 => (if v11 = (-2 : Int32) then (.inl ((R l11 (ad 1078 60 313 x0.toNatClampNeg))), l11) else (bndF (F_81 n x0.toNatClampNeg v11 l11) fun l13 => (bndF (F_95 n l13) fun l14 => (.inl ((R l14 (ad 1078 60 313 x0.toNatClampNeg))), l14))))) else (.inr 2, l))) else (.inr 1, l)) else (.inr 0, l))
theorem t_46 (n : Nat) (x0 : Int32) (x1 : Int32) (m9 : Nat) : f_46 n x0 x1 (dec m9) = dP (F_46 n x0 x1 m9) := by
  unfold f_46 F_46
  (simp only [dk_311, ud_311, dk_313, ud_313, bnd_d, bnd2_d, bndF_eq, bnd2F_eq, dec_bnd, d2_bnd, dP_bnd, dec_bnd2, d2_bnd2, dP_bnd2, dec_ite, d2_ite, dP_ite, d2_mk, dP_mk, qk, t_81, t_85, t_95]) <;> (repeat' first | with_reducible rfl | refine ite_t9 ?_ ?_ ?_ | refine bnd_c9 (fun _ => ?_) | refine bnd2_c9 (fun _ _ => ?_))
noncomputable def F_47 (n : Nat) (x0 : Int32) (l : Nat) : PN := (if isCl n x0 then (if ¬ (R l (ad 958 60 311 x0.toNatClampNeg)) = (5 : Int32) then (bndF (F_91 x0.toNatClampNeg (1 : Int32) l) fun l4 => (bndF (F_95 n l4) fun l5 => (.inl ((R l (ad 958 60 311 x0.toNatClampNeg))), l5))) else (.inr 2, l)) else (.inr 0, l))
theorem t_47 (n : Nat) (x0 : Int32) (m9 : Nat) : f_47 n x0 (dec m9) = dP (F_47 n x0 m9) := by
  unfold f_47 F_47
  (simp only [dk_311, ud_311, bnd_d, bnd2_d, bndF_eq, bnd2F_eq, dec_bnd, d2_bnd, dP_bnd, dec_bnd2, d2_bnd2, dP_bnd2, dec_ite, d2_ite, dP_ite, d2_mk, dP_mk, qk, t_91, t_95]) <;> (repeat' first | with_reducible rfl | refine ite_t9 ?_ ?_ ?_ | refine bnd_c9 (fun _ => ?_) | refine bnd2_c9 (fun _ _ => ?_))
noncomputable def F_48 (n : Nat) (x0 : Int32) (l : Nat) : PN := (if isCl n x0 then (if (R l (ad 958 60 311 x0.toNatClampNeg)) = (4 : Int32) then (bndF (F_92 x0.toNatClampNeg (2 : Int32) l) fun l4 => (if isA ((R l4 (ad 1978 60 325 x0.toNatClampNeg))) then (.inl ((R l4 (ad 1978 60 325 x0.toNatClampNeg))), (Wm l4 (ad 2038 6 326 (((R l4 (ad 1978 60 325 x0.toNatClampNeg))).toNatClampNeg)) (2 : Int32))) else (.inl ((R l4 (ad 1978 60 325 x0.toNatClampNeg))), l4))) else (.inr 2, l)) else (.inr 0, l))
theorem t_48 (n : Nat) (x0 : Int32) (m9 : Nat) : f_48 n x0 (dec m9) = dP (F_48 n x0 m9) := by
  unfold f_48 F_48
  (simp only [dk_311, ud_311, dk_325, ud_325, dk_326, ud_326, bnd_d, bnd2_d, bndF_eq, bnd2F_eq, dec_bnd, d2_bnd, dP_bnd, dec_bnd2, d2_bnd2, dP_bnd2, dec_ite, d2_ite, dP_ite, d2_mk, dP_mk, qk, t_92]) <;> (repeat' first | with_reducible rfl | refine ite_t9 ?_ ?_ ?_ | refine bnd_c9 (fun _ => ?_) | refine bnd2_c9 (fun _ _ => ?_))
noncomputable def F_49 (n : Nat) (x0 : Int32) (x1 : Int32) (l : Nat) : PN := (if isA x0 then (if (1 : Int32) ≤ x1 ∧ x1 ≤ (63 : Int32) then (if ¬ ((R l (ad 2038 6 326 x0.toNatClampNeg)) = 2 ∨ (R l (ad 2038 6 326 x0.toNatClampNeg)) = 3) then (if ¬ (R l (ad 2038 6 326 x0.toNatClampNeg)) = 0 then (bndF (F_95 n (Wm l (ad 2044 6 327 x0.toNatClampNeg) x1)) fun l7 => (.inl ((R l7 (ad 2068 6 331 x0.toNatClampNeg))), l7)) else (bndF (F_1 x0.toNatClampNeg ((R l (ad 0 20 292 0))) (Wm l (ad 2044 6 327 x0.toNatClampNeg) x1)) fun l8 => (bndF (F_95 n l8) fun l9 => (.inl ((R l9 (ad 2068 6 331 x0.toNatClampNeg))), l9)))) else (.inr 2, l)) else (.inr 1, l)) else (.inr 0, l))
theorem t_49 (n : Nat) (x0 : Int32) (x1 : Int32) (m9 : Nat) : f_49 n x0 x1 (dec m9) = dP (F_49 n x0 x1 m9) := by
  unfold f_49 F_49
  (simp only [dk_292, ud_292, dk_326, ud_326, dk_327, ud_327, dk_331, ud_331, bnd_d, bnd2_d, bndF_eq, bnd2F_eq, dec_bnd, d2_bnd, dP_bnd, dec_bnd2, d2_bnd2, dP_bnd2, dec_ite, d2_ite, dP_ite, d2_mk, dP_mk, qk, t_1, t_95]) <;> (repeat' first | with_reducible rfl | refine ite_t9 ?_ ?_ ?_ | refine bnd_c9 (fun _ => ?_) | refine bnd2_c9 (fun _ _ => ?_))
noncomputable def F_50 (n : Nat) (x0 : Int32) (l : Nat) : PN := (if isA x0 then (if ¬ ((R l (ad 2038 6 326 x0.toNatClampNeg)) = 2 ∨ (R l (ad 2038 6 326 x0.toNatClampNeg)) = 3) then (.inl ((R l (ad 2038 6 326 x0.toNatClampNeg))), (Wm l (ad 2038 6 326 x0.toNatClampNeg) (0 : Int32))) else (.inr 2, l)) else (.inr 0, l))
theorem t_50 (n : Nat) (x0 : Int32) (m9 : Nat) : f_50 n x0 (dec m9) = dP (F_50 n x0 m9) := by
  unfold f_50 F_50
  (simp only [dk_326, ud_326, bnd_d, bnd2_d, bndF_eq, bnd2F_eq, dec_bnd, d2_bnd, dP_bnd, dec_bnd2, d2_bnd2, dP_bnd2, dec_ite, d2_ite, dP_ite, d2_mk, dP_mk, qk]) <;> (repeat' first | with_reducible rfl | refine ite_t9 ?_ ?_ ?_ | refine bnd_c9 (fun _ => ?_) | refine bnd2_c9 (fun _ _ => ?_))
noncomputable def F_51 (n : Nat) (x0 : Int32) (x1 : Int32) (l : Nat) : PN := (if isA x0 then (if (0 : Int32) ≤ x1 ∧ x1 ≤ (30 : Int32) then (.inl ((R l (ad 2056 6 329 x0.toNatClampNeg))), (Wm l (ad 2056 6 329 x0.toNatClampNeg) x1)) else (.inr 1, l)) else (.inr 0, l))
theorem t_51 (n : Nat) (x0 : Int32) (x1 : Int32) (m9 : Nat) : f_51 n x0 x1 (dec m9) = dP (F_51 n x0 x1 m9) := by
  unfold f_51 F_51
  (simp only [dk_329, ud_329, bnd_d, bnd2_d, bndF_eq, bnd2F_eq, dec_bnd, d2_bnd, dP_bnd, dec_bnd2, d2_bnd2, dP_bnd2, dec_ite, d2_ite, dP_ite, d2_mk, dP_mk, qk]) <;> (repeat' first | with_reducible rfl | refine ite_t9 ?_ ?_ ?_ | refine bnd_c9 (fun _ => ?_) | refine bnd2_c9 (fun _ _ => ?_))
noncomputable def F_52 (n : Nat) (x0 : Int32) (l : Nat) : PN := (if isA x0 then (if (R l (ad 2038 6 326 x0.toNatClampNeg)) = 2 then (if isCl n ((R l (ad 2068 6 331 x0.toNatClampNeg))) then (bndF (F_91 (((R l (ad 2068 6 331 x0.toNatClampNeg))).toNatClampNeg) (4 : Int32) l) fun l6 => (bndF (F_95 n l6) fun l7 => (.inl ((R l (ad 2068 6 331 x0.toNatClampNeg))), l7))) else (bndF (F_95 n l) fun l8 => (.inl ((R l (ad 2068 6 331 x0.toNatClampNeg))), l8))) else (.inr 2, l)) else (.inr 0, l))
theorem t_52 (n : Nat) (x0 : Int32) (m9 : Nat) : f_52 n x0 (dec m9) = dP (F_52 n x0 m9) := by
  unfold f_52 F_52
  (simp only [dk_326, ud_326, dk_331, ud_331, bnd_d, bnd2_d, bndF_eq, bnd2F_eq, dec_bnd, d2_bnd, dP_bnd, dec_bnd2, d2_bnd2, dP_bnd2, dec_ite, d2_ite, dP_ite, d2_mk, dP_mk, qk, t_91, t_95]) <;> (repeat' first | with_reducible rfl | refine ite_t9 ?_ ?_ ?_ | refine bnd_c9 (fun _ => ?_) | refine bnd2_c9 (fun _ _ => ?_))
noncomputable def F_53 (n : Nat) (x0 : Int32) (x1 : Int32) (l : Nat) : PN := (if isA x0 then (if isN x1 then (if (R l (ad 2038 6 326 x0.toNatClampNeg)) = 2 then (if isCl n ((R l (ad 2068 6 331 x0.toNatClampNeg))) then (bndF (F_101 (((R l (ad 2068 6 331 x0.toNatClampNeg))).toNatClampNeg) l) fun l8 => (bndF (F_18 (((R l (ad 2068 6 331 x0.toNatClampNeg))).toNatClampNeg) l8) fun l9 => (bndF (F_80 n (((R l (ad 2068 6 331 x0.toNatClampNeg))).toNatClampNeg) x1 l9) fun l10 => (bndF (F_95 n l10) fun l11 => (.inl ((R l (ad 2068 6 331 x0.toNatClampNeg))), l11))))) else (bndF (F_95 n l) fun l12 => (.inl ((R l (ad 2068 6 331 x0.toNatClampNeg))), l12))) else (.inr 2, l)) else (.inr 0, l)) else (.inr 0, l))
theorem t_53 (n : Nat) (x0 : Int32) (x1 : Int32) (m9 : Nat) : f_53 n x0 x1 (dec m9) = dP (F_53 n x0 x1 m9) := by
  unfold f_53 F_53
  (simp only [dk_326, ud_326, dk_331, ud_331, bnd_d, bnd2_d, bndF_eq, bnd2F_eq, dec_bnd, d2_bnd, dP_bnd, dec_bnd2, d2_bnd2, dP_bnd2, dec_ite, d2_ite, dP_ite, d2_mk, dP_mk, qk, t_101, t_18, t_80, t_95]) <;> (repeat' first | with_reducible rfl | refine ite_t9 ?_ ?_ ?_ | refine bnd_c9 (fun _ => ?_) | refine bnd2_c9 (fun _ _ => ?_))
noncomputable def G_54 (n : Nat) (u : Nat) : Nat → Nat → Nat → PN
  | 0, _, l => (.inl ((R l (ad 0 20 292 0))), l)
  | d + 1, j, l => (bndF (F_88 n (Wm l (ad 0 20 292 0) ((R l (ad 0 20 292 0)) + (1 : Int32)))) fun l2 => (bndF (F_94 l2) fun l3 => (bndF (F_95 n l3) fun l4 => G_54 n u d (j + 1)  l4)))
theorem tg_54 (n : Nat) (u : Nat) : ∀ (d9 : Nat) (v1 : Nat) (m9 : Nat), g_54 n u d9 v1 (dec m9) = dP (G_54 n u d9 v1 m9) := by
  intro d9
  induction d9 with
  | zero =>
    intros
    (simp only [g_54, G_54, dk_292, ud_292, bnd_d, bnd2_d, bndF_eq, bnd2F_eq, dec_bnd, d2_bnd, dP_bnd, dec_bnd2, d2_bnd2, dP_bnd2, dec_ite, d2_ite, dP_ite, d2_mk, dP_mk, qk, t_88, t_94, t_95]) <;> (repeat' first | with_reducible rfl | refine ite_t9 ?_ ?_ ?_ | refine bnd_c9 (fun _ => ?_) | refine bnd2_c9 (fun _ _ => ?_))
  | succ d9 ih =>
    intros
    (simp only [g_54, G_54, ih, dk_292, ud_292, bnd_d, bnd2_d, bndF_eq, bnd2F_eq, dec_bnd, d2_bnd, dP_bnd, dec_bnd2, d2_bnd2, dP_bnd2, dec_ite, d2_ite, dP_ite, d2_mk, dP_mk, qk, t_88, t_94, t_95]) <;> (repeat' first | with_reducible rfl | refine ite_t9 ?_ ?_ ?_ | refine bnd_c9 (fun _ => ?_) | refine bnd2_c9 (fun _ _ => ?_))
noncomputable def F_54 (n : Nat) (x0 : Int32) (l : Nat) : PN := (if (1 : Int32) ≤ x0 ∧ x0 ≤ (100 : Int32) then (if ((R l (ad 0 20 292 0)) + x0) ≤ (20000 : Int32) then G_54 n x0.toNatClampNeg x0.toNatClampNeg 0 l else (.inr 2, l)) else (.inr 1, l))
theorem t_54 (n : Nat) (x0 : Int32) (m9 : Nat) : f_54 n x0 (dec m9) = dP (F_54 n x0 m9) := by
  unfold f_54 F_54
  (simp only [dk_292, ud_292, bnd_d, bnd2_d, bndF_eq, bnd2F_eq, dec_bnd, d2_bnd, dP_bnd, dec_bnd2, d2_bnd2, dP_bnd2, dec_ite, d2_ite, dP_ite, d2_mk, dP_mk, qk, tg_54]) <;> (repeat' first | with_reducible rfl | refine ite_t9 ?_ ?_ ?_ | refine bnd_c9 (fun _ => ?_) | refine bnd2_c9 (fun _ _ => ?_))
noncomputable def F_56 (n : Nat) (x0 : Int32) (l : Nat) : PN := (if isCl n x0 then (.inl ((R l (ad 958 60 311 x0.toNatClampNeg))), l) else (.inr 0, l))
theorem t_56 (n : Nat) (x0 : Int32) (m9 : Nat) : f_56 n x0 (dec m9) = dP (F_56 n x0 m9) := by
  unfold f_56 F_56
  (simp only [dk_311, ud_311, bnd_d, bnd2_d, bndF_eq, bnd2F_eq, dec_bnd, d2_bnd, dP_bnd, dec_bnd2, d2_bnd2, dP_bnd2, dec_ite, d2_ite, dP_ite, d2_mk, dP_mk, qk]) <;> (repeat' first | with_reducible rfl | refine ite_t9 ?_ ?_ ?_ | refine bnd_c9 (fun _ => ?_) | refine bnd2_c9 (fun _ _ => ?_))
noncomputable def F_57 (n : Nat) (x0 : Int32) (l : Nat) : PN := (if isCl n x0 then (.inl ((R l (ad 1018 60 312 x0.toNatClampNeg))), l) else (.inr 0, l))
theorem t_57 (n : Nat) (x0 : Int32) (m9 : Nat) : f_57 n x0 (dec m9) = dP (F_57 n x0 m9) := by
  unfold f_57 F_57
  (simp only [dk_312, ud_312, bnd_d, bnd2_d, bndF_eq, bnd2F_eq, dec_bnd, d2_bnd, dP_bnd, dec_bnd2, d2_bnd2, dP_bnd2, dec_ite, d2_ite, dP_ite, d2_mk, dP_mk, qk]) <;> (repeat' first | with_reducible rfl | refine ite_t9 ?_ ?_ ?_ | refine bnd_c9 (fun _ => ?_) | refine bnd2_c9 (fun _ _ => ?_))
noncomputable def F_58 (n : Nat) (x0 : Int32) (l : Nat) : PN := (if isCl n x0 then (.inl ((R l (ad 1078 60 313 x0.toNatClampNeg))), l) else (.inr 0, l))
theorem t_58 (n : Nat) (x0 : Int32) (m9 : Nat) : f_58 n x0 (dec m9) = dP (F_58 n x0 m9) := by
  unfold f_58 F_58
  (simp only [dk_313, ud_313, bnd_d, bnd2_d, bndF_eq, bnd2F_eq, dec_bnd, d2_bnd, dP_bnd, dec_bnd2, d2_bnd2, dP_bnd2, dec_ite, d2_ite, dP_ite, d2_mk, dP_mk, qk]) <;> (repeat' first | with_reducible rfl | refine ite_t9 ?_ ?_ ?_ | refine bnd_c9 (fun _ => ?_) | refine bnd2_c9 (fun _ _ => ?_))
noncomputable def F_59 (n : Nat) (x0 : Int32) (l : Nat) : PN := (if isCl n x0 then (.inl ((R l (ad 1318 60 317 x0.toNatClampNeg))), l) else (.inr 0, l))
theorem t_59 (n : Nat) (x0 : Int32) (m9 : Nat) : f_59 n x0 (dec m9) = dP (F_59 n x0 m9) := by
  unfold f_59 F_59
  (simp only [dk_317, ud_317, bnd_d, bnd2_d, bndF_eq, bnd2F_eq, dec_bnd, d2_bnd, dP_bnd, dec_bnd2, d2_bnd2, dP_bnd2, dec_ite, d2_ite, dP_ite, d2_mk, dP_mk, qk]) <;> (repeat' first | with_reducible rfl | refine ite_t9 ?_ ?_ ?_ | refine bnd_c9 (fun _ => ?_) | refine bnd2_c9 (fun _ _ => ?_))
noncomputable def G_60 (n : Nat) (c : Nat) (x0 : Int32) (sc : Int32) : Nat → Nat → Int32 → Nat → PN
  | 0, _, a, l => (.inl a, l)
  | d + 1, j, a, l => (if (F_14 j ((R l (ad 1678 60 320 c))) l) = 0 then G_60 n c x0 sc d (j + 1) a l else (if (f_103 (F_16 j ((R l (ad 0 20 292 0))) l) (i32 j) sc x0) = 0 then G_60 n c x0 sc d (j + 1) a l else G_60 n c x0 sc d (j + 1) (a + (1 : Int32)) l))
theorem tg_60 (n : Nat) (c : Nat) (x0 : Int32) (sc : Int32) : ∀ (d9 : Nat) (v1 : Nat) (v2 : Int32) (m9 : Nat), g_60 n c x0 sc d9 v1 v2 (dec m9) = dP (G_60 n c x0 sc d9 v1 v2 m9) := by
  intro d9
  induction d9 with
  | zero =>
    intros
    (simp only [g_60, G_60, dk_292, ud_292, dk_320, ud_320, bnd_d, bnd2_d, bndF_eq, bnd2F_eq, dec_bnd, d2_bnd, dP_bnd, dec_bnd2, d2_bnd2, dP_bnd2, dec_ite, d2_ite, dP_ite, d2_mk, dP_mk, qk, t_14, t_16]) <;> (repeat' first | with_reducible rfl | refine ite_t9 ?_ ?_ ?_ | refine bnd_c9 (fun _ => ?_) | refine bnd2_c9 (fun _ _ => ?_))
  | succ d9 ih =>
    intros
    (simp only [g_60, G_60, ih, dk_292, ud_292, dk_320, ud_320, bnd_d, bnd2_d, bndF_eq, bnd2F_eq, dec_bnd, d2_bnd, dP_bnd, dec_bnd2, d2_bnd2, dP_bnd2, dec_ite, d2_ite, dP_ite, d2_mk, dP_mk, qk, t_14, t_16]) <;> (repeat' first | with_reducible rfl | refine ite_t9 ?_ ?_ ?_ | refine bnd_c9 (fun _ => ?_) | refine bnd2_c9 (fun _ _ => ?_))
noncomputable def F_60 (n : Nat) (x0 : Int32) (l : Nat) : PN := (if isCl n x0 then (if ¬ (F_13 x0.toNatClampNeg l) = 0 then G_60 n x0.toNatClampNeg x0 (F_16 x0.toNatClampNeg ((R l (ad 0 20 292 0))) l) n 0 0 l else (.inl (-1 : Int32), l)) else (.inr 0, l))
theorem t_60 (n : Nat) (x0 : Int32) (m9 : Nat) : f_60 n x0 (dec m9) = dP (F_60 n x0 m9) := by
  unfold f_60 F_60
  (simp only [dk_292, ud_292, bnd_d, bnd2_d, bndF_eq, bnd2F_eq, dec_bnd, d2_bnd, dP_bnd, dec_bnd2, d2_bnd2, dP_bnd2, dec_ite, d2_ite, dP_ite, d2_mk, dP_mk, qk, t_13, t_16, tg_60]) <;> (repeat' first | with_reducible rfl | refine ite_t9 ?_ ?_ ?_ | refine bnd_c9 (fun _ => ?_) | refine bnd2_c9 (fun _ _ => ?_))
noncomputable def F_61 (n : Nat) (x0 : Int32) (l : Nat) : PN := (if isCl n x0 then (bnd2F (F_7 x0 ((R l (ad 0 20 292 0))) l) fun v3 l3 => (.inl v3, l3)) else (.inr 0, l))
theorem t_61 (n : Nat) (x0 : Int32) (m9 : Nat) : f_61 n x0 (dec m9) = dP (F_61 n x0 m9) := by
  unfold f_61 F_61
  (simp only [dk_292, ud_292, bnd_d, bnd2_d, bndF_eq, bnd2F_eq, dec_bnd, d2_bnd, dP_bnd, dec_bnd2, d2_bnd2, dP_bnd2, dec_ite, d2_ite, dP_ite, d2_mk, dP_mk, qk, t_7]) <;> (repeat' first | with_reducible rfl | refine ite_t9 ?_ ?_ ?_ | refine bnd_c9 (fun _ => ?_) | refine bnd2_c9 (fun _ _ => ?_))
noncomputable def F_62 (n : Nat) (x0 : Int32) (l : Nat) : PN := (if (0 : Int32) ≤ x0 ∧ x0 ≤ (5 : Int32) then (.inl (F_102 n x0 l), l) else (.inr 1, l))
theorem t_62 (n : Nat) (x0 : Int32) (m9 : Nat) : f_62 n x0 (dec m9) = dP (F_62 n x0 m9) := by
  unfold f_62 F_62
  (simp only [bnd_d, bnd2_d, bndF_eq, bnd2F_eq, dec_bnd, d2_bnd, dP_bnd, dec_bnd2, d2_bnd2, dP_bnd2, dec_ite, d2_ite, dP_ite, d2_mk, dP_mk, qk, t_102]) <;> (repeat' first | with_reducible rfl | refine ite_t9 ?_ ?_ ?_ | refine bnd_c9 (fun _ => ?_) | refine bnd2_c9 (fun _ _ => ?_))
noncomputable def F_63 (n : Nat) (x0 : Int32) (l : Nat) : PN := (if isA x0 then (.inl ((R l (ad 2038 6 326 x0.toNatClampNeg))), l) else (.inr 0, l))
theorem t_63 (n : Nat) (x0 : Int32) (m9 : Nat) : f_63 n x0 (dec m9) = dP (F_63 n x0 m9) := by
  unfold f_63 F_63
  (simp only [dk_326, ud_326, bnd_d, bnd2_d, bndF_eq, bnd2F_eq, dec_bnd, d2_bnd, dP_bnd, dec_bnd2, d2_bnd2, dP_bnd2, dec_ite, d2_ite, dP_ite, d2_mk, dP_mk, qk]) <;> (repeat' first | with_reducible rfl | refine ite_t9 ?_ ?_ ?_ | refine bnd_c9 (fun _ => ?_) | refine bnd2_c9 (fun _ _ => ?_))
noncomputable def F_64 (n : Nat) (x0 : Int32) (l : Nat) : PN := (if isA x0 then (.inl ((R l (ad 2068 6 331 x0.toNatClampNeg))), l) else (.inr 0, l))
theorem t_64 (n : Nat) (x0 : Int32) (m9 : Nat) : f_64 n x0 (dec m9) = dP (F_64 n x0 m9) := by
  unfold f_64 F_64
  (simp only [dk_331, ud_331, bnd_d, bnd2_d, bndF_eq, bnd2F_eq, dec_bnd, d2_bnd, dP_bnd, dec_bnd2, d2_bnd2, dP_bnd2, dec_ite, d2_ite, dP_ite, d2_mk, dP_mk, qk]) <;> (repeat' first | with_reducible rfl | refine ite_t9 ?_ ?_ ?_ | refine bnd_c9 (fun _ => ?_) | refine bnd2_c9 (fun _ _ => ?_))
noncomputable def F_66 (n : Nat) (x0 : Int32) (l : Nat) : PN := (if isN x0 then (.inl ((R l (ad 928 30 310 x0.toNatClampNeg))), l) else (.inr 0, l))
theorem t_66 (n : Nat) (x0 : Int32) (m9 : Nat) : f_66 n x0 (dec m9) = dP (F_66 n x0 m9) := by
  unfold f_66 F_66
  (simp only [dk_310, ud_310, bnd_d, bnd2_d, bndF_eq, bnd2F_eq, dec_bnd, d2_bnd, dP_bnd, dec_bnd2, d2_bnd2, dP_bnd2, dec_ite, d2_ite, dP_ite, d2_mk, dP_mk, qk]) <;> (repeat' first | with_reducible rfl | refine ite_t9 ?_ ?_ ?_ | refine bnd_c9 (fun _ => ?_) | refine bnd2_c9 (fun _ _ => ?_))
noncomputable def F_65 (n : Nat) (x0 : Int32) (x1 : Int32) (l : Nat) : PN := (if isN x0 then (if isT x1 then (.inl ((R l (ad 2675 930 309 (31 * x0.toNatClampNeg + (if (x1 + (1 : Int32)).toNatClampNeg = 0 then 30 else (x1 + (1 : Int32)).toNatClampNeg - 1))))), l) else (.inr 0, l)) else (.inr 0, l))
theorem t_65 (n : Nat) (x0 : Int32) (x1 : Int32) (m9 : Nat) : f_65 n x0 x1 (dec m9) = dP (F_65 n x0 x1 m9) := by
  unfold f_65 F_65
  (simp only [dk_309, ud_309, bnd_d, bnd2_d, bndF_eq, bnd2F_eq, dec_bnd, d2_bnd, dP_bnd, dec_bnd2, d2_bnd2, dP_bnd2, dec_ite, d2_ite, dP_ite, d2_mk, dP_mk, qk]) <;> (repeat' first | with_reducible rfl | refine ite_t9 ?_ ?_ ?_ | refine bnd_c9 (fun _ => ?_) | refine bnd2_c9 (fun _ _ => ?_))
