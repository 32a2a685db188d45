/-! ===== what is refused whatever the memory holds ===== -/
noncomputable def v_31 (n : Nat) (x0 : Int32) (x1 : Int32) (x2 : Int32) : Option Nat := (if isN x0 then (if isT x2 then (if (1 : Int32) ≤ x1 ∧ x1 ≤ (60 : Int32) then none else some 1) else some 0) else some 0)
theorem vf_31 {n : Nat} {x0 : Int32} {x1 : Int32} {x2 : Int32} {l : Sg} {x : Nat} (h : v_31 n x0 x1 x2 = some x) : f_31 n x0 x1 x2 l = (.inr x, l) := by
  unfold v_31 at h
  unfold f_31
  by_cases h0 : isN x0
  rotate_left
  · rw [if_neg h0] at h ⊢
    cases h
    rfl
  rw [if_pos h0] at h ⊢
  by_cases h1 : isT x2
  rotate_left
  · rw [if_neg h1] at h ⊢
    cases h
    rfl
  rw [if_pos h1] at h ⊢
  by_cases h2 : (1 : Int32) ≤ x1 ∧ x1 ≤ (60 : Int32)
  rotate_left
  · rw [if_neg h2] at h ⊢
    cases h
    rfl
  rw [if_pos h2] at h ⊢
  cases h
noncomputable def v_32 (n : Nat) (x0 : Int32) : Option Nat := (if isN x0 then none else some 0)
theorem vf_32 {n : Nat} {x0 : Int32} {l : Sg} {x : Nat} (h : v_32 n x0 = some x) : f_32 n x0 l = (.inr x, l) := by
  unfold v_32 at h
  unfold f_32
  by_cases h0 : isN x0
  rotate_left
  · rw [if_neg h0] at h ⊢
    cases h
    rfl
  rw [if_pos h0] at h ⊢
  cases h
noncomputable def v_33 (n : Nat) (x0 : Int32) (x1 : Int32) (x2 : Int32) : Option Nat := (if isN x0 then (if isT x2 then (if (10 ≤ x1 ∧ x1 ≤ 19) ∨ ((100 ≤ x1 ∧ x1 ≤ 199) ∨ (1000 ≤ x1 ∧ x1 ≤ 1999)) then none else some 1) else some 0) else some 0)
theorem vf_33 {n : Nat} {x0 : Int32} {x1 : Int32} {x2 : Int32} {l : Sg} {x : Nat} (h : v_33 n x0 x1 x2 = some x) : f_33 n x0 x1 x2 l = (.inr x, l) := by
  unfold v_33 at h
  unfold f_33
  by_cases h0 : isN x0
  rotate_left
  · rw [if_neg h0] at h ⊢
    cases h
    rfl
  rw [if_pos h0] at h ⊢
  by_cases h1 : isT x2
  rotate_left
  · rw [if_neg h1] at h ⊢
    cases h
    rfl
  rw [if_pos h1] at h ⊢
  by_cases h2 : (10 ≤ x1 ∧ x1 ≤ 19) ∨ ((100 ≤ x1 ∧ x1 ≤ 199) ∨ (1000 ≤ x1 ∧ x1 ≤ 1999))
  rotate_left
  · rw [if_neg h2] at h ⊢
    cases h
    rfl
  rw [if_pos h2] at h ⊢
  cases h
noncomputable def v_34 (n : Nat) (x0 : Int32) (x1 : Int32) (x2 : Int32) (x3 : Int32) : Option Nat := (if isN x0 then (if isT x3 then (if (1 : Int32) ≤ x1 ∧ x1 ≤ (6 : Int32) then (if x1 ≤ x2 ∧ x2 ≤ (6 : Int32) then none else some 1) else some 1) else some 0) else some 0)
theorem vf_34 {n : Nat} {x0 : Int32} {x1 : Int32} {x2 : Int32} {x3 : Int32} {l : Sg} {x : Nat} (h : v_34 n x0 x1 x2 x3 = some x) : f_34 n x0 x1 x2 x3 l = (.inr x, l) := by
  unfold v_34 at h
  unfold f_34
  by_cases h0 : isN x0
  rotate_left
  · rw [if_neg h0] at h ⊢
    cases h
    rfl
  rw [if_pos h0] at h ⊢
  by_cases h1 : isT x3
  rotate_left
  · rw [if_neg h1] at h ⊢
    cases h
    rfl
  rw [if_pos h1] at h ⊢
  by_cases h2 : (1 : Int32) ≤ x1 ∧ x1 ≤ (6 : Int32)
  rotate_left
  · rw [if_neg h2] at h ⊢
    cases h
    rfl
  rw [if_pos h2] at h ⊢
  by_cases h3 : x1 ≤ x2 ∧ x2 ≤ (6 : Int32)
  rotate_left
  · rw [if_neg h3] at h ⊢
    cases h
    rfl
  rw [if_pos h3] at h ⊢
  cases h
noncomputable def v_35 (n : Nat) (x0 : Int32) (x1 : Int32) (x2 : Int32) (x3 : Int32) (x4 : Int32) : Option Nat := (if isN x0 then (if isT x4 then (if (1 : Int32) ≤ x1 ∧ x1 ≤ (60 : Int32) then (if (1 : Int32) ≤ x2 ∧ x2 ≤ (20 : Int32) then (if (1 : Int32) ≤ x3 ∧ x3 ≤ (5 : Int32) then none else some 1) else some 1) else some 1) else some 0) else some 0)
theorem vf_35 {n : Nat} {x0 : Int32} {x1 : Int32} {x2 : Int32} {x3 : Int32} {x4 : Int32} {l : Sg} {x : Nat} (h : v_35 n x0 x1 x2 x3 x4 = some x) : f_35 n x0 x1 x2 x3 x4 l = (.inr x, l) := by
  unfold v_35 at h
  unfold f_35
  by_cases h0 : isN x0
  rotate_left
  · rw [if_neg h0] at h ⊢
    cases h
    rfl
  rw [if_pos h0] at h ⊢
  by_cases h1 : isT x4
  rotate_left
  · rw [if_neg h1] at h ⊢
    cases h
    rfl
  rw [if_pos h1] at h ⊢
  by_cases h2 : (1 : Int32) ≤ x1 ∧ x1 ≤ (60 : Int32)
  rotate_left
  · rw [if_neg h2] at h ⊢
    cases h
    rfl
  rw [if_pos h2] at h ⊢
  by_cases h3 : (1 : Int32) ≤ x2 ∧ x2 ≤ (20 : Int32)
  rotate_left
  · rw [if_neg h3] at h ⊢
    cases h
    rfl
  rw [if_pos h3] at h ⊢
  by_cases h4 : (1 : Int32) ≤ x3 ∧ x3 ≤ (5 : Int32)
  rotate_left
  · rw [if_neg h4] at h ⊢
    cases h
    rfl
  rw [if_pos h4] at h ⊢
  cases h
noncomputable def v_36 (n : Nat) (x0 : Int32) (x1 : Int32) (x2 : Int32) (x3 : Int32) (x4 : Int32) (x5 : Int32) : Option Nat := (if isN x0 then (if isT x4 then (if isT x5 then (if (0 : Int32) ≤ x1 ∧ x1 ≤ (4 : Int32) then (if (0 : Int32) ≤ x2 ∧ x2 ≤ (f_79 x1) then (if (0 : Int32) ≤ x3 ∧ x3 ≤ (60 : Int32) then none else some 1) else some 1) else some 1) else some 0) else some 0) else some 0)
theorem vf_36 {n : Nat} {x0 : Int32} {x1 : Int32} {x2 : Int32} {x3 : Int32} {x4 : Int32} {x5 : Int32} {l : Sg} {x : Nat} (h : v_36 n x0 x1 x2 x3 x4 x5 = some x) : f_36 n x0 x1 x2 x3 x4 x5 l = (.inr x, l) := by
  unfold v_36 at h
  unfold f_36
  by_cases h0 : isN x0
  rotate_left
  · rw [if_neg h0] at h ⊢
    cases h
    rfl
  rw [if_pos h0] at h ⊢
  by_cases h1 : isT x4
  rotate_left
  · rw [if_neg h1] at h ⊢
    cases h
    rfl
  rw [if_pos h1] at h ⊢
  by_cases h2 : isT x5
  rotate_left
  · rw [if_neg h2] at h ⊢
    cases h
    rfl
  rw [if_pos h2] at h ⊢
  by_cases h3 : (0 : Int32) ≤ x1 ∧ x1 ≤ (4 : Int32)
  rotate_left
  · rw [if_neg h3] at h ⊢
    cases h
    rfl
  rw [if_pos h3] at h ⊢
  by_cases h4 : (0 : Int32) ≤ x2 ∧ x2 ≤ (f_79 x1)
  rotate_left
  · rw [if_neg h4] at h ⊢
    cases h
    rfl
  rw [if_pos h4] at h ⊢
  by_cases h5 : (0 : Int32) ≤ x3 ∧ x3 ≤ (60 : Int32)
  rotate_left
  · rw [if_neg h5] at h ⊢
    cases h
    rfl
  rw [if_pos h5] at h ⊢
  cases h
noncomputable def v_37 (n : Nat) (x0 : Int32) (x1 : Int32) (x2 : Int32) : Option Nat := (if isN x0 then (if isT x1 then (if isT x2 then none else some 0) else some 0) else some 0)
theorem vf_37 {n : Nat} {x0 : Int32} {x1 : Int32} {x2 : Int32} {l : Sg} {x : Nat} (h : v_37 n x0 x1 x2 = some x) : f_37 n x0 x1 x2 l = (.inr x, l) := by
  unfold v_37 at h
  unfold f_37
  by_cases h0 : isN x0
  rotate_left
  · rw [if_neg h0] at h ⊢
    cases h
    rfl
  rw [if_pos h0] at h ⊢
  by_cases h1 : isT x1
  rotate_left
  · rw [if_neg h1] at h ⊢
    cases h
    rfl
  rw [if_pos h1] at h ⊢
  by_cases h2 : isT x2
  rotate_left
  · rw [if_neg h2] at h ⊢
    cases h
    rfl
  rw [if_pos h2] at h ⊢
  cases h
noncomputable def v_38 (n : Nat) (x0 : Int32) : Option Nat := (if isN x0 then none else some 0)
theorem vf_38 {n : Nat} {x0 : Int32} {l : Sg} {x : Nat} (h : v_38 n x0 = some x) : f_38 n x0 l = (.inr x, l) := by
  unfold v_38 at h
  unfold f_38
  by_cases h0 : isN x0
  rotate_left
  · rw [if_neg h0] at h ⊢
    cases h
    rfl
  rw [if_pos h0] at h ⊢
  cases h
noncomputable def v_39 (n : Nat) (x0 : Int32) (x1 : Int32) (x2 : Int32) (x3 : Int32) (x4 : Int32) (x5 : Int32) : Option Nat := (if isN x0 then (if isT x5 then (if (0 : Int32) ≤ x1 ∧ x1 ≤ (5 : Int32) then (if (0 : Int32) ≤ x2 ∧ x2 ≤ (9 : Int32) then (if (1 : Int32) ≤ x3 ∧ x3 ≤ (500 : Int32) then (if (1 : Int32) ≤ x4 ∧ x4 ≤ (30 : Int32) then none else some 1) else some 1) else some 1) else some 1) else some 0) else some 0)
theorem vf_39 {n : Nat} {x0 : Int32} {x1 : Int32} {x2 : Int32} {x3 : Int32} {x4 : Int32} {x5 : Int32} {l : Sg} {x : Nat} (h : v_39 n x0 x1 x2 x3 x4 x5 = some x) : f_39 n x0 x1 x2 x3 x4 x5 l = (.inr x, l) := by
  unfold v_39 at h
  unfold f_39
  by_cases h0 : isN x0
  rotate_left
  · rw [if_neg h0] at h ⊢
    cases h
    rfl
  rw [if_pos h0] at h ⊢
  by_cases h1 : isT x5
  rotate_left
  · rw [if_neg h1] at h ⊢
    cases h
    rfl
  rw [if_pos h1] at h ⊢
  by_cases h2 : (0 : Int32) ≤ x1 ∧ x1 ≤ (5 : Int32)
  rotate_left
  · rw [if_neg h2] at h ⊢
    cases h
    rfl
  rw [if_pos h2] at h ⊢
  by_cases h3 : (0 : Int32) ≤ x2 ∧ x2 ≤ (9 : Int32)
  rotate_left
  · rw [if_neg h3] at h ⊢
    cases h
    rfl
  rw [if_pos h3] at h ⊢
  by_cases h4 : (1 : Int32) ≤ x3 ∧ x3 ≤ (500 : Int32)
  rotate_left
  · rw [if_neg h4] at h ⊢
    cases h
    rfl
  rw [if_pos h4] at h ⊢
  by_cases h5 : (1 : Int32) ≤ x4 ∧ x4 ≤ (30 : Int32)
  rotate_left
  · rw [if_neg h5] at h ⊢
    cases h
    rfl
  rw [if_pos h5] at h ⊢
  cases h
noncomputable def v_40 (n : Nat) (x0 : Int32) (x1 : Int32) : Option Nat := (if isN x0 then (if isT x1 then none else some 0) else some 0)
theorem vf_40 {n : Nat} {x0 : Int32} {x1 : Int32} {l : Sg} {x : Nat} (h : v_40 n x0 x1 = some x) : f_40 n x0 x1 l = (.inr x, l) := by
  unfold v_40 at h
  unfold f_40
  by_cases h0 : isN x0
  rotate_left
  · rw [if_neg h0] at h ⊢
    cases h
    rfl
  rw [if_pos h0] at h ⊢
  by_cases h1 : isT x1
  rotate_left
  · rw [if_neg h1] at h ⊢
    cases h
    rfl
  rw [if_pos h1] at h ⊢
  cases h
noncomputable def v_41 (n : Nat) (x0 : Int32) : Option Nat := (if isN x0 then none else some 0)
theorem vf_41 {n : Nat} {x0 : Int32} {l : Sg} {x : Nat} (h : v_41 n x0 = some x) : f_41 n x0 l = (.inr x, l) := by
  unfold v_41 at h
  unfold f_41
  by_cases h0 : isN x0
  rotate_left
  · rw [if_neg h0] at h ⊢
    cases h
    rfl
  rw [if_pos h0] at h ⊢
  cases h
noncomputable def v_42 (n : Nat) (x0 : Int32) (x1 : Int32) (x2 : Int32) : Option Nat := (if (0 : Int32) ≤ x0 ∧ x0 ≤ (6 : Int32) then (if (0 : Int32) ≤ x1 ∧ x1 ≤ (240 : Int32) then (if x1 ≤ x2 ∧ x2 ≤ (240 : Int32) then none else some 1) else some 1) else some 1)
theorem vf_42 {n : Nat} {x0 : Int32} {x1 : Int32} {x2 : Int32} {l : Sg} {x : Nat} (h : v_42 n x0 x1 x2 = some x) : f_42 n x0 x1 x2 l = (.inr x, l) := by
  unfold v_42 at h
  unfold f_42
  by_cases h0 : (0 : Int32) ≤ x0 ∧ x0 ≤ (6 : Int32)
  rotate_left
  · rw [if_neg h0] at h ⊢
    cases h
    rfl
  rw [if_pos h0] at h ⊢
  by_cases h1 : (0 : Int32) ≤ x1 ∧ x1 ≤ (240 : Int32)
  rotate_left
  · rw [if_neg h1] at h ⊢
    cases h
    rfl
  rw [if_pos h1] at h ⊢
  by_cases h2 : x1 ≤ x2 ∧ x2 ≤ (240 : Int32)
  rotate_left
  · rw [if_neg h2] at h ⊢
    cases h
    rfl
  rw [if_pos h2] at h ⊢
  cases h
noncomputable def v_43 (n : Nat) (x0 : Int32) (x1 : Int32) : Option Nat := (if (0 : Int32) ≤ x0 ∧ x0 ≤ (83 : Int32) then none else some 1)
theorem vf_43 {n : Nat} {x0 : Int32} {x1 : Int32} {l : Sg} {x : Nat} (h : v_43 n x0 x1 = some x) : f_43 n x0 x1 l = (.inr x, l) := by
  unfold v_43 at h
  unfold f_43
  by_cases h0 : (0 : Int32) ≤ x0 ∧ x0 ≤ (83 : Int32)
  rotate_left
  · rw [if_neg h0] at h ⊢
    cases h
    rfl
  rw [if_pos h0] at h ⊢
  cases h
noncomputable def v_45 (n : Nat) (x0 : Int32) : Option Nat := (if isN x0 then (if n < 60 then none else some 2) else some 0)
theorem vf_45 {n : Nat} {x0 : Int32} {l : Sg} {x : Nat} (h : v_45 n x0 = some x) : f_45 n x0 l = (.inr x, l) := by
  unfold v_45 at h
  unfold f_45
  by_cases h0 : isN x0
  rotate_left
  · rw [if_neg h0] at h ⊢
    cases h
    rfl
  rw [if_pos h0] at h ⊢
  by_cases h1 : n < 60
  rotate_left
  · rw [if_neg h1] at h ⊢
    cases h
    rfl
  rw [if_pos h1] at h ⊢
  cases h
noncomputable def v_46 (n : Nat) (x0 : Int32) (x1 : Int32) : Option Nat := (if isCl n x0 then (if (0 : Int32) ≤ x1 ∧ x1 ≤ (11 : Int32) then none else some 1) else some 0)
theorem vf_46 {n : Nat} {x0 : Int32} {x1 : Int32} {l : Sg} {x : Nat} (h : v_46 n x0 x1 = some x) : f_46 n x0 x1 l = (.inr x, l) := by
  unfold v_46 at h
  unfold f_46
  by_cases h0 : isCl n x0
  rotate_left
  · rw [if_neg h0] at h ⊢
    cases h
    rfl
  rw [if_pos h0] at h ⊢
  by_cases h1 : (0 : Int32) ≤ x1 ∧ x1 ≤ (11 : Int32)
  rotate_left
  · rw [if_neg h1] at h ⊢
    cases h
    rfl
  rw [if_pos h1] at h ⊢
  cases h
noncomputable def v_47 (n : Nat) (x0 : Int32) : Option Nat := (if isCl n x0 then none else some 0)
theorem vf_47 {n : Nat} {x0 : Int32} {l : Sg} {x : Nat} (h : v_47 n x0 = some x) : f_47 n x0 l = (.inr x, l) := by
  unfold v_47 at h
  unfold f_47
  by_cases h0 : isCl n x0
  rotate_left
  · rw [if_neg h0] at h ⊢
    cases h
    rfl
  rw [if_pos h0] at h ⊢
  cases h
noncomputable def v_48 (n : Nat) (x0 : Int32) : Option Nat := (if isCl n x0 then none else some 0)
theorem vf_48 {n : Nat} {x0 : Int32} {l : Sg} {x : Nat} (h : v_48 n x0 = some x) : f_48 n x0 l = (.inr x, l) := by
  unfold v_48 at h
  unfold f_48
  by_cases h0 : isCl n x0
  rotate_left
  · rw [if_neg h0] at h ⊢
    cases h
    rfl
  rw [if_pos h0] at h ⊢
  cases h
noncomputable def v_49 (n : Nat) (x0 : Int32) (x1 : Int32) : Option Nat := (if isA x0 then (if (1 : Int32) ≤ x1 ∧ x1 ≤ (63 : Int32) then none else some 1) else some 0)
theorem vf_49 {n : Nat} {x0 : Int32} {x1 : Int32} {l : Sg} {x : Nat} (h : v_49 n x0 x1 = some x) : f_49 n x0 x1 l = (.inr x, l) := by
  unfold v_49 at h
  unfold f_49
  by_cases h0 : isA x0
  rotate_left
  · rw [if_neg h0] at h ⊢
    cases h
    rfl
  rw [if_pos h0] at h ⊢
  by_cases h1 : (1 : Int32) ≤ x1 ∧ x1 ≤ (63 : Int32)
  rotate_left
  · rw [if_neg h1] at h ⊢
    cases h
    rfl
  rw [if_pos h1] at h ⊢
  cases h
noncomputable def v_50 (n : Nat) (x0 : Int32) : Option Nat := (if isA x0 then none else some 0)
theorem vf_50 {n : Nat} {x0 : Int32} {l : Sg} {x : Nat} (h : v_50 n x0 = some x) : f_50 n x0 l = (.inr x, l) := by
  unfold v_50 at h
  unfold f_50
  by_cases h0 : isA x0
  rotate_left
  · rw [if_neg h0] at h ⊢
    cases h
    rfl
  rw [if_pos h0] at h ⊢
  cases h
noncomputable def v_51 (n : Nat) (x0 : Int32) (x1 : Int32) : Option Nat := (if isA x0 then (if (0 : Int32) ≤ x1 ∧ x1 ≤ (30 : Int32) then none else some 1) else some 0)
theorem vf_51 {n : Nat} {x0 : Int32} {x1 : Int32} {l : Sg} {x : Nat} (h : v_51 n x0 x1 = some x) : f_51 n x0 x1 l = (.inr x, l) := by
  unfold v_51 at h
  unfold f_51
  by_cases h0 : isA x0
  rotate_left
  · rw [if_neg h0] at h ⊢
    cases h
    rfl
  rw [if_pos h0] at h ⊢
  by_cases h1 : (0 : Int32) ≤ x1 ∧ x1 ≤ (30 : Int32)
  rotate_left
  · rw [if_neg h1] at h ⊢
    cases h
    rfl
  rw [if_pos h1] at h ⊢
  cases h
noncomputable def v_52 (n : Nat) (x0 : Int32) : Option Nat := (if isA x0 then none else some 0)
theorem vf_52 {n : Nat} {x0 : Int32} {l : Sg} {x : Nat} (h : v_52 n x0 = some x) : f_52 n x0 l = (.inr x, l) := by
  unfold v_52 at h
  unfold f_52
  by_cases h0 : isA x0
  rotate_left
  · rw [if_neg h0] at h ⊢
    cases h
    rfl
  rw [if_pos h0] at h ⊢
  cases h
noncomputable def v_53 (n : Nat) (x0 : Int32) (x1 : Int32) : Option Nat := (if isA x0 then (if isN x1 then none else some 0) else some 0)
theorem vf_53 {n : Nat} {x0 : Int32} {x1 : Int32} {l : Sg} {x : Nat} (h : v_53 n x0 x1 = some x) : f_53 n x0 x1 l = (.inr x, l) := by
  unfold v_53 at h
  unfold f_53
  by_cases h0 : isA x0
  rotate_left
  · rw [if_neg h0] at h ⊢
    cases h
    rfl
  rw [if_pos h0] at h ⊢
  by_cases h1 : isN x1
  rotate_left
  · rw [if_neg h1] at h ⊢
    cases h
    rfl
  rw [if_pos h1] at h ⊢
  cases h
noncomputable def v_54 (n : Nat) (x0 : Int32) : Option Nat := (if (1 : Int32) ≤ x0 ∧ x0 ≤ (100 : Int32) then none else some 1)
theorem vf_54 {n : Nat} {x0 : Int32} {l : Sg} {x : Nat} (h : v_54 n x0 = some x) : f_54 n x0 l = (.inr x, l) := by
  unfold v_54 at h
  unfold f_54
  by_cases h0 : (1 : Int32) ≤ x0 ∧ x0 ≤ (100 : Int32)
  rotate_left
  · rw [if_neg h0] at h ⊢
    cases h
    rfl
  rw [if_pos h0] at h ⊢
  cases h
noncomputable def v_56 (n : Nat) (x0 : Int32) : Option Nat := (if isCl n x0 then none else some 0)
theorem vf_56 {n : Nat} {x0 : Int32} {l : Sg} {x : Nat} (h : v_56 n x0 = some x) : f_56 n x0 l = (.inr x, l) := by
  unfold v_56 at h
  unfold f_56
  by_cases h0 : isCl n x0
  rotate_left
  · rw [if_neg h0] at h ⊢
    cases h
    rfl
  rw [if_pos h0] at h ⊢
  cases h
noncomputable def v_57 (n : Nat) (x0 : Int32) : Option Nat := (if isCl n x0 then none else some 0)
theorem vf_57 {n : Nat} {x0 : Int32} {l : Sg} {x : Nat} (h : v_57 n x0 = some x) : f_57 n x0 l = (.inr x, l) := by
  unfold v_57 at h
  unfold f_57
  by_cases h0 : isCl n x0
  rotate_left
  · rw [if_neg h0] at h ⊢
    cases h
    rfl
  rw [if_pos h0] at h ⊢
  cases h
noncomputable def v_58 (n : Nat) (x0 : Int32) : Option Nat := (if isCl n x0 then none else some 0)
theorem vf_58 {n : Nat} {x0 : Int32} {l : Sg} {x : Nat} (h : v_58 n x0 = some x) : f_58 n x0 l = (.inr x, l) := by
  unfold v_58 at h
  unfold f_58
  by_cases h0 : isCl n x0
  rotate_left
  · rw [if_neg h0] at h ⊢
    cases h
    rfl
  rw [if_pos h0] at h ⊢
  cases h
noncomputable def v_59 (n : Nat) (x0 : Int32) : Option Nat := (if isCl n x0 then none else some 0)
theorem vf_59 {n : Nat} {x0 : Int32} {l : Sg} {x : Nat} (h : v_59 n x0 = some x) : f_59 n x0 l = (.inr x, l) := by
  unfold v_59 at h
  unfold f_59
  by_cases h0 : isCl n x0
  rotate_left
  · rw [if_neg h0] at h ⊢
    cases h
    rfl
  rw [if_pos h0] at h ⊢
  cases h
noncomputable def v_60 (n : Nat) (x0 : Int32) : Option Nat := (if isCl n x0 then none else some 0)
theorem vf_60 {n : Nat} {x0 : Int32} {l : Sg} {x : Nat} (h : v_60 n x0 = some x) : f_60 n x0 l = (.inr x, l) := by
  unfold v_60 at h
  unfold f_60
  by_cases h0 : isCl n x0
  rotate_left
  · rw [if_neg h0] at h ⊢
    cases h
    rfl
  rw [if_pos h0] at h ⊢
  cases h
noncomputable def v_61 (n : Nat) (x0 : Int32) : Option Nat := (if isCl n x0 then none else some 0)
theorem vf_61 {n : Nat} {x0 : Int32} {l : Sg} {x : Nat} (h : v_61 n x0 = some x) : f_61 n x0 l = (.inr x, l) := by
  unfold v_61 at h
  unfold f_61
  by_cases h0 : isCl n x0
  rotate_left
  · rw [if_neg h0] at h ⊢
    cases h
    rfl
  rw [if_pos h0] at h ⊢
  cases h
noncomputable def v_62 (n : Nat) (x0 : Int32) : Option Nat := (if (0 : Int32) ≤ x0 ∧ x0 ≤ (5 : Int32) then none else some 1)
theorem vf_62 {n : Nat} {x0 : Int32} {l : Sg} {x : Nat} (h : v_62 n x0 = some x) : f_62 n x0 l = (.inr x, l) := by
  unfold v_62 at h
  unfold f_62
  by_cases h0 : (0 : Int32) ≤ x0 ∧ x0 ≤ (5 : Int32)
  rotate_left
  · rw [if_neg h0] at h ⊢
    cases h
    rfl
  rw [if_pos h0] at h ⊢
  cases h
noncomputable def v_63 (n : Nat) (x0 : Int32) : Option Nat := (if isA x0 then none else some 0)
theorem vf_63 {n : Nat} {x0 : Int32} {l : Sg} {x : Nat} (h : v_63 n x0 = some x) : f_63 n x0 l = (.inr x, l) := by
  unfold v_63 at h
  unfold f_63
  by_cases h0 : isA x0
  rotate_left
  · rw [if_neg h0] at h ⊢
    cases h
    rfl
  rw [if_pos h0] at h ⊢
  cases h
noncomputable def v_64 (n : Nat) (x0 : Int32) : Option Nat := (if isA x0 then none else some 0)
theorem vf_64 {n : Nat} {x0 : Int32} {l : Sg} {x : Nat} (h : v_64 n x0 = some x) : f_64 n x0 l = (.inr x, l) := by
  unfold v_64 at h
  unfold f_64
  by_cases h0 : isA x0
  rotate_left
  · rw [if_neg h0] at h ⊢
    cases h
    rfl
  rw [if_pos h0] at h ⊢
  cases h
noncomputable def v_65 (n : Nat) (x0 : Int32) (x1 : Int32) : Option Nat := (if isN x0 then (if isT x1 then none else some 0) else some 0)
theorem vf_65 {n : Nat} {x0 : Int32} {x1 : Int32} {l : Sg} {x : Nat} (h : v_65 n x0 x1 = some x) : f_65 n x0 x1 l = (.inr x, l) := by
  unfold v_65 at h
  unfold f_65
  by_cases h0 : isN x0
  rotate_left
  · rw [if_neg h0] at h ⊢
    cases h
    rfl
  rw [if_pos h0] at h ⊢
  by_cases h1 : isT x1
  rotate_left
  · rw [if_neg h1] at h ⊢
    cases h
    rfl
  rw [if_pos h1] at h ⊢
  cases h
noncomputable def v_66 (n : Nat) (x0 : Int32) : Option Nat := (if isN x0 then none else some 0)
theorem vf_66 {n : Nat} {x0 : Int32} {l : Sg} {x : Nat} (h : v_66 n x0 = some x) : f_66 n x0 l = (.inr x, l) := by
  unfold v_66 at h
  unfold f_66
  by_cases h0 : isN x0
  rotate_left
  · rw [if_neg h0] at h ⊢
    cases h
    rfl
  rw [if_pos h0] at h ⊢
  cases h
noncomputable def vD (n : Nat) (w a b c d e f : Int32) : Option Nat := (if w = (0 : Int32) then v_31 n a b c else (if w = (1 : Int32) then v_32 n a else (if w = (2 : Int32) then v_34 n a b c d else (if w = (3 : Int32) then v_35 n a b c d e else (if w = (4 : Int32) then v_36 n a b c d e f else (if w = (5 : Int32) then v_37 n a b c else (if w = (6 : Int32) then v_38 n a else (if w = (7 : Int32) then v_39 n a b c d e f else (if w = (8 : Int32) then v_40 n a b else (if w = (9 : Int32) then v_41 n a else v_42 n a b c))))))))))
theorem vD_ok {n : Nat} {w a b c d e f : Int32} {l : Sg} {x : Nat} (h : vD n w a b c d e f = some x) : f_182 n w a b c d e f l = (.inr x, l) := by
  unfold vD at h
  unfold f_182
  by_cases h0 : w = (0 : Int32)
  · rw [if_pos h0] at h ⊢
    exact vf_31 h
  rw [if_neg h0] at h ⊢
  by_cases h1 : w = (1 : Int32)
  · rw [if_pos h1] at h ⊢
    exact vf_32 h
  rw [if_neg h1] at h ⊢
  by_cases h2 : w = (2 : Int32)
  · rw [if_pos h2] at h ⊢
    exact vf_34 h
  rw [if_neg h2] at h ⊢
  by_cases h3 : w = (3 : Int32)
  · rw [if_pos h3] at h ⊢
    exact vf_35 h
  rw [if_neg h3] at h ⊢
  by_cases h4 : w = (4 : Int32)
  · rw [if_pos h4] at h ⊢
    exact vf_36 h
  rw [if_neg h4] at h ⊢
  by_cases h5 : w = (5 : Int32)
  · rw [if_pos h5] at h ⊢
    exact vf_37 h
  rw [if_neg h5] at h ⊢
  by_cases h6 : w = (6 : Int32)
  · rw [if_pos h6] at h ⊢
    exact vf_38 h
  rw [if_neg h6] at h ⊢
  by_cases h7 : w = (7 : Int32)
  · rw [if_pos h7] at h ⊢
    exact vf_39 h
  rw [if_neg h7] at h ⊢
  by_cases h8 : w = (8 : Int32)
  · rw [if_pos h8] at h ⊢
    exact vf_40 h
  rw [if_neg h8] at h ⊢
  by_cases h9 : w = (9 : Int32)
  · rw [if_pos h9] at h ⊢
    exact vf_41 h
  rw [if_neg h9] at h ⊢
  exact vf_42 h
noncomputable def vC (n : Nat) (w a b c : Int32) : Option Nat := (if w = (0 : Int32) then v_33 n a b c else (if w = (1 : Int32) then v_43 n a (if b = 1 then 1 else 0) else (if w = (2 : Int32) then v_45 n a else (if w = (3 : Int32) then v_46 n a b else (if w = (4 : Int32) then v_47 n a else (if w = (5 : Int32) then v_48 n a else (if w = (6 : Int32) then v_49 n a b else (if w = (7 : Int32) then v_50 n a else (if w = (8 : Int32) then v_51 n a b else (if w = (9 : Int32) then v_52 n a else (if w = (10 : Int32) then v_53 n a b else (if w = (11 : Int32) then v_54 n a else (if w = (12 : Int32) then v_56 n a else (if w = (13 : Int32) then v_57 n a else (if w = (14 : Int32) then v_58 n a else (if w = (15 : Int32) then v_59 n a else (if w = (16 : Int32) then v_60 n a else (if w = (17 : Int32) then v_61 n a else (if w = (18 : Int32) then v_62 n a else (if w = (19 : Int32) then v_63 n a else (if w = (20 : Int32) then v_64 n a else (if w = (21 : Int32) then v_65 n a b else v_66 n a))))))))))))))))))))))
theorem vC_ok {n : Nat} {w a b c : Int32} {l : Sg} {x : Nat} (h : vC n w a b c = some x) : f_184 n w a b c l = (.inr x, l) := by
  unfold vC at h
  unfold f_184
  by_cases h0 : w = (0 : Int32)
  · rw [if_pos h0] at h ⊢
    exact vf_33 h
  rw [if_neg h0] at h ⊢
  by_cases h1 : w = (1 : Int32)
  · rw [if_pos h1] at h ⊢
    rw [vf_43 h]
    rfl
  rw [if_neg h1] at h ⊢
  by_cases h2 : w = (2 : Int32)
  · rw [if_pos h2] at h ⊢
    exact vf_45 h
  rw [if_neg h2] at h ⊢
  by_cases h3 : w = (3 : Int32)
  · rw [if_pos h3] at h ⊢
    exact vf_46 h
  rw [if_neg h3] at h ⊢
  by_cases h4 : w = (4 : Int32)
  · rw [if_pos h4] at h ⊢
    exact vf_47 h
  rw [if_neg h4] at h ⊢
  by_cases h5 : w = (5 : Int32)
  · rw [if_pos h5] at h ⊢
    exact vf_48 h
  rw [if_neg h5] at h ⊢
  by_cases h6 : w = (6 : Int32)
  · rw [if_pos h6] at h ⊢
    exact vf_49 h
  rw [if_neg h6] at h ⊢
  by_cases h7 : w = (7 : Int32)
  · rw [if_pos h7] at h ⊢
    exact vf_50 h
  rw [if_neg h7] at h ⊢
  by_cases h8 : w = (8 : Int32)
  · rw [if_pos h8] at h ⊢
    exact vf_51 h
  rw [if_neg h8] at h ⊢
  by_cases h9 : w = (9 : Int32)
  · rw [if_pos h9] at h ⊢
    exact vf_52 h
  rw [if_neg h9] at h ⊢
  by_cases h10 : w = (10 : Int32)
  · rw [if_pos h10] at h ⊢
    exact vf_53 h
  rw [if_neg h10] at h ⊢
  by_cases h11 : w = (11 : Int32)
  · rw [if_pos h11] at h ⊢
    exact vf_54 h
  rw [if_neg h11] at h ⊢
  by_cases h12 : w = (12 : Int32)
  · rw [if_pos h12] at h ⊢
    exact vf_56 h
  rw [if_neg h12] at h ⊢
  by_cases h13 : w = (13 : Int32)
  · rw [if_pos h13] at h ⊢
    exact vf_57 h
  rw [if_neg h13] at h ⊢
  by_cases h14 : w = (14 : Int32)
  · rw [if_pos h14] at h ⊢
    exact vf_58 h
  rw [if_neg h14] at h ⊢
  by_cases h15 : w = (15 : Int32)
  · rw [if_pos h15] at h ⊢
    exact vf_59 h
  rw [if_neg h15] at h ⊢
  by_cases h16 : w = (16 : Int32)
  · rw [if_pos h16] at h ⊢
    exact vf_60 h
  rw [if_neg h16] at h ⊢
  by_cases h17 : w = (17 : Int32)
  · rw [if_pos h17] at h ⊢
    exact vf_61 h
  rw [if_neg h17] at h ⊢
  by_cases h18 : w = (18 : Int32)
  · rw [if_pos h18] at h ⊢
    exact vf_62 h
  rw [if_neg h18] at h ⊢
  by_cases h19 : w = (19 : Int32)
  · rw [if_pos h19] at h ⊢
    exact vf_63 h
  rw [if_neg h19] at h ⊢
  by_cases h20 : w = (20 : Int32)
  · rw [if_pos h20] at h ⊢
    exact vf_64 h
  rw [if_neg h20] at h ⊢
  by_cases h21 : w = (21 : Int32)
  · rw [if_pos h21] at h ⊢
    exact vf_65 h
  rw [if_neg h21] at h ⊢
  exact vf_66 h
