/-! ===== the runs, by evaluation ===== -/
noncomputable def evOK (o : Option (Nat × Nat × Nat)) : Bool := match o with
  | some _ => true
  | none => false
theorem ev_test : evOK (lr T_187 2 11 242 112 [] 300 8 [(0, .ref 0)] [] M0 (mMc 187 - 301) (mMs 187 - 8009)) = true := by decide +kernel
