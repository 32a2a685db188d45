/-! ===== the runs, by evaluation ===== -/
noncomputable def evG (o : Option (Nat × Nat × Nat)) (a b : Nat) : Bool := match o with
  | some q => Nat.ble a q.2.1 && Nat.ble b q.2.2
  | none => false
theorem ev_187 : evG (lr T_187 2 11 242 1191 [.int 1] 8000 8 [(0, .ref 0)] [] M0 (mMc 187 - 301) (mMs 187 - 8009)) 0 0 = true := by decide +kernel
theorem ev_188a : evG (lr T_188 4 11 242 307 [] 3000 8 [(0, .ref 0)] [] M0 (mMc 188 - 301) (mMs 188 - 8009)) 4800 41000 = true := by decide +kernel
theorem ev_188b : evG (lr T_188 4 11 242 477 [] 3000 315 [(1, .ref 0)] [] M0 (4800 - 301) (41000 - 8009)) 4150 31000 = true := by decide +kernel
theorem ev_189 : evG (lr T_189 2 11 242 1418 [.int 1] 8000 8 [(0, .ref 0)] [] M0 (mMc 189 - 301) (mMs 189 - 8009)) 0 0 = true := by decide +kernel
theorem ev_190 : evG (lr T_190 2 11 242 686 [.int 1] 8000 8 [(0, .ref 0)] [] M0 (mMc 190 - 301) (mMs 190 - 8009)) 0 0 = true := by decide +kernel
theorem ev_188c : evG (lr T_188 4 11 242 914 [.int 1] 12000 485 [(2, .ref 0)] [] M0 (4150 - 301) (31000 - 8009)) 0 0 = true := by decide +kernel
