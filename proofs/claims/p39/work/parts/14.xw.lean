/-! ===== the words of a throw, carried along ===== -/
def xwK : Jvm.Cond → Bool
  | .castable _ _ => true
  | .declares _ => true
  | w => w.onTables && w.keepsH
theorem xwK_move {args args' : Array Value} {s U : State} {w : Jvm.Cond} (hW : s.WarmedH U.vm) (hk : xwK w = true) (h : w.before args s = true) : w.before args' U = true := by
  have e : U.setVm U.vm = U := rfl
  have key : ∀ w : Jvm.Cond, w.onTables = true → w.keepsH = true → w.before args s = true → w.before args' U = true := fun w h1 h2 h3 => by
    have := Cond.onTables_warmH (args' := args') (T := U) hW h1 h2 h3
    rw [e] at this
    exact this
  unfold xwK at hk
  split at hk
  · rename_i a b
    have h1 := Cond.onTables_vm (A := args) (A' := args') (U := s) (U' := U) U.vm (.castable a b) rfl
    rw [e, Cond.castable_setVm hW.alike] at h1
    rw [← h1]; exact h
  · rename_i a
    have h1 := Cond.onTables_vm (A := args) (A' := args') (U := s) (U' := U) U.vm (.declares a) rfl
    rw [e, Cond.declares_setVm hW.alike] at h1
    rw [← h1]; exact h
  · rw [Bool.and_eq_true] at hk
    exact key w hk.1 hk.2 h
def xwL : List Jvm.Cond := vx_atS RX6 286 "java/lang/IndexOutOfBoundsException" ["java/lang/RuntimeException", "java/lang/Exception"] ++ (vx_atS RX6 297 "java/lang/IllegalArgumentException" ["java/lang/RuntimeException", "java/lang/Exception"] ++ vx_atS RX6 85 "java/lang/IllegalStateException" ["java/lang/RuntimeException", "java/lang/Exception"])
theorem xwL_ok : xwL.all xwK = true := by decide +kernel
theorem xwL_ot : xwL.all vx_ot = true := by decide +kernel
