/-! ===== acts on one call: what they leave, what they come to ===== -/
theorem IV_326 {l : Sg} {i : Nat} {v : Int32} (h : IV l) (hv : 0 ≤ v) : IV (up2 l 326 i v) := IV_up h (fun q => absurd q (by decide)) (fun _ => hv) (fun q => absurd q (by decide)) (by decide)
theorem IV_331 {l : Sg} {i : Nat} {v : Int32} (h : IV l) (hv : -1 ≤ v) : IV (up2 l 331 i v) := IV_up h (fun _ => hv) (fun q => absurd q (by decide)) (fun q => absurd q (by decide)) (by decide)
theorem IV_313 {l : Sg} {i : Nat} {v : Int32} (h : IV l) (hv : v ≤ 29) : IV (up2 l 313 i v) := IV_up h (fun q => absurd q (by decide)) (fun q => absurd q (by decide)) (fun _ => hv) (by decide)
theorem fx_1 {l0 l : Sg} {k9 : Nat} {a : Nat} {t : Int32} (h : FX k9 l0 l) : FX k9 l0 (f_1 a t l) := by
  unfold f_1
  (repeat' first | with_reducible exact h | with_reducible refine b_ite ?_ ?_ | with_reducible refine b_ite2 ?_ ?_ | with_reducible refine b_bnd ?_ | with_reducible refine b_bnd' ?_ | with_reducible refine b_bnd2 ?_ | with_reducible refine b_bnd2' ?_ | with_reducible refine b_4 FX_ben ?_ | with_reducible refine b_18 FX_ben ?_ | with_reducible refine b_19 FX_ben ?_ | with_reducible refine b_20 FX_ben ?_ | with_reducible refine b_22 FX_ben ?_ | with_reducible refine b_23 FX_ben ?_ | with_reducible refine b_93 FX_ben ?_ | with_reducible refine b_5 FX_ben ?_ | with_reducible refine b_87 FX_ben ?_ | with_reducible refine b_86 FX_ben ?_ | with_reducible refine b_85 FX_ben ?_ | with_reducible refine b_89 FX_ben ?_ | with_reducible refine FX_up ?_ ?_) <;> (first | rfl | exact fx_c rfl)
theorem iv_1 {l : Sg} {a : Nat} {t : Int32} (h : IV l) : IV (f_1 a t l) := by
  unfold f_1
  (repeat' first | with_reducible exact h | with_reducible refine b_ite ?_ ?_ | with_reducible refine b_ite2 ?_ ?_ | with_reducible refine b_bnd ?_ | with_reducible refine b_bnd' ?_ | with_reducible refine b_bnd2 ?_ | with_reducible refine b_bnd2' ?_ | with_reducible refine b_4 IV_ben ?_ | with_reducible refine b_18 IV_ben ?_ | with_reducible refine b_19 IV_ben ?_ | with_reducible refine b_20 IV_ben ?_ | with_reducible refine b_22 IV_ben ?_ | with_reducible refine b_23 IV_ben ?_ | with_reducible refine b_93 IV_ben ?_ | with_reducible refine b_5 IV_ben ?_ | with_reducible refine b_87 IV_ben ?_ | with_reducible refine b_86 IV_ben ?_ | with_reducible refine b_85 IV_ben ?_ | with_reducible refine b_89 IV_ben ?_ | with_reducible refine IV_326 ?_ ?_ | with_reducible refine IV_331 ?_ ?_ | with_reducible refine IV_313 ?_ ?_ | with_reducible refine IV_any ?_ ?_) <;> (first | rfl | decide)
theorem fx_2 {l0 l : Sg} {k9 : Nat} {a : Nat} {t : Int32} (h : FX k9 l0 l) : FX k9 l0 (f_2 a t l) := by
  unfold f_2
  (repeat' first | with_reducible exact h | with_reducible refine b_ite ?_ ?_ | with_reducible refine b_ite2 ?_ ?_ | with_reducible refine b_bnd ?_ | with_reducible refine b_bnd' ?_ | with_reducible refine b_bnd2 ?_ | with_reducible refine b_bnd2' ?_ | with_reducible refine b_4 FX_ben ?_ | with_reducible refine b_18 FX_ben ?_ | with_reducible refine b_19 FX_ben ?_ | with_reducible refine b_20 FX_ben ?_ | with_reducible refine b_22 FX_ben ?_ | with_reducible refine b_23 FX_ben ?_ | with_reducible refine b_93 FX_ben ?_ | with_reducible refine b_5 FX_ben ?_ | with_reducible refine b_87 FX_ben ?_ | with_reducible refine b_86 FX_ben ?_ | with_reducible refine b_85 FX_ben ?_ | with_reducible refine b_89 FX_ben ?_ | with_reducible refine fx_1 ?_ | with_reducible refine FX_up ?_ ?_) <;> (first | rfl | exact fx_c rfl)
theorem iv_2 {l : Sg} {a : Nat} {t : Int32} (h : IV l) : IV (f_2 a t l) := by
  unfold f_2
  (repeat' first | with_reducible exact h | with_reducible refine b_ite ?_ ?_ | with_reducible refine b_ite2 ?_ ?_ | with_reducible refine b_bnd ?_ | with_reducible refine b_bnd' ?_ | with_reducible refine b_bnd2 ?_ | with_reducible refine b_bnd2' ?_ | with_reducible refine b_4 IV_ben ?_ | with_reducible refine b_18 IV_ben ?_ | with_reducible refine b_19 IV_ben ?_ | with_reducible refine b_20 IV_ben ?_ | with_reducible refine b_22 IV_ben ?_ | with_reducible refine b_23 IV_ben ?_ | with_reducible refine b_93 IV_ben ?_ | with_reducible refine b_5 IV_ben ?_ | with_reducible refine b_87 IV_ben ?_ | with_reducible refine b_86 IV_ben ?_ | with_reducible refine b_85 IV_ben ?_ | with_reducible refine b_89 IV_ben ?_ | with_reducible refine iv_1 ?_ | with_reducible refine IV_326 ?_ ?_ | with_reducible refine IV_331 ?_ ?_ | with_reducible refine IV_313 ?_ ?_ | with_reducible refine IV_any ?_ ?_) <;> (first | rfl | decide)
theorem fx_92 {l0 l : Sg} {c : Nat} {s : Int32} (h : FX c l0 l) : FX c l0 (f_92 c s l) := by
  unfold f_92
  (repeat' first | with_reducible exact h | with_reducible refine b_ite ?_ ?_ | with_reducible refine b_ite2 ?_ ?_ | with_reducible refine b_bnd ?_ | with_reducible refine b_bnd' ?_ | with_reducible refine b_bnd2 ?_ | with_reducible refine b_bnd2' ?_ | with_reducible refine b_4 FX_ben ?_ | with_reducible refine b_18 FX_ben ?_ | with_reducible refine b_19 FX_ben ?_ | with_reducible refine b_20 FX_ben ?_ | with_reducible refine b_22 FX_ben ?_ | with_reducible refine b_23 FX_ben ?_ | with_reducible refine b_93 FX_ben ?_ | with_reducible refine b_5 FX_ben ?_ | with_reducible refine b_87 FX_ben ?_ | with_reducible refine b_86 FX_ben ?_ | with_reducible refine b_85 FX_ben ?_ | with_reducible refine b_89 FX_ben ?_ | with_reducible refine fx_1 ?_ | with_reducible refine fx_2 ?_ | with_reducible refine FX_up ?_ ?_) <;> (first | rfl | exact fx_c rfl)
theorem iv_92 {l : Sg} {c : Nat} {s : Int32} (h : IV l) : IV (f_92 c s l) := by
  unfold f_92
  (repeat' first | with_reducible exact h | with_reducible refine b_ite ?_ ?_ | with_reducible refine b_ite2 ?_ ?_ | with_reducible refine b_bnd ?_ | with_reducible refine b_bnd' ?_ | with_reducible refine b_bnd2 ?_ | with_reducible refine b_bnd2' ?_ | with_reducible refine b_4 IV_ben ?_ | with_reducible refine b_18 IV_ben ?_ | with_reducible refine b_19 IV_ben ?_ | with_reducible refine b_20 IV_ben ?_ | with_reducible refine b_22 IV_ben ?_ | with_reducible refine b_23 IV_ben ?_ | with_reducible refine b_93 IV_ben ?_ | with_reducible refine b_5 IV_ben ?_ | with_reducible refine b_87 IV_ben ?_ | with_reducible refine b_86 IV_ben ?_ | with_reducible refine b_85 IV_ben ?_ | with_reducible refine b_89 IV_ben ?_ | with_reducible refine iv_1 ?_ | with_reducible refine iv_2 ?_ | with_reducible refine IV_326 ?_ ?_ | with_reducible refine IV_331 ?_ ?_ | with_reducible refine IV_313 ?_ ?_ | with_reducible refine IV_any ?_ ?_) <;> (first | rfl | decide)
theorem fx_101 {l0 l : Sg} {c : Nat} (h : FX c l0 l) : FX c l0 (f_101 c l) := by
  unfold f_101
  (repeat' first | with_reducible exact h | with_reducible refine b_ite ?_ ?_ | with_reducible refine b_ite2 ?_ ?_ | with_reducible refine b_bnd ?_ | with_reducible refine b_bnd' ?_ | with_reducible refine b_bnd2 ?_ | with_reducible refine b_bnd2' ?_ | with_reducible refine b_4 FX_ben ?_ | with_reducible refine b_18 FX_ben ?_ | with_reducible refine b_19 FX_ben ?_ | with_reducible refine b_20 FX_ben ?_ | with_reducible refine b_22 FX_ben ?_ | with_reducible refine b_23 FX_ben ?_ | with_reducible refine b_93 FX_ben ?_ | with_reducible refine b_5 FX_ben ?_ | with_reducible refine b_87 FX_ben ?_ | with_reducible refine b_86 FX_ben ?_ | with_reducible refine b_85 FX_ben ?_ | with_reducible refine b_89 FX_ben ?_ | with_reducible refine fx_1 ?_ | with_reducible refine fx_2 ?_ | with_reducible refine fx_92 ?_ | with_reducible refine FX_up ?_ ?_) <;> (first | rfl | exact fx_c rfl)
theorem iv_101 {l : Sg} {c : Nat} (h : IV l) : IV (f_101 c l) := by
  unfold f_101
  (repeat' first | with_reducible exact h | with_reducible refine b_ite ?_ ?_ | with_reducible refine b_ite2 ?_ ?_ | with_reducible refine b_bnd ?_ | with_reducible refine b_bnd' ?_ | with_reducible refine b_bnd2 ?_ | with_reducible refine b_bnd2' ?_ | with_reducible refine b_4 IV_ben ?_ | with_reducible refine b_18 IV_ben ?_ | with_reducible refine b_19 IV_ben ?_ | with_reducible refine b_20 IV_ben ?_ | with_reducible refine b_22 IV_ben ?_ | with_reducible refine b_23 IV_ben ?_ | with_reducible refine b_93 IV_ben ?_ | with_reducible refine b_5 IV_ben ?_ | with_reducible refine b_87 IV_ben ?_ | with_reducible refine b_86 IV_ben ?_ | with_reducible refine b_85 IV_ben ?_ | with_reducible refine b_89 IV_ben ?_ | with_reducible refine iv_1 ?_ | with_reducible refine iv_2 ?_ | with_reducible refine iv_92 ?_ | with_reducible refine IV_326 ?_ ?_ | with_reducible refine IV_331 ?_ ?_ | with_reducible refine IV_313 ?_ ?_ | with_reducible refine IV_any ?_ ?_) <;> (first | rfl | decide)
theorem fx_91 {l0 l : Sg} {c : Nat} {w : Int32} (h : FX c l0 l) : FX c l0 (f_91 c w l) := by
  unfold f_91
  (repeat' first | with_reducible exact h | with_reducible refine b_ite ?_ ?_ | with_reducible refine b_ite2 ?_ ?_ | with_reducible refine b_bnd ?_ | with_reducible refine b_bnd' ?_ | with_reducible refine b_bnd2 ?_ | with_reducible refine b_bnd2' ?_ | with_reducible refine b_4 FX_ben ?_ | with_reducible refine b_18 FX_ben ?_ | with_reducible refine b_19 FX_ben ?_ | with_reducible refine b_20 FX_ben ?_ | with_reducible refine b_22 FX_ben ?_ | with_reducible refine b_23 FX_ben ?_ | with_reducible refine b_93 FX_ben ?_ | with_reducible refine b_5 FX_ben ?_ | with_reducible refine b_87 FX_ben ?_ | with_reducible refine b_86 FX_ben ?_ | with_reducible refine b_85 FX_ben ?_ | with_reducible refine b_89 FX_ben ?_ | with_reducible refine fx_1 ?_ | with_reducible refine fx_2 ?_ | with_reducible refine fx_92 ?_ | with_reducible refine fx_101 ?_ | with_reducible refine FX_up ?_ ?_) <;> (first | rfl | exact fx_c rfl)
theorem iv_91 {l : Sg} {c : Nat} {w : Int32} (h : IV l) : IV (f_91 c w l) := by
  unfold f_91
  (repeat' first | with_reducible exact h | with_reducible refine b_ite ?_ ?_ | with_reducible refine b_ite2 ?_ ?_ | with_reducible refine b_bnd ?_ | with_reducible refine b_bnd' ?_ | with_reducible refine b_bnd2 ?_ | with_reducible refine b_bnd2' ?_ | with_reducible refine b_4 IV_ben ?_ | with_reducible refine b_18 IV_ben ?_ | with_reducible refine b_19 IV_ben ?_ | with_reducible refine b_20 IV_ben ?_ | with_reducible refine b_22 IV_ben ?_ | with_reducible refine b_23 IV_ben ?_ | with_reducible refine b_93 IV_ben ?_ | with_reducible refine b_5 IV_ben ?_ | with_reducible refine b_87 IV_ben ?_ | with_reducible refine b_86 IV_ben ?_ | with_reducible refine b_85 IV_ben ?_ | with_reducible refine b_89 IV_ben ?_ | with_reducible refine iv_1 ?_ | with_reducible refine iv_2 ?_ | with_reducible refine iv_92 ?_ | with_reducible refine iv_101 ?_ | with_reducible refine IV_326 ?_ ?_ | with_reducible refine IV_331 ?_ ?_ | with_reducible refine IV_313 ?_ ?_ | with_reducible refine IV_any ?_ ?_) <;> (first | rfl | decide)
theorem fx_17 {l0 l : Sg} {c : Nat} {m : Nat} {t : Int32} (h : FX c l0 l) : FX c l0 (f_17 c m t l) := by
  unfold f_17
  (repeat' first | with_reducible exact h | with_reducible refine b_ite ?_ ?_ | with_reducible refine b_ite2 ?_ ?_ | with_reducible refine b_bnd ?_ | with_reducible refine b_bnd' ?_ | with_reducible refine b_bnd2 ?_ | with_reducible refine b_bnd2' ?_ | with_reducible refine b_4 FX_ben ?_ | with_reducible refine b_18 FX_ben ?_ | with_reducible refine b_19 FX_ben ?_ | with_reducible refine b_20 FX_ben ?_ | with_reducible refine b_22 FX_ben ?_ | with_reducible refine b_23 FX_ben ?_ | with_reducible refine b_93 FX_ben ?_ | with_reducible refine b_5 FX_ben ?_ | with_reducible refine b_87 FX_ben ?_ | with_reducible refine b_86 FX_ben ?_ | with_reducible refine b_85 FX_ben ?_ | with_reducible refine b_89 FX_ben ?_ | with_reducible refine fx_1 ?_ | with_reducible refine fx_2 ?_ | with_reducible refine fx_92 ?_ | with_reducible refine fx_101 ?_ | with_reducible refine fx_91 ?_ | with_reducible refine FX_up ?_ ?_) <;> (first | rfl | exact fx_c rfl)
theorem iv_17 {l : Sg} {c : Nat} {m : Nat} {t : Int32} (h : IV l) : IV (f_17 c m t l) := by
  unfold f_17
  (repeat' first | with_reducible exact h | with_reducible refine b_ite ?_ ?_ | with_reducible refine b_ite2 ?_ ?_ | with_reducible refine b_bnd ?_ | with_reducible refine b_bnd' ?_ | with_reducible refine b_bnd2 ?_ | with_reducible refine b_bnd2' ?_ | with_reducible refine b_4 IV_ben ?_ | with_reducible refine b_18 IV_ben ?_ | with_reducible refine b_19 IV_ben ?_ | with_reducible refine b_20 IV_ben ?_ | with_reducible refine b_22 IV_ben ?_ | with_reducible refine b_23 IV_ben ?_ | with_reducible refine b_93 IV_ben ?_ | with_reducible refine b_5 IV_ben ?_ | with_reducible refine b_87 IV_ben ?_ | with_reducible refine b_86 IV_ben ?_ | with_reducible refine b_85 IV_ben ?_ | with_reducible refine b_89 IV_ben ?_ | with_reducible refine iv_1 ?_ | with_reducible refine iv_2 ?_ | with_reducible refine iv_92 ?_ | with_reducible refine iv_101 ?_ | with_reducible refine iv_91 ?_ | with_reducible refine IV_326 ?_ ?_ | with_reducible refine IV_331 ?_ ?_ | with_reducible refine IV_313 ?_ ?_ | with_reducible refine IV_any ?_ ?_) <;> (first | rfl | decide)
theorem fx_82 {l0 l : Sg} {n : Nat} {c : Nat} {m : Nat} (h : FX c l0 l) : FX c l0 (f_82 n c m l).2 := by
  unfold f_82
  (repeat' first | with_reducible exact h | with_reducible refine b_ite ?_ ?_ | with_reducible refine b_ite2 ?_ ?_ | with_reducible refine b_bnd ?_ | with_reducible refine b_bnd' ?_ | with_reducible refine b_bnd2 ?_ | with_reducible refine b_bnd2' ?_ | with_reducible refine b_4 FX_ben ?_ | with_reducible refine b_18 FX_ben ?_ | with_reducible refine b_19 FX_ben ?_ | with_reducible refine b_20 FX_ben ?_ | with_reducible refine b_22 FX_ben ?_ | with_reducible refine b_23 FX_ben ?_ | with_reducible refine b_93 FX_ben ?_ | with_reducible refine b_5 FX_ben ?_ | with_reducible refine b_87 FX_ben ?_ | with_reducible refine b_86 FX_ben ?_ | with_reducible refine b_85 FX_ben ?_ | with_reducible refine b_89 FX_ben ?_ | with_reducible refine fx_1 ?_ | with_reducible refine fx_2 ?_ | with_reducible refine fx_92 ?_ | with_reducible refine fx_101 ?_ | with_reducible refine fx_91 ?_ | with_reducible refine fx_17 ?_ | with_reducible refine FX_up ?_ ?_) <;> (first | rfl | exact fx_c rfl)
theorem iv_82 {l : Sg} {n : Nat} {c : Nat} {m : Nat} (h : IV l) : IV (f_82 n c m l).2 := by
  unfold f_82
  (repeat' first | with_reducible exact h | with_reducible refine b_ite ?_ ?_ | with_reducible refine b_ite2 ?_ ?_ | with_reducible refine b_bnd ?_ | with_reducible refine b_bnd' ?_ | with_reducible refine b_bnd2 ?_ | with_reducible refine b_bnd2' ?_ | with_reducible refine b_4 IV_ben ?_ | with_reducible refine b_18 IV_ben ?_ | with_reducible refine b_19 IV_ben ?_ | with_reducible refine b_20 IV_ben ?_ | with_reducible refine b_22 IV_ben ?_ | with_reducible refine b_23 IV_ben ?_ | with_reducible refine b_93 IV_ben ?_ | with_reducible refine b_5 IV_ben ?_ | with_reducible refine b_87 IV_ben ?_ | with_reducible refine b_86 IV_ben ?_ | with_reducible refine b_85 IV_ben ?_ | with_reducible refine b_89 IV_ben ?_ | with_reducible refine iv_1 ?_ | with_reducible refine iv_2 ?_ | with_reducible refine iv_92 ?_ | with_reducible refine iv_101 ?_ | with_reducible refine iv_91 ?_ | with_reducible refine iv_17 ?_ | with_reducible refine IV_326 ?_ ?_ | with_reducible refine IV_331 ?_ ?_ | with_reducible refine IV_313 ?_ ?_ | with_reducible refine IV_any ?_ ?_) <;> (first | rfl | decide)
theorem fx_g81 {n c : Nat} {l0 : Sg} : ∀ (d j : Nat) (a : Int32) (l : Sg), FX c l0 l → FX c l0 (g_81 n c d j a l) := by
  intro d
  induction d with
  | zero =>
    intro j a l h
    rw [g_81]
    exact h
  | succ d ih =>
    intro j a l h
    rw [g_81]
    (repeat' first | with_reducible exact h | with_reducible refine b_ite ?_ ?_ | with_reducible refine b_ite2 ?_ ?_ | with_reducible refine b_bnd ?_ | with_reducible refine b_bnd' ?_ | with_reducible refine b_bnd2 ?_ | with_reducible refine b_bnd2' ?_ | with_reducible refine b_4 FX_ben ?_ | with_reducible refine b_18 FX_ben ?_ | with_reducible refine b_19 FX_ben ?_ | with_reducible refine b_20 FX_ben ?_ | with_reducible refine b_22 FX_ben ?_ | with_reducible refine b_23 FX_ben ?_ | with_reducible refine b_93 FX_ben ?_ | with_reducible refine b_5 FX_ben ?_ | with_reducible refine b_87 FX_ben ?_ | with_reducible refine b_86 FX_ben ?_ | with_reducible refine b_85 FX_ben ?_ | with_reducible refine b_89 FX_ben ?_ | with_reducible refine fx_1 ?_ | with_reducible refine fx_2 ?_ | with_reducible refine fx_92 ?_ | with_reducible refine fx_101 ?_ | with_reducible refine fx_91 ?_ | with_reducible refine fx_17 ?_ | with_reducible refine fx_82 ?_ | with_reducible refine ih _ _ _ ?_ | with_reducible refine FX_up ?_ ?_) <;> (first | rfl | exact fx_c rfl)
theorem iv_g81 {n c : Nat} : ∀ (d j : Nat) (a : Int32) (l : Sg), IV l → IV (g_81 n c d j a l) := by
  intro d
  induction d with
  | zero =>
    intro j a l h
    rw [g_81]
    exact h
  | succ d ih =>
    intro j a l h
    rw [g_81]
    have key : IV (bnd (f_93 (l 313 c) a l) fun l4 => (if isN a then (bnd2 (f_82 n c a.toNatClampNeg (up2 l4 313 c a)) fun v7 l7 => g_81 n c d (j + 1) v7 l7) else (bnd (f_91 c (0 : Int32) l4) fun l8 => l8))) := by
      refine b_bnd (P := IV) ?_
      by_cases ha : isN a
      · rw [if_pos ha]
        exact b_bnd2 (P := IV) (ih _ _ _ (iv_82 (IV_313 (b_93 IV_ben h) ha.2)))
      · rw [if_neg ha]
        exact b_bnd (P := IV) (iv_91 (b_93 IV_ben h))
    refine b_ite h (b_ite key (b_ite ?_ key))
    exact b_bnd (P := IV) (iv_91 h)
theorem fx_81 {n c : Nat} {t : Int32} {l0 l : Sg} (h : FX c l0 l) : FX c l0 (f_81 n c t l) := by
  unfold f_81
  exact b_bnd (P := FX c l0) (fx_g81 _ _ _ _ (fx_92 h))
theorem iv_81 {n c : Nat} {t : Int32} {l : Sg} (h : IV l) : IV (f_81 n c t l) := by
  unfold f_81
  exact b_bnd (P := IV) (iv_g81 _ _ _ _ (iv_92 h))
theorem fx_80 {n c : Nat} {t : Int32} {l0 l : Sg} (h : FX c l0 l) : FX c l0 (f_80 n c t l) := by
  unfold f_80
  exact b_ite (b_bnd (P := FX c l0) (fx_81 (FX_up h rfl))) (b_bnd (P := FX c l0) (fx_81 h))
theorem iv_80 {n c : Nat} {t : Int32} {l : Sg} (h : IV l) : IV (f_80 n c t l) := by
  unfold f_80
  exact b_ite (b_bnd (P := IV) (iv_81 (IV_any h rfl))) (b_bnd (P := IV) (iv_81 h))
theorem fx_100 {l0 l : Sg} {a : Int32} {c : Nat} (h : FX c l0 l) : FX c l0 (f_100 a c l) := by
  unfold f_100
  (repeat' first | with_reducible exact h | with_reducible refine b_ite ?_ ?_ | with_reducible refine b_ite2 ?_ ?_ | with_reducible refine b_bnd ?_ | with_reducible refine b_bnd' ?_ | with_reducible refine b_bnd2 ?_ | with_reducible refine b_bnd2' ?_ | with_reducible refine b_4 FX_ben ?_ | with_reducible refine b_18 FX_ben ?_ | with_reducible refine b_19 FX_ben ?_ | with_reducible refine b_20 FX_ben ?_ | with_reducible refine b_22 FX_ben ?_ | with_reducible refine b_23 FX_ben ?_ | with_reducible refine b_93 FX_ben ?_ | with_reducible refine b_5 FX_ben ?_ | with_reducible refine b_87 FX_ben ?_ | with_reducible refine b_86 FX_ben ?_ | with_reducible refine b_85 FX_ben ?_ | with_reducible refine b_89 FX_ben ?_ | with_reducible refine fx_1 ?_ | with_reducible refine fx_2 ?_ | with_reducible refine fx_92 ?_ | with_reducible refine fx_101 ?_ | with_reducible refine fx_91 ?_ | with_reducible refine fx_17 ?_ | with_reducible refine fx_82 ?_ | with_reducible refine FX_up ?_ ?_) <;> (first | rfl | exact fx_c rfl)
theorem iv_100 {a : Int32} {c : Nat} {l : Sg} (h : IV l) : IV (f_100 a c l) := by
  unfold f_100
  refine b_ite (b_bnd (P := IV) ?_) (b_bnd (P := IV) ?_)
  · have h2 := iv_92 (c := c) (s := 4) h
    exact IV_326 (IV_331 (IV_any (IV_313 (IV_any h2 rfl) (by decide)) rfl) (Int32.le_trans (by decide) (h2.2.2.2 c))) (by decide)
  · have h2 := iv_92 (c := c) (s := 2) h
    exact IV_326 (IV_331 (IV_any (IV_313 (IV_any h2 rfl) (by decide)) rfl) (Int32.le_trans (by decide) (h2.2.2.2 c))) (by decide)
/-- a cell that is not among those that no answer hangs on -/
def AT (F i : Nat) (v : Int32) (l : Sg) : Prop := l F i = v
theorem AT_ben {F i : Nat} {v : Int32} (hF : benR F = false) : Ben (AT F i v) := fun l G j w h hG => by
  unfold AT at h ⊢
  unfold up2
  rw [if_neg (by rintro ⟨rfl, rfl⟩; rw [hF] at hG; cases hG)]
  exact h
theorem AT_now {F i : Nat} {v : Int32} {l : Sg} : AT F i v (up2 l F i v) := by
  unfold AT up2
  rw [if_pos ⟨rfl, rfl⟩]
theorem AT_up {F i G j : Nat} {v w : Int32} {l : Sg} (h : AT F i v l) (hF : (F == G) = false) : AT F i v (up2 l G j w) := by
  unfold AT at h ⊢
  unfold up2
  rw [if_neg (by rintro ⟨rfl, rfl⟩; simp at hF)]
  exact h
theorem s_92 {c : Nat} {s : Int32} {l : Sg} : f_92 c s l 311 c = s := by
  have key : AT 311 c s (f_92 c s l) := by
    unfold f_92
    (repeat' first | with_reducible exact AT_now | with_reducible refine b_ite ?_ ?_ | with_reducible refine b_bnd ?_ | with_reducible refine b_4 (AT_ben rfl) ?_)
  exact key
theorem s_91 {c : Nat} {w : Int32} {l : Sg} : f_91 c w l 311 c = 5 := by
  have key : AT 311 c 5 (f_91 c w l) := by
    unfold f_91
    refine b_bnd (P := AT 311 c 5) (b_bnd (P := AT 311 c 5) (AT_up (AT_up ?_ rfl) rfl))
    exact s_92
  exact key
/-! ===== how many wait ===== -/
def cntQ (l : Sg) : Nat → Nat
  | 0 => 0
  | j + 1 => cntQ l j + (if l 311 j = 1 ∧ l 320 j = 0 then 1 else 0)
theorem cnt_le {l l' : Sg} {c : Nat} (h : ∀ j, j ≠ c → l' 311 j = l 311 j ∧ l' 320 j = l 320 j) (hc : ¬ l' 311 c = 1) : ∀ n, cntQ l' n ≤ cntQ l n
  | 0 => Nat.le_refl _
  | j + 1 => by
    have ih := cnt_le h hc j
    unfold cntQ
    by_cases e : j = c
    · subst e
      rw [if_neg (fun q => hc q.1)]
      omega
    · rw [(h j e).1, (h j e).2]
      omega
theorem cnt_up {l l' : Sg} {c : Nat} (h : ∀ j, j ≠ c → l' 311 j = l 311 j ∧ l' 320 j = l 320 j) : ∀ n, cntQ l' n ≤ cntQ l n + (if c < n then 1 else 0)
  | 0 => Nat.le_refl _
  | j + 1 => by
    have ih := cnt_up h j
    unfold cntQ
    by_cases e : j = c
    · subst e
      rw [if_neg (Nat.lt_irrefl _)] at ih
      rw [if_pos (Nat.lt_succ_self _)]
      split <;> omega
    · rw [(h j e).1, (h j e).2]
      by_cases q : c < j
      · rw [if_pos q] at ih
        rw [if_pos (show c < j + 1 by omega)]
        omega
      · rw [if_neg q] at ih
        rw [if_neg (show ¬ c < j + 1 by omega)]
        omega
theorem cnt_up1 {l l' : Sg} {c n : Nat} (h : ∀ j, j ≠ c → l' 311 j = l 311 j ∧ l' 320 j = l 320 j) : cntQ l' n ≤ cntQ l n + 1 := by
  have := cnt_up h n
  split at this <;> omega
theorem cnt_same {l l' : Sg} (h : ∀ j, l' 311 j = l 311 j ∧ l' 320 j = l 320 j) : ∀ n, cntQ l' n = cntQ l n
  | 0 => rfl
  | j + 1 => by
    unfold cntQ
    rw [cnt_same h j, (h j).1, (h j).2]
theorem FX_311 {c : Nat} {l0 l : Sg} (h : FX c l0 l) : ∀ j, j ≠ c → l 311 j = l0 311 j ∧ l 320 j = l0 320 j := fun j hj => by
  have e : (j == c) = false := beq_eq_false_iff_ne.mpr hj
  constructor
  · exact h 311 j (by unfold fxB; rw [e]; rfl)
  · exact h 320 j (by unfold fxB; rw [e]; rfl)
/-- no call rings, none is away -/
def ST (l : Sg) : Prop := ∀ c, l 311 c = 0 ∨ l 311 c = 1 ∨ l 311 c = 2 ∨ l 311 c = 5
/-- the nodes of the drawn system -/
def KF (l : Sg) : Prop := ∀ m, m < 30 → (l 296 m = 0 ∨ l 296 m = 2 ∨ (l 296 m = 7 ∧ l 442 m = 0 ∧ l 444 m = 3))
theorem FX_cfg {c : Nat} {l0 l : Sg} (h : FX c l0 l) {k j : Nat} (hk : cfgR k = true) : l k j = l0 k j := h k j (by unfold fxB; rw [hk]; rfl)
theorem KF_fx {c : Nat} {l0 l : Sg} (h : FX c l0 l) (hK : KF l0) : KF l := fun m hm => by
  rw [FX_cfg h (k := 296) rfl, FX_cfg h (k := 442) rfl, FX_cfg h (k := 444) rfl]
  exact hK m hm
theorem ST_fx {c : Nat} {l0 l : Sg} (h : FX c l0 l) (hS : ST l0) (hc : l 311 c = 0 ∨ l 311 c = 1 ∨ l 311 c = 2 ∨ l 311 c = 5) : ST l := fun j => by
  by_cases e : j = c
  · rw [e]; exact hc
  · rw [(FX_311 h j e).1]; exact hS j
theorem f102_cnt {n : Nat} {l : Sg} (hS : ST l) : ∀ (d j : Nat), j + d = n → g_102 n 0 d j (i32 (cntQ l j)) l = i32 (cntQ l n) := by
  intro d
  induction d with
  | zero =>
    intro j hj
    rw [g_102, show j = n by omega]
  | succ d ih =>
    intro j hj
    rw [g_102]
    have h14 : f_14 j 0 l = if l 311 j = 1 ∧ l 320 j = 0 then 1 else 0 := by
      unfold f_14
      by_cases h0 : l 320 j = 0
      · rw [if_neg (not_not_intro h0)]
        rcases hS j with h | h | h | h <;> rw [h]
        · simp
        · rw [if_pos rfl, if_pos ⟨rfl, h0⟩]
        · simp
        · simp
      · rw [if_pos h0, if_neg (fun q => h0 q.2)]
    rw [h14]
    by_cases q : l 311 j = 1 ∧ l 320 j = 0
    · rw [if_pos q, if_neg (by decide)]
      have e : i32 (cntQ l j) + (1 : Int32) = i32 (cntQ l (j + 1)) := by
        have : cntQ l (j + 1) = cntQ l j + 1 := by
          show cntQ l j + (if l 311 j = 1 ∧ l 320 j = 0 then 1 else 0) = _
          rw [if_pos q]
        rw [this]
        exact i32_add _ 1
      rw [e]
      exact ih (j + 1) (by omega)
    · rw [if_neg q, if_pos rfl]
      have e : cntQ l (j + 1) = cntQ l j := by
        show cntQ l j + (if l 311 j = 1 ∧ l 320 j = 0 then 1 else 0) = _
        rw [if_neg q]
        rfl
      rw [← e]
      exact ih (j + 1) (by omega)
theorem f102_eq {n : Nat} {l : Sg} (hS : ST l) : f_102 n 0 l = i32 (cntQ l n) := by
  unfold f_102
  exact f102_cnt hS n 0 (by omega)
theorem cntQ_le (l : Sg) : ∀ n, cntQ l n ≤ n
  | 0 => Nat.le_refl _
  | j + 1 => by
    have := cntQ_le l j
    unfold cntQ
    split <;> omega
/-- the call comes to a node: it stays on its way, or waits, or is over -/
def GO (n c : Nat) (l : Sg) : Prop := ST l ∧ KF l ∧ cntQ l n ≤ 3 ∧ (l 311 c = 0 ∨ l 311 c = 1 ∨ l 311 c = 5)
theorem GO_same {n c : Nat} {l l' : Sg} (h : GO n c l) (hf : FX (c + 1) l l') (hf2 : FX c l l') : GO n c l' := by
  have e : ∀ j, l' 311 j = l 311 j ∧ l' 320 j = l 320 j := fun j => by
    by_cases q : j = c
    · subst q
      exact FX_311 hf j (by omega)
    · exact FX_311 hf2 j q
  refine ⟨fun j => by rw [(e j).1]; exact h.1 j, KF_fx hf h.2.1, by rw [cnt_same e]; exact h.2.2.1, by rw [(e c).1]; exact h.2.2.2⟩
theorem GO_over {n c : Nat} {w : Int32} {l : Sg} (h : GO n c l) : GO n c (f_91 c w l) := by
  have hf : FX c l (f_91 c w l) := fx_91 FX_rf
  have h5 : f_91 c w l 311 c = 5 := s_91
  refine ⟨ST_fx hf h.1 (Or.inr (Or.inr (Or.inr h5))), KF_fx hf h.2.1, ?_, Or.inr (Or.inr h5)⟩
  exact Nat.le_trans (cnt_le (FX_311 hf) (by rw [h5]; decide) n) h.2.2.1
theorem GO_82 {n c m : Nat} {l : Sg} (hn : n ≤ 60) (hm : m < 30) (h : GO n c l) (h0 : l 311 c = 0) : GO n c (f_82 n c m l).2 ∧ (¬ (f_82 n c m l).1 = -2 → (f_82 n c m l).2 311 c = 0) := by
  rcases h.2.1 m hm with k | k | ⟨k, k2, k3⟩
  · have e : f_82 n c m l = (-1, l) := by
      unfold f_82
      rw [k]
      rw [if_neg (by decide), if_neg (by decide), if_neg (by decide), if_neg (by decide), if_neg (by decide), if_neg (by decide), if_neg (by decide), if_neg (by decide)]
    rw [e]
    exact ⟨h, fun _ => h0⟩
  · have e : f_82 n c m l = (-2, f_19 c (l 292 0 + l 303 m) (up2 l 315 c 0)) := by
      unfold f_82
      rw [k]
      rw [if_neg (by decide), if_pos rfl]
      rfl
    rw [e]
    refine ⟨GO_same h ?_ ?_, fun q => absurd rfl q⟩
    · exact b_19 FX_ben (FX_up FX_rf rfl)
    · exact b_19 FX_ben (FX_up FX_rf rfl)
  · have e : f_82 n c m l = if f_102 n (f_17 c m (l 292 0) l 442 m) (f_17 c m (l 292 0) l) < f_17 c m (l 292 0) l 444 m then (-2, f_92 c 1 (up2 (f_17 c m (l 292 0) l) 316 c (f_17 c m (l 292 0) l 292 0 + f_17 c m (l 292 0) l 438 m))) else (f_17 c m (l 292 0) l 301 m, f_17 c m (l 292 0) l) := by
      unfold f_82
      rw [k]
      rw [if_neg (by decide), if_neg (by decide), if_neg (by decide), if_neg (by decide), if_neg (by decide), if_neg (by decide), if_pos rfl]
      rfl
    have hf : FX c l (f_17 c m (l 292 0) l) := fx_17 FX_rf
    have hs : f_17 c m (l 292 0) l 311 c = 0 := by
      have : AT 311 c 0 (f_17 c m (l 292 0) l) := by
        unfold f_17
        exact AT_up (AT_up (AT_up (AT_up h0 rfl) rfl) rfl) rfl
      exact this
    have hG : GO n c (f_17 c m (l 292 0) l) := ⟨ST_fx hf h.1 (Or.inl hs), KF_fx hf h.2.1, Nat.le_trans (cnt_le (FX_311 hf) (by rw [hs]; decide) n) h.2.2.1, Or.inl hs⟩
    have c4 : f_17 c m (l 292 0) l 442 m = 0 := (FX_cfg hf rfl).trans k2
    have c5 : f_17 c m (l 292 0) l 444 m = 3 := (FX_cfg hf rfl).trans k3
    rw [e, c4, c5, f102_eq hG.1]
    generalize f_17 c m (l 292 0) l = l1 at hG hs ⊢
    by_cases q : i32 (cntQ l1 n) < 3
    · rw [if_pos q]
      have q2 : cntQ l1 n < 3 := by
        have := cntQ_le l1 n
        exact (i32_lt (b := 3) (by omega) (by decide)).mp q
      refine ⟨?_, fun z => absurd rfl z⟩
      obtain ⟨l2, h2⟩ : ∃ l2, l2 = up2 l1 316 c (l1 292 0 + l1 438 m) := ⟨_, rfl⟩
      rw [← h2]
      have hf2 : FX c l1 (f_92 c 1 l2) := by rw [h2]; exact fx_92 (FX_up FX_rf rfl)
      have h1 : f_92 c 1 l2 311 c = 1 := s_92
      refine ⟨ST_fx hf2 hG.1 (Or.inr (Or.inl h1)), KF_fx hf2 hG.2.1, ?_, Or.inr (Or.inl h1)⟩
      have := cnt_up1 (n := n) (FX_311 hf2)
      show cntQ (f_92 c 1 l2) n ≤ 3
      omega
    · rw [if_neg q]
      exact ⟨hG, fun _ => hs⟩
theorem GO_g81 {n c : Nat} (hn : n ≤ 60) : ∀ (d j : Nat) (a : Int32) (l : Sg), GO n c l → (¬ a = -2 → l 311 c = 0) → GO n c (g_81 n c d j a l) := by
  intro d
  induction d with
  | zero =>
    intro j a l h _
    rw [g_81]
    exact h
  | succ d ih =>
    intro j a l h h0
    rw [g_81]
    by_cases ha : a = -2
    · rw [if_pos ha]
      exact h
    · rw [if_neg ha]
      have key : GO n c (bnd (f_93 (l 313 c) a l) fun l4 => (if isN a then (bnd2 (f_82 n c a.toNatClampNeg (up2 l4 313 c a)) fun v7 l7 => g_81 n c d (j + 1) v7 l7) else (bnd (f_91 c (0 : Int32) l4) fun l8 => l8))) := by
        show GO n c (if isN a then g_81 n c d (j + 1) (f_82 n c a.toNatClampNeg (up2 (f_93 (l 313 c) a l) 313 c a)).1 (f_82 n c a.toNatClampNeg (up2 (f_93 (l 313 c) a l) 313 c a)).2 else f_91 c 0 (f_93 (l 313 c) a l))
        have h93 : GO n c (f_93 (l 313 c) a l) := GO_same h (b_93 FX_ben FX_rf) (b_93 FX_ben FX_rf)
        have s93 : f_93 (l 313 c) a l 311 c = 0 := by
          have : AT 311 c 0 (f_93 (l 313 c) a l) := b_93 (AT_ben rfl) (h0 ha)
          exact this
        by_cases hN : isN a
        · rw [if_pos hN]
          generalize f_93 (l 313 c) a l = l4 at h93 s93 ⊢
          have hf : FX c l4 (up2 l4 313 c a) := FX_up FX_rf (fx_c rfl)
          have hs : up2 l4 313 c a 311 c = 0 := by
            have : AT 311 c 0 (up2 l4 313 c a) := AT_up s93 rfl
            exact this
          have e3 : ∀ j, up2 l4 313 c a 311 j = l4 311 j ∧ up2 l4 313 c a 320 j = l4 320 j := fun j => by
            unfold up2
            exact ⟨if_neg (fun q => absurd q.1 (by decide)), if_neg (fun q => absurd q.1 (by decide))⟩
          have hG : GO n c (up2 l4 313 c a) := ⟨fun j => by rw [(e3 j).1]; exact h93.1 j, KF_fx hf h93.2.1, by rw [cnt_same e3]; exact h93.2.2.1, Or.inl hs⟩
          obtain ⟨g1, g2⟩ := GO_82 (n := n) (c := c) (m := a.toNatClampNeg) hn (isN_lt hN).1 hG hs
          exact ih _ _ _ g1 g2
        · rw [if_neg hN]
          exact GO_over h93
      by_cases hj : j = 20
      · rw [if_neg (not_not_intro hj)]
        by_cases hN : isN a
        · rw [if_pos hN]
          exact GO_over h
        · rw [if_neg hN]
          exact key
      · rw [if_pos hj]
        exact key
theorem GO_81 {n c : Nat} {t : Int32} {l : Sg} (hn : n ≤ 60) (hS : ST l) (hK : KF l) (hc : cntQ l n ≤ 3) : GO n c (f_81 n c t l) := by
  have hf : FX c l (f_92 c 0 l) := fx_92 FX_rf
  have h0 : f_92 c 0 l 311 c = 0 := s_92
  exact GO_g81 hn _ _ _ _ ⟨ST_fx hf hS (Or.inl h0), KF_fx hf hK, Nat.le_trans (cnt_le (FX_311 hf) (by rw [h0]; decide) n) hc, Or.inl h0⟩ (fun _ => h0)
