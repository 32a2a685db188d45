/-! ===== what the calls of a drawn system leave as it is ===== -/
/-- rows that no answer hangs on here -/
def benR (F : Nat) : Bool := F == 309 || (F == 310 || (F == 312 || ((Nat.ble 314 F && Nat.ble F 319) || ((Nat.ble 321 F && Nat.ble F 325) || ((Nat.ble 327 F && Nat.ble F 330) || (F == 418 || (F == 420 || (Nat.ble 470 F && Nat.ble F 475))))))))
def Ben (P : Sg → Prop) : Prop := ∀ (l : Sg) (F i : Nat) (v : Int32), P l → benR F = true → P (up2 l F i v)
section BEN
variable {P : Sg → Prop} {l : Sg}
theorem b_up {F i : Nat} {v : Int32} (hB : Ben P) (h : P l) (hF : benR F = true) : P (up2 l F i v) := hB l F i v h hF
theorem b_ite {c : Prop} [Decidable c] {a b : Sg} (ha : P a) (hb : P b) : P (if c then a else b) := by split <;> assumption
theorem b_ite2 {c : Prop} [Decidable c] {a b : Int32 × Sg} (ha : P a.2) (hb : P b.2) : P (if c then a else b).2 := by split <;> assumption
theorem b_bnd {α : Type} {a : α} {f : α → Sg} (h : P (f a)) : P (bnd a f) := h
theorem b_bnd' {α : Type} {a : α} {f : α → Int32 × Sg} (h : P (f a).2) : P (bnd a f).2 := h
theorem b_bnd2 {α β : Type} {a : α × β} {f : α → β → Sg} (h : P (f a.1 a.2)) : P (bnd2 a f) := h
theorem b_bnd2' {α β : Type} {a : α × β} {f : α → β → Int32 × Sg} (h : P (f a.1 a.2).2) : P (bnd2 a f).2 := h
end BEN
theorem b_4 {P : Sg → Prop} {l : Sg} {a : Int32} {b : Int32} {e : Int32} {f : Int32} (hB : Ben P) (h : P l) : P (f_4 a b e f l) := by
  unfold f_4
  (repeat' first | with_reducible exact h | with_reducible refine b_up hB ?_ ?_ | with_reducible refine b_ite ?_ ?_ | with_reducible refine b_ite2 ?_ ?_ | with_reducible refine b_bnd ?_ | with_reducible refine b_bnd' ?_ | with_reducible refine b_bnd2 ?_ | with_reducible refine b_bnd2' ?_) <;> rfl
theorem b_18 {P : Sg → Prop} {l : Sg} {c : Nat} (hB : Ben P) (h : P l) : P (f_18 c l) := by
  unfold f_18
  (repeat' first | with_reducible exact h | with_reducible refine b_up hB ?_ ?_ | with_reducible refine b_ite ?_ ?_ | with_reducible refine b_ite2 ?_ ?_ | with_reducible refine b_bnd ?_ | with_reducible refine b_bnd' ?_ | with_reducible refine b_bnd2 ?_ | with_reducible refine b_bnd2' ?_ | with_reducible refine b_4 hB ?_) <;> rfl
theorem b_19 {P : Sg → Prop} {l : Sg} {c : Nat} {t : Int32} (hB : Ben P) (h : P l) : P (f_19 c t l) := by
  unfold f_19
  (repeat' first | with_reducible exact h | with_reducible refine b_up hB ?_ ?_ | with_reducible refine b_ite ?_ ?_ | with_reducible refine b_ite2 ?_ ?_ | with_reducible refine b_bnd ?_ | with_reducible refine b_bnd' ?_ | with_reducible refine b_bnd2 ?_ | with_reducible refine b_bnd2' ?_ | with_reducible refine b_4 hB ?_ | with_reducible refine b_18 hB ?_) <;> rfl
theorem b_20 {P : Sg → Prop} {l : Sg} {c : Nat} {g : Int32} {t : Int32} (hB : Ben P) (h : P l) : P (f_20 c g t l) := by
  unfold f_20
  (repeat' first | with_reducible exact h | with_reducible refine b_up hB ?_ ?_ | with_reducible refine b_ite ?_ ?_ | with_reducible refine b_ite2 ?_ ?_ | with_reducible refine b_bnd ?_ | with_reducible refine b_bnd' ?_ | with_reducible refine b_bnd2 ?_ | with_reducible refine b_bnd2' ?_ | with_reducible refine b_4 hB ?_ | with_reducible refine b_18 hB ?_ | with_reducible refine b_19 hB ?_) <;> rfl
theorem b_22 {P : Sg → Prop} {l : Sg} {c : Nat} {x : Int32} (hB : Ben P) (h : P l) : P (f_22 c x l).2 := by
  unfold f_22
  (repeat' first | with_reducible exact h | with_reducible refine b_up hB ?_ ?_ | with_reducible refine b_ite ?_ ?_ | with_reducible refine b_ite2 ?_ ?_ | with_reducible refine b_bnd ?_ | with_reducible refine b_bnd' ?_ | with_reducible refine b_bnd2 ?_ | with_reducible refine b_bnd2' ?_ | with_reducible refine b_4 hB ?_ | with_reducible refine b_18 hB ?_ | with_reducible refine b_19 hB ?_ | with_reducible refine b_20 hB ?_) <;> rfl
theorem b_23 {P : Sg → Prop} {l : Sg} {c : Nat} (hB : Ben P) (h : P l) : P (f_23 c l).2 := by
  unfold f_23
  (repeat' first | with_reducible exact h | with_reducible refine b_up hB ?_ ?_ | with_reducible refine b_ite ?_ ?_ | with_reducible refine b_ite2 ?_ ?_ | with_reducible refine b_bnd ?_ | with_reducible refine b_bnd' ?_ | with_reducible refine b_bnd2 ?_ | with_reducible refine b_bnd2' ?_ | with_reducible refine b_4 hB ?_ | with_reducible refine b_18 hB ?_ | with_reducible refine b_19 hB ?_ | with_reducible refine b_20 hB ?_ | with_reducible refine b_22 hB ?_) <;> rfl
theorem b_93 {P : Sg → Prop} {l : Sg} {fr : Int32} {to : Int32} (hB : Ben P) (h : P l) : P (f_93 fr to l) := by
  unfold f_93
  (repeat' first | with_reducible exact h | with_reducible refine b_up hB ?_ ?_ | with_reducible refine b_ite ?_ ?_ | with_reducible refine b_ite2 ?_ ?_ | with_reducible refine b_bnd ?_ | with_reducible refine b_bnd' ?_ | with_reducible refine b_bnd2 ?_ | with_reducible refine b_bnd2' ?_ | with_reducible refine b_4 hB ?_ | with_reducible refine b_18 hB ?_ | with_reducible refine b_19 hB ?_ | with_reducible refine b_20 hB ?_ | with_reducible refine b_22 hB ?_ | with_reducible refine b_23 hB ?_) <;> rfl
theorem b_g181 {P : Sg → Prop} {v : Int32} (hB : Ben P) : ∀ (d j : Nat) (l : Sg), P l → P (g_181 v d j l) := by
  intro d
  induction d with
  | zero =>
    intro j l h
    rw [g_181]
    exact h
  | succ d ih =>
    intro j l h
    rw [g_181]
    exact ih _ _ (hB _ _ _ _ h rfl)
theorem b_g6 {P : Sg → Prop} (hB : Ben P) : ∀ (d j : Nat) (l : Sg), P l → P (g_6 d j l) := by
  intro d
  induction d with
  | zero =>
    intro j l h
    rw [g_6]
    (repeat' first | with_reducible exact h | with_reducible refine b_ite ?_ ?_)
  | succ d ih =>
    intro j l h
    rw [g_6]
    (repeat' first | with_reducible exact h | with_reducible refine b_ite ?_ ?_ | with_reducible refine ih _ _ ?_ | with_reducible refine b_up hB ?_ ?_) <;> rfl
theorem b_g5 {P : Sg → Prop} (hB : Ben P) : ∀ (d j q : Nat) (l : Sg), P l → P (g_5 d j q l) := by
  intro d
  induction d with
  | zero =>
    intro j q l h
    rw [g_5]
    (repeat' first | with_reducible exact h | with_reducible refine b_ite ?_ ?_ | with_reducible refine b_up hB ?_ ?_) <;> rfl
  | succ d ih =>
    intro j q l h
    rw [g_5]
    (repeat' first | with_reducible exact h | with_reducible refine b_ite ?_ ?_ | with_reducible refine ih _ _ _ ?_ | with_reducible refine b_up hB ?_ ?_) <;> rfl
theorem b_5 {P : Sg → Prop} {l : Sg} (hB : Ben P) (h : P l) : P (f_5 l) := by
  unfold f_5
  refine b_ite ?_ h
  refine b_bnd (b_g5 hB _ _ _ _ ?_)
  unfold f_6
  exact b_bnd (b_g6 hB _ _ _ (b_g181 hB _ _ _ h))
theorem b_87 {P : Sg → Prop} {l : Sg} {c : Nat} {m : Nat} (hB : Ben P) (h : P l) : P (f_87 c m l).2 := by
  unfold f_87
  (repeat' first | with_reducible exact h | with_reducible refine b_up hB ?_ ?_ | with_reducible refine b_ite ?_ ?_ | with_reducible refine b_ite2 ?_ ?_ | with_reducible refine b_bnd ?_ | with_reducible refine b_bnd' ?_ | with_reducible refine b_bnd2 ?_ | with_reducible refine b_bnd2' ?_ | with_reducible refine b_4 hB ?_ | with_reducible refine b_18 hB ?_ | with_reducible refine b_19 hB ?_ | with_reducible refine b_20 hB ?_ | with_reducible refine b_22 hB ?_ | with_reducible refine b_23 hB ?_ | with_reducible refine b_93 hB ?_) <;> rfl
theorem b_86 {P : Sg → Prop} {l : Sg} {c : Nat} {m : Nat} {g : Int32} (hB : Ben P) (h : P l) : P (f_86 c m g l).2 := by
  unfold f_86
  (repeat' first | with_reducible exact h | with_reducible refine b_up hB ?_ ?_ | with_reducible refine b_ite ?_ ?_ | with_reducible refine b_ite2 ?_ ?_ | with_reducible refine b_bnd ?_ | with_reducible refine b_bnd' ?_ | with_reducible refine b_bnd2 ?_ | with_reducible refine b_bnd2' ?_ | with_reducible refine b_4 hB ?_ | with_reducible refine b_18 hB ?_ | with_reducible refine b_19 hB ?_ | with_reducible refine b_20 hB ?_ | with_reducible refine b_22 hB ?_ | with_reducible refine b_23 hB ?_ | with_reducible refine b_93 hB ?_ | with_reducible refine b_87 hB ?_) <;> rfl
theorem b_85 {P : Sg → Prop} {l : Sg} {c : Nat} {g : Int32} (hB : Ben P) (h : P l) : P (f_85 c g l).2 := by
  unfold f_85
  (repeat' first | with_reducible exact h | with_reducible refine b_up hB ?_ ?_ | with_reducible refine b_ite ?_ ?_ | with_reducible refine b_ite2 ?_ ?_ | with_reducible refine b_bnd ?_ | with_reducible refine b_bnd' ?_ | with_reducible refine b_bnd2 ?_ | with_reducible refine b_bnd2' ?_ | with_reducible refine b_4 hB ?_ | with_reducible refine b_18 hB ?_ | with_reducible refine b_19 hB ?_ | with_reducible refine b_20 hB ?_ | with_reducible refine b_22 hB ?_ | with_reducible refine b_23 hB ?_ | with_reducible refine b_93 hB ?_ | with_reducible refine b_87 hB ?_ | with_reducible refine b_86 hB ?_) <;> rfl
theorem b_89 {P : Sg → Prop} {l : Sg} {c : Nat} (hB : Ben P) (h : P l) : P (f_89 c l).2 := by
  unfold f_89
  (repeat' first | with_reducible exact h | with_reducible refine b_up hB ?_ ?_ | with_reducible refine b_ite ?_ ?_ | with_reducible refine b_ite2 ?_ ?_ | with_reducible refine b_bnd ?_ | with_reducible refine b_bnd' ?_ | with_reducible refine b_bnd2 ?_ | with_reducible refine b_bnd2' ?_ | with_reducible refine b_4 hB ?_ | with_reducible refine b_18 hB ?_ | with_reducible refine b_19 hB ?_ | with_reducible refine b_20 hB ?_ | with_reducible refine b_22 hB ?_ | with_reducible refine b_23 hB ?_ | with_reducible refine b_93 hB ?_ | with_reducible refine b_87 hB ?_ | with_reducible refine b_86 hB ?_ | with_reducible refine b_85 hB ?_) <;> rfl
/-! ===== cells that an act on the call c leaves; bounds of what is written ===== -/
def cfgR (k : Nat) : Bool := (Nat.blt 292 k && Nat.blt k 309) || (k == 410 || (Nat.blt 430 k && Nat.blt k 470))
def fxB (c k j : Nat) : Bool := cfgR k || (k == 292 || ((k == 311 || (k == 320 || k == 313)) && !(j == c)))
def FX (c : Nat) (l0 l : Sg) : Prop := ∀ k j, fxB c k j = true → l k j = l0 k j
theorem FX_rf {c : Nat} {l : Sg} : FX c l l := fun _ _ _ => rfl
theorem FX_tr {c : Nat} {l0 l1 l2 : Sg} (h : FX c l0 l1) (h2 : FX c l1 l2) : FX c l0 l2 := fun k j q => (h2 k j q).trans (h k j q)
theorem FX_up {c : Nat} {l0 l : Sg} {F i : Nat} {v : Int32} (h : FX c l0 l) (hF : fxB c F i = false) : FX c l0 (up2 l F i v) := fun k j hk => by
  unfold up2
  rw [if_neg (by rintro ⟨rfl, rfl⟩; rw [hF] at hk; cases hk)]
  exact h k j hk
theorem ben_fx {F c i : Nat} (h : benR F = true) : fxB c F i = false := by
  unfold benR at h
  unfold fxB cfgR
  simp only [Bool.or_eq_true, Bool.and_eq_true, beq_iff_eq, Nat.ble_eq] at h
  have e : ∀ a b : Nat, a ≠ b → (a == b) = false := fun a b q => beq_eq_false_iff_ne.mpr q
  have t : ∀ a b : Nat, ¬ a < b → Nat.blt a b = false := fun a b q => by
    cases hb : Nat.blt a b
    · rfl
    · exact absurd (Nat.blt_eq.mp hb) q
  rw [e F 410 (by omega), e F 292 (by omega), e F 311 (by omega), e F 320 (by omega), e F 313 (by omega)]
  by_cases h1 : F < 309
  · exact absurd h (by omega)
  · rw [t F 309 h1]
    by_cases h2 : F < 470
    · rw [t 430 F (by omega)]
      simp
    · rw [t F 470 h2]
      simp
theorem FX_ben {c : Nat} {l0 : Sg} : Ben (FX c l0) := fun _ _ _ _ h hF => FX_up h (ben_fx hF)
def IV (l : Sg) : Prop := (∀ a, -1 ≤ l 331 a) ∧ (∀ a, 0 ≤ l 326 a) ∧ (∀ c, l 313 c ≤ 29) ∧ (∀ c, 0 ≤ l 410 c)
theorem IV_up {l : Sg} {F i : Nat} {v : Int32} (h : IV l) (h1 : F = 331 → -1 ≤ v) (h2 : F = 326 → 0 ≤ v) (h3 : F = 313 → v ≤ 29) (h4 : F ≠ 410) : IV (up2 l F i v) := by
  obtain ⟨a1, a2, a3, a4⟩ := h
  refine ⟨fun a => ?_, fun a => ?_, fun a => ?_, fun a => ?_⟩ <;> unfold up2 <;> split
  · rename_i q
    exact h1 q.1.symm
  · exact a1 a
  · rename_i q
    exact h2 q.1.symm
  · exact a2 a
  · rename_i q
    exact h3 q.1.symm
  · exact a3 a
  · rename_i q
    exact absurd q.1.symm h4
  · exact a4 a
theorem IV_ben : Ben IV := fun l F i v h hF => by
  have e : F ≠ 331 ∧ F ≠ 326 ∧ F ≠ 313 ∧ F ≠ 410 := by
    refine ⟨?_, ?_, ?_, ?_⟩ <;> rintro rfl <;> exact absurd hF (by decide)
  exact IV_up h (fun q => absurd q e.1) (fun q => absurd q e.2.1) (fun q => absurd q e.2.2.1) e.2.2.2
theorem IV_any {l : Sg} {F i : Nat} {v : Int32} (h : IV l) (hF : (F == 331 || (F == 326 || (F == 313 || F == 410))) = false) : IV (up2 l F i v) := by
  simp only [Bool.or_eq_false_iff, beq_eq_false_iff_ne] at hF
  exact IV_up h (fun q => absurd q hF.1) (fun q => absurd q hF.2.1) (fun q => absurd q hF.2.2.1) hF.2.2.2
/-- the desk a is not off -/
def DV (a : Nat) (l : Sg) : Prop := 1 ≤ l 326 a
theorem DV_up {a : Nat} {l : Sg} {F i : Nat} {v : Int32} (h : DV a l) (hv : F = 326 → 1 ≤ v) : DV a (up2 l F i v) := by
  unfold DV up2
  split
  · rename_i q
    exact hv q.1.symm
  · exact h
theorem DV_ben {a : Nat} : Ben (DV a) := fun l F i v h hF => DV_up h (fun q => by subst q; exact absurd hF (by decide))
theorem fx_c {c k : Nat} (h : (k == 311 || (k == 320 || k == 313)) = true) : fxB c k c = false := by
  simp only [Bool.or_eq_true, beq_iff_eq] at h
  unfold fxB
  rcases h with rfl | rfl | rfl <;> simp [cfgR] <;> rfl
