/-! ===== the law's small methods on memory as a number ===== -/
noncomputable def F_182 (n : Nat) (w a b c d e f : Int32) (l : Nat) : PN := (if w = (0 : Int32) then F_31 n a b c l else (if w = (1 : Int32) then F_32 n a l else (if w = (2 : Int32) then F_34 n a b c d l else (if w = (3 : Int32) then F_35 n a b c d e l else (if w = (4 : Int32) then F_36 n a b c d e f l else (if w = (5 : Int32) then F_37 n a b c l else (if w = (6 : Int32) then F_38 n a l else (if w = (7 : Int32) then F_39 n a b c d e f l else (if w = (8 : Int32) then F_40 n a b l else (if w = (9 : Int32) then F_41 n a l else F_42 n a b c l))))))))))
theorem t_182 (n : Nat) (w a b c d e f : Int32) (m9 : Nat) : f_182 n w a b c d e f (dec m9) = dP (F_182 n w a b c d e f m9) := by
  unfold f_182 F_182
  (simp only [dP_ite, t_31, t_32, t_34, t_35, t_36, t_37, t_38, t_39, t_40, t_41, t_42]) <;> (repeat' first | with_reducible rfl | refine ite_t9 ?_ ?_ ?_)
def holN (r : PN) : PN := match r.1 with
  | .inl v => (.inl (if v = 0 then 0 else 1), r.2)
  | .inr x => (.inr x, r.2)
theorem dP_hol {r : PN} : hol (dP r) = dP (holN r) := by
  obtain ⟨o, m⟩ := r
  cases o <;> rfl
noncomputable def F_186 (a b c d e : Int32) (l : Nat) : Int32 := if (R l (ad 958 60 311 a.toNatClampNeg)) = b then (if (R l (ad 1018 60 312 a.toNatClampNeg)) = c then (if (R l (ad 1078 60 313 a.toNatClampNeg)) = d then (if (R l (ad 1318 60 317 a.toNatClampNeg)) = e then 1 else 0) else 0) else 0) else 0
theorem t_186 {a b c d e : Int32} {m9 : Nat} : f_186 a b c d e (dec m9) = F_186 a b c d e m9 := by
  unfold f_186 F_186
  (simp only [dk_311, dk_312, dk_313, dk_317]) <;> (repeat' first | with_reducible rfl | refine ite_t9 ?_ ?_ ?_)
def nF (m : Nat) : Nat := (R m (ad 0 20 292 19)).toNatClampNeg
def zF (m : Nat) : Nat := (R m (ad 2614 1 470 0)).toNatClampNeg
def okM (m : Nat) : Bool := decide (R m (ad 0 20 292 19) = i32 (nF m)) && (Nat.ble (nF m) 60 && (decide (R m (ad 2614 1 470 0) = i32 (zF m)) && Nat.ble (zF m) 1024))
theorem okM_ci {m : Nat} (h : okM m = true) : nF m ≤ 60 ∧ CI (dec m) (nF m) := by
  unfold okM at h
  simp only [Bool.and_eq_true, decide_eq_true_eq, Nat.ble_eq] at h
  exact ⟨h.2.1, h.1, zF m, h.2.2.2, h.2.2.1⟩
def hhF (m : Nat) : Bool := (List.range 84).all (fun i => decide (R m (ad 34 84 295 i) = 0) || decide (R m (ad 34 84 295 i) = 1))
theorem hhF_ok {m : Nat} (h : hhF m = true) : ∀ i, i < 84 → dec m 295 i = 0 ∨ dec m 295 i = 1 := by
  intro i hi
  have h1 := List.all_eq_true.mp h i (List.mem_range.mpr hi)
  simp only [Bool.or_eq_true, decide_eq_true_eq] at h1
  exact h1
/-- many ticks at once while nothing goes on -/
def dq (m : Nat) : Bool := decide (R m (ad 2038 6 326 0) = 0) && (decide (R m (ad 2038 6 326 1) = 0) && (decide (R m (ad 2038 6 326 2) = 0) && (decide (R m (ad 2038 6 326 3) = 0) && (decide (R m (ad 2038 6 326 4) = 0) && decide (R m (ad 2038 6 326 5) = 0)))))
def qF (m n : Nat) : Bool := quietF m n && (dq m && decide (R m (ad 2614 1 470 0) < 512))
noncomputable def P_54 (n : Nat) (x : Int32) (m : Nat) : PN := bif qF m n && decide ((1 : Int32) ≤ x ∧ x ≤ (100 : Int32)) && decide ((R m (ad 0 20 292 0) + x) ≤ (20000 : Int32)) then (.inl (R m (ad 0 20 292 0) + x), Wm m (ad 0 20 292 0) (R m (ad 0 20 292 0) + x)) else F_54 n x m
section QUIET
variable {l : Sg} {n : Nat}
theorem q_88 (h : quiet l n) : ∀ d j, j + d = n → g_88 n d j l = l := by
  intro d
  induction d with
  | zero =>
    intro j _
    rw [g_88]
  | succ d ih =>
    intro j hj
    rw [g_88, h j (by omega)]
    rw [if_pos (show ¬ (5 : Int32) = 4 by decide), if_neg (show ¬ (5 : Int32) = 0 by decide), if_pos (show ¬ (5 : Int32) = 1 by decide), ih (j + 1) (by omega)]
    split <;> rfl
theorem q_94 (h : ∀ a, a < 6 → l 326 a = 0) : ∀ d j, j + d = 6 → g_94 d j l = l := by
  intro d
  induction d with
  | zero =>
    intro j _
    rw [g_94]
  | succ d ih =>
    intro j hj
    rw [g_94, h j (by omega), if_pos (show ¬ (0 : Int32) = 4 by decide), ih (j + 1) (by omega)]
theorem q_97 {s : Int32} (h : ∀ a, a < 6 → l 326 a = 0) : ∀ d j a b, j + d = 6 → g_97 s d j a b l = a := by
  intro d
  induction d with
  | zero =>
    intro j a b _
    rw [g_97]
  | succ d ih =>
    intro j a b hj
    rw [g_97, h j (by omega), if_pos (show ¬ (0 : Int32) = 1 by decide), ih (j + 1) a b (by omega)]
theorem q_95 (h : ∀ a, a < 6 → l 326 a = 0) (hz : l 470 0 < 512) : f_95 n l = l := by
  have h97 : f_97 n l = -1 := by
    unfold f_97
    exact q_97 h 6 0 _ _ (by omega)
  have h96 : f_96 n l = l := by
    unfold f_96
    rw [g_96, h97, if_neg (by decide)]
  unfold f_95
  rw [h96]
  show f_5 l = l
  unfold f_5
  rw [if_neg (fun q => absurd (Int32.lt_of_le_of_lt q hz) (Int32.lt_irrefl))]
theorem q_54 {u : Nat} : ∀ (d j : Nat) (l : Sg), quiet l n → (∀ a, a < 6 → l 326 a = 0) → l 470 0 < 512 → g_54 n u d j l = (.inl (l 292 0 + i32 d), up2 l 292 0 (l 292 0 + i32 d)) := by
  intro d
  induction d with
  | zero =>
    intro j l _ _ _
    rw [g_54]
    have e : l 292 0 + i32 0 = l 292 0 := Int32.add_zero _
    rw [e]
    congr 1
    funext a i
    unfold up2
    split
    · rename_i q
      rw [q.1, q.2]
    · rfl
  | succ d ih =>
    intro j l h1 h2 h3
    rw [g_54]
    have e1 : quiet (up2 l 292 0 (l 292 0 + 1)) n := fun k hk => by
      have := h1 k hk
      simpa [up2] using this
    have e2 : ∀ a, a < 6 → up2 l 292 0 (l 292 0 + 1) 326 a = 0 := fun a ha => by
      have := h2 a ha
      simpa [up2] using this
    have e3 : up2 l 292 0 (l 292 0 + 1) 470 0 < 512 := by simpa [up2] using h3
    show g_54 n u d (j + 1) (f_95 n (f_94 (f_88 n (up2 l 292 0 (l 292 0 + 1))))) = _
    unfold f_88 f_94
    rw [q_88 e1 n 0 (by omega), q_94 e2 6 0 (by omega), q_95 e2 e3, ih _ _ e1 e2 e3, up2_up2]
    have e4 : up2 l 292 0 (l 292 0 + 1) 292 0 = l 292 0 + 1 := by simp [up2]
    rw [e4, Int32.add_assoc, show (1 : Int32) + i32 d = i32 (d + 1) by rw [Int32.add_comm]; exact i32_add d 1]
end QUIET
theorem t_P54 {n : Nat} {x : Int32} {m : Nat} : f_54 n x (dec m) = dP (P_54 n x m) := by
  unfold P_54
  cases h : qF m n && decide ((1 : Int32) ≤ x ∧ x ≤ (100 : Int32)) && decide ((R m (ad 0 20 292 0) + x) ≤ (20000 : Int32))
  · exact t_54 n x m
  · simp only [cond_true]
    simp only [Bool.and_eq_true, decide_eq_true_eq] at h
    obtain ⟨⟨hq, h1⟩, h2⟩ := h
    unfold qF dq at hq
    simp only [Bool.and_eq_true, decide_eq_true_eq] at hq
    obtain ⟨q1, ⟨d0, d1, d2, d3, d4, d5⟩, q3⟩ := hq
    have hqu : quiet (dec m) n := by rw [qk]; exact q1
    have hd : ∀ a, a < 6 → dec m 326 a = 0 := fun a ha => match a, ha with
      | 0, _ => d0
      | 1, _ => d1
      | 2, _ => d2
      | 3, _ => d3
      | 4, _ => d4
      | 5, _ => d5
      | k + 6, h => absurd h (by omega)
    unfold f_54
    rw [if_pos h1, if_pos (show dec m 292 0 + x ≤ (20000 : Int32) from h2), q_54 _ _ _ hqu hd q3]
    have e : i32 x.toNatClampNeg = x := (rng_i32 (x := x) (b := 101) (by decide) (Int32.le_trans (by decide) h1.1) (Int32.lt_of_le_of_lt h1.2 (by decide))).2
    rw [e, ud_292]
    rfl
noncomputable def F_184 (n : Nat) (w a b c : Int32) (l : Nat) : PN := (if w = (0 : Int32) then F_33 n a b c l else (if w = (1 : Int32) then holN (F_43 n a (if b = 1 then 1 else 0) l) else (if w = (2 : Int32) then F_45 n a l else (if w = (3 : Int32) then F_46 n a b l else (if w = (4 : Int32) then F_47 n a l else (if w = (5 : Int32) then F_48 n a l else (if w = (6 : Int32) then F_49 n a b l else (if w = (7 : Int32) then F_50 n a l else (if w = (8 : Int32) then F_51 n a b l else (if w = (9 : Int32) then F_52 n a l else (if w = (10 : Int32) then F_53 n a b l else (if w = (11 : Int32) then P_54 n a l else (if w = (12 : Int32) then F_56 n a l else (if w = (13 : Int32) then F_57 n a l else (if w = (14 : Int32) then F_58 n a l else (if w = (15 : Int32) then F_59 n a l else (if w = (16 : Int32) then F_60 n a l else (if w = (17 : Int32) then F_61 n a l else (if w = (18 : Int32) then F_62 n a l else (if w = (19 : Int32) then F_63 n a l else (if w = (20 : Int32) then F_64 n a l else (if w = (21 : Int32) then F_65 n a b l else F_66 n a l))))))))))))))))))))))
theorem t_184 (n : Nat) (w a b c : Int32) (m9 : Nat) : f_184 n w a b c (dec m9) = dP (F_184 n w a b c m9) := by
  unfold f_184 F_184
  (simp only [dP_ite, dP_hol, t_33, t_43, t_45, t_46, t_47, t_48, t_49, t_50, t_51, t_52, t_53, t_P54, t_56, t_57, t_58, t_59, t_60, t_61, t_62, t_63, t_64, t_65, t_66]) <;> (repeat' first | with_reducible rfl | refine ite_t9 ?_ ?_ ?_)
def rN (r : PN) : Option (Option Value × Nat) := match r with
  | (.inl _, m) => some (none, m)
  | (.inr _, _) => none
def rP (r : PN) : Option (Option Value × Nat) := match r with
  | (.inl v, m) => some (some (.int v), m)
  | (.inr _, _) => none
def rT (r : PN) : Option (Option Value × Nat) := match r with
  | (.inl _, m) => some (some (.int 0), m)
  | (.inr x, m) => some (some (.int (exA x)), m)
def rA (r : PN) : Option (Option Value × Nat) := match r with
  | (.inl v, m) => some (some (.int v), m)
  | (.inr x, m) => some (some (.int (exA x)), m)
def PV (v : Option Value) (m : Nat) : MO → Sg → Prop := fun o z => o = .inl v ∧ z = dec m
theorem rN_ok {r : PN} {v : Option Value} {m : Nat} (h : rN r = some (v, m)) : Rk (Qn (PV v m)) (dP r) := by
  obtain ⟨o, m1⟩ := r
  cases o with
  | inl x =>
    cases h
    exact ⟨rfl, rfl⟩
  | inr x => cases h
theorem rP_ok {r : PN} {v : Option Value} {m : Nat} (h : rP r = some (v, m)) : Rk (Qp (PV v m)) (dP r) := by
  obtain ⟨o, m1⟩ := r
  cases o with
  | inl x =>
    cases h
    exact ⟨rfl, rfl⟩
  | inr x => cases h
theorem rT_ok {r : PN} {v : Option Value} {m : Nat} (h : rT r = some (v, m)) : Rk (Qb (PV v m)) (wTe (dP r)) := by
  obtain ⟨o, m1⟩ := r
  cases o with
  | inl x =>
    cases h
    exact ⟨rfl, rfl⟩
  | inr x =>
    cases h
    exact ⟨rfl, rfl⟩
theorem rA_ok {r : PN} {v : Option Value} {m : Nat} (h : rA r = some (v, m)) : Rk (Qb (PV v m)) (wAc (dP r)) := by
  obtain ⟨o, m1⟩ := r
  cases o with
  | inl x =>
    cases h
    exact ⟨rfl, rfl⟩
  | inr x =>
    cases h
    exact ⟨rfl, rfl⟩
def a0 {β : Type} (xs : List Int32) (ff : Option β) : Option β := match xs with
  | [] => ff
  | _ => none
theorem a0_ok {β : Type} {xs : List Int32} {ff : Option β} {r : β} (h : a0 xs ff = some r) : xs = [] ∧ ff = some r := by
  unfold a0 at h
  split at h
  · exact ⟨rfl, h⟩
  · cases h
def a1 {β : Type} (xs : List Int32) (ff : Int32 → Option β) : Option β := match xs with
  | [a] => ff a
  | _ => none
theorem a1_ok {β : Type} {xs : List Int32} {ff : Int32 → Option β} {r : β} (h : a1 xs ff = some r) : ∃ a, xs = [a] ∧ ff a = some r := by
  unfold a1 at h
  split at h
  · exact ⟨_, rfl, h⟩
  · cases h
def a2 {β : Type} (xs : List Int32) (ff : Int32 → Int32 → Option β) : Option β := match xs with
  | [a, b] => ff a b
  | _ => none
theorem a2_ok {β : Type} {xs : List Int32} {ff : Int32 → Int32 → Option β} {r : β} (h : a2 xs ff = some r) : ∃ a b, xs = [a, b] ∧ ff a b = some r := by
  unfold a2 at h
  split at h
  · exact ⟨_, _, rfl, h⟩
  · cases h
def a3 {β : Type} (xs : List Int32) (ff : Int32 → Int32 → Int32 → Option β) : Option β := match xs with
  | [a, b, c] => ff a b c
  | _ => none
theorem a3_ok {β : Type} {xs : List Int32} {ff : Int32 → Int32 → Int32 → Option β} {r : β} (h : a3 xs ff = some r) : ∃ a b c, xs = [a, b, c] ∧ ff a b c = some r := by
  unfold a3 at h
  split at h
  · exact ⟨_, _, _, rfl, h⟩
  · cases h
def a4 {β : Type} (xs : List Int32) (ff : Int32 → Int32 → Int32 → Int32 → Option β) : Option β := match xs with
  | [a, b, c, d] => ff a b c d
  | _ => none
theorem a4_ok {β : Type} {xs : List Int32} {ff : Int32 → Int32 → Int32 → Int32 → Option β} {r : β} (h : a4 xs ff = some r) : ∃ a b c d, xs = [a, b, c, d] ∧ ff a b c d = some r := by
  unfold a4 at h
  split at h
  · exact ⟨_, _, _, _, rfl, h⟩
  · cases h
def a5 {β : Type} (xs : List Int32) (ff : Int32 → Int32 → Int32 → Int32 → Int32 → Option β) : Option β := match xs with
  | [a, b, c, d, e] => ff a b c d e
  | _ => none
theorem a5_ok {β : Type} {xs : List Int32} {ff : Int32 → Int32 → Int32 → Int32 → Int32 → Option β} {r : β} (h : a5 xs ff = some r) : ∃ a b c d e, xs = [a, b, c, d, e] ∧ ff a b c d e = some r := by
  unfold a5 at h
  split at h
  · exact ⟨_, _, _, _, _, rfl, h⟩
  · cases h
def a6 {β : Type} (xs : List Int32) (ff : Int32 → Int32 → Int32 → Int32 → Int32 → Int32 → Option β) : Option β := match xs with
  | [a, b, c, d, e, f] => ff a b c d e f
  | _ => none
theorem a6_ok {β : Type} {xs : List Int32} {ff : Int32 → Int32 → Int32 → Int32 → Int32 → Int32 → Option β} {r : β} (h : a6 xs ff = some r) : ∃ a b c d e f, xs = [a, b, c, d, e, f] ∧ ff a b c d e f = some r := by
  unfold a6 at h
  split at h
  · exact ⟨_, _, _, _, _, _, rfl, h⟩
  · cases h
def a7 {β : Type} (xs : List Int32) (ff : Int32 → Int32 → Int32 → Int32 → Int32 → Int32 → Int32 → Option β) : Option β := match xs with
  | [a, b, c, d, e, f, g] => ff a b c d e f g
  | _ => none
theorem a7_ok {β : Type} {xs : List Int32} {ff : Int32 → Int32 → Int32 → Int32 → Int32 → Int32 → Int32 → Option β} {r : β} (h : a7 xs ff = some r) : ∃ a b c d e f g, xs = [a, b, c, d, e, f, g] ∧ ff a b c d e f g = some r := by
  unfold a7 at h
  split at h
  · exact ⟨_, _, _, _, _, _, _, rfl, h⟩
  · cases h
