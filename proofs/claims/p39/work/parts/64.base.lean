/-! ===== rules for specs that are written with their proofs ===== -/
abbrev quiet (z : Sg) (n : Nat) : Prop := ∀ k, k < n → z 311 k = 5
def Rk {T : Type} (Q : T → Prop) (t : T) : Prop := Q t
def Qv (P : MO → Sg → Prop) (l : Sg) : Int32 → Prop := fun v => P (.inl (some (.int v))) l
def Qm (P : MO → Sg → Prop) : Sg → Prop := fun l => P (.inl none) l
def Qb (P : MO → Sg → Prop) : Int32 × Sg → Prop := fun r => P (.inl (some (.int r.1))) r.2
abbrev PO : Type := (Int32 ⊕ Nat) × Sg
def Qp (P : MO → Sg → Prop) : PO → Prop := fun r => match r.1 with
  | .inl v => P (.inl (some (.int v))) r.2
  | .inr x => P (.inr x) r.2
def Qn (P : MO → Sg → Prop) : PO → Prop := fun r => match r.1 with
  | .inl _ => P (.inl none) r.2
  | .inr x => P (.inr x) r.2
def bnd {α β : Type} (a : α) (f : α → β) : β := f a
def bnd2 {α β γ : Type} (a : α × β) (f : α → β → γ) : γ := f a.1 a.2
theorem ite_t {T : Type} {Q : T → Prop} {c : Prop} [Decidable c] {a b : T} (h : c) (k : Rk Q (if c then a else b)) : Rk Q a := by rwa [if_pos h] at k
theorem ite_f {T : Type} {Q : T → Prop} {c : Prop} [Decidable c] {a b : T} (h : ¬ c) (k : Rk Q (if c then a else b)) : Rk Q b := by rwa [if_neg h] at k
theorem bnd_i {T α : Type} {Q : T → Prop} {a : α} {f : α → T} (k : Rk Q (bnd a f)) : Rk Q (f a) := k
theorem bnd2_i {T α β : Type} {Q : T → Prop} {a : α × β} {f : α → β → T} (k : Rk Q (bnd2 a f)) : Rk Q (f a.1 a.2) := k
/-- what a run of the class needs: the number of calls, a journal within its room -/
def CI (l : Sg) (n : Nat) : Prop := l 292 19 = i32 n ∧ ∃ s, s ≤ 1024 ∧ l 470 0 = i32 s
def frC (F : Nat) : Bool := !(F == 292) && !(F == 470)
theorem CI_up {l : Sg} {n F i : Nat} {v : Int32} (h : CI l n) (hF : frC F = true) : CI (up2 l F i v) n := by
  unfold frC at hF
  simp only [Bool.and_eq_true, Bool.not_eq_true', beq_eq_false_iff_ne, ne_eq] at hF
  have e : ∀ G j, G ≠ F → up2 l F i v G j = l G j := fun G j hG => by unfold up2; rw [if_neg (fun q => hG q.1)]
  obtain ⟨h1, s, h2, h3⟩ := h
  exact ⟨by rw [e _ _ (fun q => hF.1 q.symm)]; exact h1, s, h2, by rw [e _ _ (fun q => hF.2 q.symm)]; exact h3⟩
theorem CI_now {l : Sg} {n : Nat} {v : Int32} (h : CI l n) : CI (up2 l 292 0 v) n := by
  obtain ⟨h1, s, h2, h3⟩ := h
  exact ⟨by simpa [up2] using h1, s, h2, by simpa [up2] using h3⟩
theorem CI_cnt {l : Sg} {n : Nat} (h : CI l n) : CI (up2 l 292 19 (i32 (n + 1))) (n + 1) := by
  obtain ⟨h1, s, h2, h3⟩ := h
  exact ⟨by simp [up2], s, h2, by simpa [up2] using h3⟩
theorem CI_sz {l : Sg} {n s : Nat} (h : CI l n) (hs : s ≤ 1024) : CI (up2 l 470 0 (i32 s)) n := by
  obtain ⟨h1, _⟩ := h
  exact ⟨by simpa [up2] using h1, s, hs, by simp [up2]⟩
theorem CI_ite {c : Prop} [Decidable c] {a b : Sg} {n : Nat} (ha : CI a n) (hb : CI b n) : CI (if c then a else b) n := by split <;> assumption
theorem CI_ite2 {c : Prop} [Decidable c] {a b : Int32 × Sg} {n : Nat} (ha : CI a.2 n) (hb : CI b.2 n) : CI (if c then a else b).2 n := by split <;> assumption
theorem CI_ite3 {c : Prop} [Decidable c] {a b : PO} {n : Nat} (ha : CI a.2 n) (hb : CI b.2 n) : CI (if c then a else b).2 n := by split <;> assumption
theorem CI_bnd {α : Type} {a : α} {f : α → Sg} {n : Nat} (h : CI (f a) n) : CI (bnd a f) n := h
theorem CI_bnd' {α : Type} {a : α} {f : α → Int32 × Sg} {n : Nat} (h : CI (f a).2 n) : CI (bnd a f).2 n := h
theorem CI_bnd3 {α : Type} {a : α} {f : α → PO} {n : Nat} (h : CI (f a).2 n) : CI (bnd a f).2 n := h
theorem CI_bnd2 {α β : Type} {a : α × β} {f : α → β → Sg} {n : Nat} (h : CI (f a.1 a.2) n) : CI (bnd2 a f) n := h
theorem CI_bnd2' {α β : Type} {a : α × β} {f : α → β → Int32 × Sg} {n : Nat} (h : CI (f a.1 a.2).2 n) : CI (bnd2 a f).2 n := h
theorem CI_bnd23 {α β : Type} {a : α × β} {f : α → β → PO} {n : Nat} (h : CI (f a.1 a.2).2 n) : CI (bnd2 a f).2 n := h
theorem CI_szn {l : Sg} {n : Nat} (h : CI l n) (h2 : ¬ 1024 ≤ l 470 0) : (l 470 0).toNatClampNeg < 1024 ∧ i32 (l 470 0).toNatClampNeg = l 470 0 := by
  obtain ⟨_, s, h3, h4⟩ := h
  rw [h4, i32_cl (by omega)]
  rw [h4] at h2
  refine ⟨?_, rfl⟩
  by_cases q : s < 1024
  · exact q
  · exact absurd ((i32_le (a := 1024) (b := s) (by decide) (by omega)).mpr (by omega)) h2
theorem rng_i32 {x : Int32} {b : Nat} (hb : b < 2147483648) (h0 : 0 ≤ x) (h1 : x < i32 b) : x.toNatClampNeg < b ∧ i32 x.toNatClampNeg = x := by
  obtain ⟨m, h2, rfl⟩ := i32_of (n := b) hb h0 (Int32.le_of_lt h1)
  rw [i32_cl (by omega)]
  exact ⟨(i32_lt (by omega) hb).mp h1, rfl⟩
theorem isN_lt {x : Int32} (h : isN x) : x.toNatClampNeg < 30 ∧ i32 x.toNatClampNeg = x := rng_i32 (b := 30) (by decide) h.1 (by
  have := h.2
  rw [Int32.le_iff_toInt_le] at this
  rw [Int32.lt_iff_toInt_lt]
  have e : (29 : Int32).toInt = 29 := rfl
  have e2 : (i32 30).toInt = 30 := rfl
  omega)
abbrev isA (x : Int32) : Prop := 0 ≤ x ∧ x < 6
abbrev isCl (n : Nat) (x : Int32) : Prop := 0 ≤ x ∧ x < i32 n
section ZE
variable {σ : Bool} {mi rc rs pc nx d : Nat} {ml : ML} {st rest : List Value} {z : Sg} {P : MO → Sg → Prop} {ts : List (Int32 × Nat)}
theorem zIalE {k n F I : Nat} {v x : Int32} (hx : i32 n = x) (hE : mEnt mi pc = some (.iaload, nx, ts, d)) (hi : IsC σ k 100 n F I) (hv : z F I = v) (kk : Ws σ mi rc rs nx ml (.int v :: rest) z P) : Ws σ mi rc rs pc ml (.int x :: .ref k :: rest) z P := by
  subst hx
  exact zIal hE hi hv kk
theorem zZalE {k n F I : Nat} {v x : Int32} (hx : i32 n = x) (hE : mEnt mi pc = some (.baload, nx, ts, d)) (hi : IsC σ k 101 n F I) (hv : z F I = v) (kk : Ws σ mi rc rs nx ml (.int v :: rest) z P) : Ws σ mi rc rs pc ml (.int x :: .ref k :: rest) z P := by
  subst hx
  exact zZal hE hi hv kk
theorem zAalE {k n t r : Nat} {x : Int32} (hx : i32 n = x) (hE : mEnt mi pc = some (.aaload, nx, ts, d)) (ht : tyAt t = true) (hi : IsR k t n r) (kk : Ws σ mi rc rs nx ml (.ref r :: rest) z P) : Ws σ mi rc rs pc ml (.int x :: .ref k :: rest) z P := by
  subst hx
  exact zAal hE ht hi kk
theorem zIasE {k n F I : Nat} {x y : Int32} (hx : i32 n = y) (hE : mEnt mi pc = some (.iastore, nx, ts, d)) (hi : IsC σ k 100 n F I) (kk : Ws σ mi rc rs nx ml rest (up2 z F I x) P) : Ws σ mi rc rs pc ml (.int x :: .int y :: .ref k :: rest) z P := by
  subst hx
  exact zIas hE hi kk
theorem zZasE {k n F I : Nat} {x y : Int32} (hx : i32 n = y) (hE : mEnt mi pc = some (.bastore, nx, ts, d)) (hi : IsC σ k 101 n F I) (hv : x = 0 ∨ x = 1) (kk : Ws σ mi rc rs nx ml rest (up2 z F I x) P) : Ws σ mi rc rs pc ml (.int x :: .int y :: .ref k :: rest) z P := by
  subst hx
  exact zZas hE hi hv kk
theorem wLen {k L : Nat} {g : Sg} {Q : MO → Sg → Prop} (hE : mEnt mi pc = some (.arraylength, nx, ts, d)) (h1 : k < 292) (h2 : tagK k = 100) (h3 : lenK k = L) (kk : Wp mi rc rs nx ml (.int (i32 L) :: rest) g Q) : Wp mi rc rs pc ml (.ref k :: rest) g Q := by
  refine wH hE rfl ?_ kk
  simp only [stepH, sLen, heapOf_at h1]
  unfold cellK
  simp only [h2, beq_self_eq_true, cond_true, List.length_map, List.length_range, h3]
  rfl
theorem zLen {k L : Nat} (hE : mEnt mi pc = some (.arraylength, nx, ts, d)) (h1 : k < 292) (h2 : tagK k = 100) (h3 : lenK k = L) (kk : Ws σ mi rc rs nx ml (.int (i32 L) :: rest) z P) : Ws σ mi rc rs pc ml (.ref k :: rest) z P := fun w => wLen hE h1 h2 h3 (kk w)
/-- a call in a method whose handlers answer a number -/
theorem wCH {mj : Nat} {E : ME} {g : Sg} {Q : MO → Sg → Prop} {as : List Value} (hE : mEnt mi pc = some E) (hp : stepP (mNL mi) E ml st = none) (hh : stepH mi false rc rs E st (heapOf g) = none) (hc : stepC (mCls mi) E st (heapOf g) = some (mj, as, rest)) (hr : rmOk mi mj rc rs = true) (hm : (mHh mi).isEmpty = false) (ha : (mHh mi).all (fun r => Nat.ble r.1 pc && Nat.blt pc r.2.1) = true)
    (k : Ex mj as g (fun o g1 => match o with | .inl v => Wp mi (rc - mMc mj) (rs - mMs mj) E.2.1 ml (v.toList ++ rest) g1 Q | .inr x => ∃ v, lk2 hanL mi x = some v ∧ Q (.inl (some (.int v.2.2.2.1))) g1)) : Wp mi rc rs pc ml st g Q := by
  obtain ⟨n, o, g1, h1, h2⟩ := k
  cases o with
  | inl v =>
    obtain ⟨n2, o2, g2, h3, h4⟩ := h2
    refine ⟨(n + n2) + 1, o2, g2, ?_, h4⟩
    simp only [run, hE, hp, hh, hc, hr, cond_true]
    rw [run_le h1 (Nat.le_add_right n n2)]
    exact run_le h3 (Nat.le_add_left n2 n)
  | inr x =>
    obtain ⟨v, h3, h4⟩ := h2
    refine ⟨n + 1, _, g1, ?_, h4⟩
    simp only [run, hE, hp, hh, hc, hr, cond_true]
    rw [h1]
    cases hl : mHh mi with
    | nil => rw [hl] at hm; exact absurd hm (by decide)
    | cons a r =>
      rw [hl] at ha
      simp only [h3, ha, Bool.not_false, Bool.true_and, cond_true]
def KcH (mi rc rs nx : Nat) (ml : ML) (rest : List Value) (P : MO → Sg → Prop) : MO → Sg → Prop := fun o z => match o with
  | .inl v => Ws false mi rc rs nx ml (v.toList ++ rest) z P
  | .inr x => ∃ v, lk2 hanL mi x = some v ∧ P (.inl (some (.int v.2.2.2.1))) z
theorem zCvH {i mj kd k n : Nat} {li : Nat × List Nat} {as : List Value} (hE : mEnt mi pc = some (.invokevirtual i, nx, ts, d)) (hf : lk2 calL (mCls mi) i = some ((mj, kd), li)) (hn : mNA mj = n + 1) (hk : st[n]? = some (.ref k)) (hk3 : k < 292) (htg : tagK k = mCls mj)
    (hb : ((kd % 3 == 1 && Nat.ble (mNA mj) st.length) && ((kd == 0 || (mHh mj).isEmpty) && (Nat.ble (mNA mj) (mNL mj) && ((st.take (mNA mj)).all (fun v => v.category == 1) && Nat.ble ((st.drop (mNA mj)).map fun v => v.category).sum 8)))) = true)
    (ha : (st.take (mNA mj)).reverse = as) (hr : st.drop (mNA mj) = rest) (hrm : rmOk mi mj rc rs = true) (hm : (mHh mi).isEmpty = false) (hal : (mHh mi).all (fun r => Nat.ble r.1 pc && Nat.blt pc r.2.1) = true)
    (k : Es false mj as z (KcH mi (rc - mMc mj) (rs - mMs mj) nx ml rest P)) : Ws false mi rc rs pc ml st z P := by
  subst ha
  subst hr
  intro w
  have hrcv : rcv (mNA mj) st (heapOf (GG false z w)) (mCls mj) = true := by
    rw [hn]
    simp only [rcv, hk]
    rw [heapOf_at hk3]
    exact beq_iff_eq.mpr htg
  refine wCH hE rfl rfl (callP_s hf (Or.inr hrcv) hb) hrm hm hal (Wp.imp (k w) ?_)
  rintro o g ⟨z', rfl, h2⟩
  cases o with
  | inl v => exact h2 w
  | inr x =>
    obtain ⟨v, h3, h4⟩ := h2
    exact ⟨v, h3, z', rfl, h4⟩
end ZE
theorem rng_le {x : Int32} {b : Nat} (hb : b < 2147483647) (h0 : 0 ≤ x) (h1 : x ≤ i32 b) : x.toNatClampNeg < b + 1 ∧ i32 x.toNatClampNeg = x := by
  obtain ⟨m, h2, rfl⟩ := i32_of (n := b) (by omega) h0 h1
  rw [i32_cl (by omega)]
  exact ⟨by omega, rfl⟩
theorem i32_s1 {x : Int32} {n : Nat} (h : i32 n = x) : i32 (n + 1) = x + 1 := by
  subst h
  exact (i32_add n 1).symm
