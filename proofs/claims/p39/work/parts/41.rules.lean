/-! ===== the rules by instruction ===== -/
/-- several plain steps at once -/
def pures (kl : List (Nat × ME)) (nL : Nat) : Nat → Nat × ML × List Value → Option (Nat × ML × List Value)
  | 0, c => some c
  | n + 1, c => match lk kl c.1 with
    | none => none
    | some E => match stepP nL E c.2.1 c.2.2 with
      | none => none
      | some c1 => pures kl nL n c1
def IsI (k t j : Nat) : Prop := k < 292 ∧ tagK k = t ∧ j < lenK k ∧ refK k j = none ∧ t ≠ 102
def IsR (k t j r : Nat) : Prop := k < 292 ∧ tagK k = t ∧ j < lenK k ∧ refK k j = some r
section RULES
variable {mi rc rs pc nx d : Nat} {ml : ML} {st rest : List Value} {g : Sg} {Q : MO → Sg → Prop} {ts : List (Int32 × Nat)}
theorem wPs {kl : List (Nat × ME)} {nL pc1 : Nat} {l1 : ML} {st1 : List Value} (n : Nat) (hk : codeT mi = kl) (hn : mNL mi = nL) (h : pures kl nL n (pc, ml, st) = some (pc1, l1, st1)) (k : Wp mi rc rs pc1 l1 st1 g Q) : Wp mi rc rs pc ml st g Q := by
  subst hk
  subst hn
  induction n generalizing pc ml st with
  | zero => cases h; exact k
  | succ n ih =>
    simp only [pures] at h
    split at h
    · cases h
    · rename_i E hE
      split at h
      · cases h
      · rename_i c1 hc
        obtain ⟨a, b, c⟩ := c1
        exact wP hE hc (ih h)
theorem wGetI {i k ci j ty wi : Nat} {fin : Bool} (hE : mEnt mi pc = some (.getfield i, nx, ts, d)) (hf : lk2 fldL (mCls mi) i = some ((ci, j, ty, fin), wi)) (hi : IsI k ci j) (kk : Wp mi rc rs nx ml (.int (g k j) :: rest) g Q) : Wp mi rc rs pc ml (.ref k :: rest) g Q := by
  obtain ⟨h1, h2, h3, h4, h5⟩ := hi
  refine wH hE rfl ?_ kk
  simp only [stepH, sGet, hf]
  rw [gF_h h1 h2 h3, valK_int h4 (by rw [h2]; exact h5)]
theorem wGetR {i k ci j r ty wi : Nat} {fin : Bool} (hE : mEnt mi pc = some (.getfield i, nx, ts, d)) (hf : lk2 fldL (mCls mi) i = some ((ci, j, ty, fin), wi)) (hi : IsR k ci j r) (kk : Wp mi rc rs nx ml (.ref r :: rest) g Q) : Wp mi rc rs pc ml (.ref k :: rest) g Q := by
  obtain ⟨h1, h2, h3, h4⟩ := hi
  refine wH hE rfl ?_ kk
  simp only [stepH, sGet, hf]
  rw [gF_h h1 h2 h3, valK_ref h4]
theorem wPutI {i k ci j ty wi : Nat} {x : Int32} (hE : mEnt mi pc = some (.putfield i, nx, ts, d)) (hf : lk2 fldL (mCls mi) i = some ((ci, j, ty, false), wi)) (hi : IsI k ci j) (hv : okV ty (.int x) = true) (kk : Wp mi rc rs nx ml rest (up2 g k j x) Q) : Wp mi rc rs pc ml (.int x :: .ref k :: rest) g Q := by
  obtain ⟨h1, h2, h3, h4, h5⟩ := hi
  refine wH hE rfl ?_ kk
  simp only [stepH, sPut, hf, hv, Bool.not_false, Bool.true_or, Bool.and_self, cond_true]
  rw [pF_h h1 h2 h3 h4 h5]
theorem gA_h {k t n : Nat} {i : Int32} (h0 : ¬ i < 0) (hn : i.toNatClampNeg = n) (h1 : k < 292) (h2 : tagK k = t) (h3 : n < lenK k) : gA (heapOf g) k t i = some (valK g k n) := by
  unfold gA
  rw [if_neg h0, hn]
  exact gF_h h1 h2 h3
theorem wIal {k n : Nat} {i : Int32} (hE : mEnt mi pc = some (.iaload, nx, ts, d)) (h0 : ¬ i < 0) (hn : i.toNatClampNeg = n) (hi : IsI k 100 n) (kk : Wp mi rc rs nx ml (.int (g k n) :: rest) g Q) : Wp mi rc rs pc ml (.int i :: .ref k :: rest) g Q := by
  obtain ⟨h1, h2, h3, h4, h5⟩ := hi
  refine wH hE rfl ?_ kk
  simp only [stepH, sIal]
  rw [gA_h h0 hn h1 h2 h3, valK_int h4 (by rw [h2]; exact h5)]
theorem wZal {k n : Nat} {i : Int32} (hE : mEnt mi pc = some (.baload, nx, ts, d)) (h0 : ¬ i < 0) (hn : i.toNatClampNeg = n) (hi : IsI k 101 n) (kk : Wp mi rc rs nx ml (.int (g k n) :: rest) g Q) : Wp mi rc rs pc ml (.int i :: .ref k :: rest) g Q := by
  obtain ⟨h1, h2, h3, h4, h5⟩ := hi
  refine wH hE rfl ?_ kk
  simp only [stepH, sZal]
  rw [gA_h h0 hn h1 h2 h3, valK_int h4 (by rw [h2]; exact h5)]
theorem wAal {k n t r : Nat} {i : Int32} (hE : mEnt mi pc = some (.aaload, nx, ts, d)) (h0 : ¬ i < 0) (hn : i.toNatClampNeg = n) (ht : tyAt t = true) (hi : IsR k t n r) (kk : Wp mi rc rs nx ml (.ref r :: rest) g Q) : Wp mi rc rs pc ml (.int i :: .ref k :: rest) g Q := by
  obtain ⟨h1, h2, h3, h4⟩ := hi
  refine wH hE rfl ?_ kk
  have e : gT (heapOf g) k = t := by unfold gT; rw [heapOf_at h1]; exact h2
  simp only [stepH, sAal, e, ht, cond_true]
  rw [gA_h h0 hn h1 h2 h3, valK_ref h4]
theorem wIas {k n : Nat} {i x : Int32} (hE : mEnt mi pc = some (.iastore, nx, ts, d)) (h0 : ¬ i < 0) (hn : i.toNatClampNeg = n) (hi : IsI k 100 n) (kk : Wp mi rc rs nx ml rest (up2 g k n x) Q) : Wp mi rc rs pc ml (.int x :: .int i :: .ref k :: rest) g Q := by
  obtain ⟨h1, h2, h3, h4, h5⟩ := hi
  refine wH hE rfl ?_ kk
  simp only [stepH, sIas, pA]
  rw [if_neg h0, hn, pF_h h1 h2 h3 h4 h5]
theorem wZas {k n : Nat} {i x : Int32} (hE : mEnt mi pc = some (.bastore, nx, ts, d)) (h0 : ¬ i < 0) (hn : i.toNatClampNeg = n) (hi : IsI k 101 n) (hv : x = 0 ∨ x = 1) (kk : Wp mi rc rs nx ml rest (up2 g k n x) Q) : Wp mi rc rs pc ml (.int x :: .int i :: .ref k :: rest) g Q := by
  obtain ⟨h1, h2, h3, h4, h5⟩ := hi
  refine wH hE rfl ?_ kk
  have hb : (x == 0 || x == 1) = true := by rcases hv with rfl | rfl <;> rfl
  simp only [stepH, sZas, pA, cond_false, hb, cond_true]
  rw [if_neg h0, hn, pF_h h1 h2 h3 h4 h5]
theorem wLdc {i : Nat} {v : Int32} {wi : Nat} (hE : mEnt mi pc = some (.ldc i, nx, ts, d)) (hf : lk2 ldcL (mCls mi) i = some (v, wi)) (kk : Wp mi rc rs nx ml (.int v :: st) g Q) : Wp mi rc rs pc ml st g Q := by
  refine wH hE rfl ?_ kk
  simp only [stepH, sLdc, hf]
theorem wLdcw {i : Nat} {v : Int32} {wi : Nat} (hE : mEnt mi pc = some (.ldc_w i, nx, ts, d)) (hf : lk2 ldcL (mCls mi) i = some (v, wi)) (kk : Wp mi rc rs nx ml (.int v :: st) g Q) : Wp mi rc rs pc ml st g Q := by
  refine wH hE rfl ?_ kk
  simp only [stepH, sLdc, hf]
/-- a branch: by the condition -/
theorem wIfe {x : Int32} {off : Int} (hE : mEnt mi pc = some (.ifCond .eq off, nx, ts, d)) (kt : x = 0 → Wp mi rc rs d ml rest g Q) (kf : ¬ x = 0 → Wp mi rc rs nx ml rest g Q) : Wp mi rc rs pc ml (.int x :: rest) g Q := by
  by_cases h : x = 0
  · exact wP hE (by simp only [stepP, icm, decide_eq_true h, cond_true]) (kt h)
  · exact wP hE (by simp only [stepP, icm, decide_eq_false h, cond_false]) (kf h)
theorem wIfn {x : Int32} {off : Int} (hE : mEnt mi pc = some (.ifCond .ne off, nx, ts, d)) (kt : ¬ x = 0 → Wp mi rc rs d ml rest g Q) (kf : x = 0 → Wp mi rc rs nx ml rest g Q) : Wp mi rc rs pc ml (.int x :: rest) g Q := by
  by_cases h : x = 0
  · exact wP hE (by simp only [stepP, icm, decide_eq_true h, Bool.not_true, cond_false]) (kf h)
  · exact wP hE (by simp only [stepP, icm, decide_eq_false h, Bool.not_false, cond_true]) (kt h)
theorem wIflt {x : Int32} {off : Int} (hE : mEnt mi pc = some (.ifCond .lt off, nx, ts, d)) (kt : x < 0 → Wp mi rc rs d ml rest g Q) (kf : ¬ x < 0 → Wp mi rc rs nx ml rest g Q) : Wp mi rc rs pc ml (.int x :: rest) g Q := by
  by_cases h : x < 0
  · exact wP hE (by simp only [stepP, icm, decide_eq_true h, cond_true]) (kt h)
  · exact wP hE (by simp only [stepP, icm, decide_eq_false h, cond_false]) (kf h)
theorem wIfge {x : Int32} {off : Int} (hE : mEnt mi pc = some (.ifCond .ge off, nx, ts, d)) (kt : 0 ≤ x → Wp mi rc rs d ml rest g Q) (kf : ¬ 0 ≤ x → Wp mi rc rs nx ml rest g Q) : Wp mi rc rs pc ml (.int x :: rest) g Q := by
  by_cases h : 0 ≤ x
  · exact wP hE (by simp only [stepP, icm, decide_eq_true h, cond_true]) (kt h)
  · exact wP hE (by simp only [stepP, icm, decide_eq_false h, cond_false]) (kf h)
theorem wIfgt {x : Int32} {off : Int} (hE : mEnt mi pc = some (.ifCond .gt off, nx, ts, d)) (kt : 0 < x → Wp mi rc rs d ml rest g Q) (kf : ¬ 0 < x → Wp mi rc rs nx ml rest g Q) : Wp mi rc rs pc ml (.int x :: rest) g Q := by
  by_cases h : 0 < x
  · exact wP hE (by simp only [stepP, icm, decide_eq_true h, cond_true]) (kt h)
  · exact wP hE (by simp only [stepP, icm, decide_eq_false h, cond_false]) (kf h)
theorem wIfle {x : Int32} {off : Int} (hE : mEnt mi pc = some (.ifCond .le off, nx, ts, d)) (kt : x ≤ 0 → Wp mi rc rs d ml rest g Q) (kf : ¬ x ≤ 0 → Wp mi rc rs nx ml rest g Q) : Wp mi rc rs pc ml (.int x :: rest) g Q := by
  by_cases h : x ≤ 0
  · exact wP hE (by simp only [stepP, icm, decide_eq_true h, cond_true]) (kt h)
  · exact wP hE (by simp only [stepP, icm, decide_eq_false h, cond_false]) (kf h)
theorem wCe {x y : Int32} {off : Int} (hE : mEnt mi pc = some (.if_icmp .eq off, nx, ts, d)) (kt : x = y → Wp mi rc rs d ml rest g Q) (kf : ¬ x = y → Wp mi rc rs nx ml rest g Q) : Wp mi rc rs pc ml (.int y :: .int x :: rest) g Q := by
  by_cases h : x = y
  · exact wP hE (by simp only [stepP, icm, decide_eq_true h, cond_true]) (kt h)
  · exact wP hE (by simp only [stepP, icm, decide_eq_false h, cond_false]) (kf h)
theorem wCn {x y : Int32} {off : Int} (hE : mEnt mi pc = some (.if_icmp .ne off, nx, ts, d)) (kt : ¬ x = y → Wp mi rc rs d ml rest g Q) (kf : x = y → Wp mi rc rs nx ml rest g Q) : Wp mi rc rs pc ml (.int y :: .int x :: rest) g Q := by
  by_cases h : x = y
  · exact wP hE (by simp only [stepP, icm, decide_eq_true h, Bool.not_true, cond_false]) (kf h)
  · exact wP hE (by simp only [stepP, icm, decide_eq_false h, Bool.not_false, cond_true]) (kt h)
theorem wClt {x y : Int32} {off : Int} (hE : mEnt mi pc = some (.if_icmp .lt off, nx, ts, d)) (kt : x < y → Wp mi rc rs d ml rest g Q) (kf : ¬ x < y → Wp mi rc rs nx ml rest g Q) : Wp mi rc rs pc ml (.int y :: .int x :: rest) g Q := by
  by_cases h : x < y
  · exact wP hE (by simp only [stepP, icm, decide_eq_true h, cond_true]) (kt h)
  · exact wP hE (by simp only [stepP, icm, decide_eq_false h, cond_false]) (kf h)
theorem wCge {x y : Int32} {off : Int} (hE : mEnt mi pc = some (.if_icmp .ge off, nx, ts, d)) (kt : y ≤ x → Wp mi rc rs d ml rest g Q) (kf : ¬ y ≤ x → Wp mi rc rs nx ml rest g Q) : Wp mi rc rs pc ml (.int y :: .int x :: rest) g Q := by
  by_cases h : y ≤ x
  · exact wP hE (by simp only [stepP, icm, decide_eq_true h, cond_true]) (kt h)
  · exact wP hE (by simp only [stepP, icm, decide_eq_false h, cond_false]) (kf h)
theorem wCgt {x y : Int32} {off : Int} (hE : mEnt mi pc = some (.if_icmp .gt off, nx, ts, d)) (kt : y < x → Wp mi rc rs d ml rest g Q) (kf : ¬ y < x → Wp mi rc rs nx ml rest g Q) : Wp mi rc rs pc ml (.int y :: .int x :: rest) g Q := by
  by_cases h : y < x
  · exact wP hE (by simp only [stepP, icm, decide_eq_true h, cond_true]) (kt h)
  · exact wP hE (by simp only [stepP, icm, decide_eq_false h, cond_false]) (kf h)
theorem wCle {x y : Int32} {off : Int} (hE : mEnt mi pc = some (.if_icmp .le off, nx, ts, d)) (kt : x ≤ y → Wp mi rc rs d ml rest g Q) (kf : ¬ x ≤ y → Wp mi rc rs nx ml rest g Q) : Wp mi rc rs pc ml (.int y :: .int x :: rest) g Q := by
  by_cases h : x ≤ y
  · exact wP hE (by simp only [stepP, icm, decide_eq_true h, cond_true]) (kt h)
  · exact wP hE (by simp only [stepP, icm, decide_eq_false h, cond_false]) (kf h)
theorem wDiv {x y : Int32} (hE : mEnt mi pc = some (.idiv, nx, ts, d)) (hy : ¬ y = 0) (kk : Wp mi rc rs nx ml (.int (x / y) :: rest) g Q) : Wp mi rc rs pc ml (.int y :: .int x :: rest) g Q :=
  wP hE (by simp only [stepP, bind0, if_neg hy]) kk
theorem wRem {x y : Int32} (hE : mEnt mi pc = some (.irem, nx, ts, d)) (hy : ¬ y = 0) (kk : Wp mi rc rs nx ml (.int (x - x / y * y) :: rest) g Q) : Wp mi rc rs pc ml (.int y :: .int x :: rest) g Q :=
  wP hE (by simp only [stepP, bind0, if_neg hy]) kk
/-- ends -/
theorem wRv (hE : mEnt mi pc = some (.return_, nx, ts, d)) (hr : mRt mi = none) (k : Q (.inl none) g) : Wp mi rc rs pc ml [] g Q :=
  wR hE rfl rfl rfl (by simp only [stepR, hr]) k
theorem wRi {v : Int32} (hE : mEnt mi pc = some (.ireturn, nx, ts, d)) (hr : mRt mi = some .int) (k : Q (.inl (some (.int v))) g) : Wp mi rc rs pc ml [.int v] g Q :=
  wR hE rfl rfl rfl (by simp only [stepR, hr]) k
theorem wRz {v : Int32} (hE : mEnt mi pc = some (.ireturn, nx, ts, d)) (hr : mRt mi = some .boolean) (hv : v = 0 ∨ v = 1) (k : Q (.inl (some (.int v))) g) : Wp mi rc rs pc ml [.int v] g Q :=
  wR hE rfl rfl rfl (by
    have hb : (v == 0 || v == 1) = true := by rcases hv with rfl | rfl <;> rfl
    simp only [stepR, hr, hb, cond_true]) k
theorem wT {i : Nat} {q : (Nat × Nat × Nat × Bool × Nat) × String} (hE : mEnt mi pc = some (.new i, nx, ts, d)) (hq : lk2 thrL mi pc = some q) (hb : ((Nat.ble 1 rc && Nat.ble 6 rs) && (Nat.ble 6 (mHt mi) && (Nat.ble 82 (mLo mi) && (mHh mi).isEmpty))) = true) (k : Q (.inr q.1.1) g) : Wp mi rc rs pc ml [] g Q :=
  wR hE rfl rfl rfl (by simp only [stepR, hq, Bool.not_false, Bool.true_and, hb, cond_true]) k
/-- calls -/
theorem callP_s {op cls i mj kd : Nat} {li : Nat × List Nat} {h : MH} (hf : lk2 calL cls i = some ((mj, kd), li)) (h0 : op = 0 ∨ rcv (mNA mj) st h (mCls mj) = true)
    (hb : ((kd % 3 == op && Nat.ble (mNA mj) st.length) && ((kd == 0 || (mHh mj).isEmpty) && (Nat.ble (mNA mj) (mNL mj) && ((st.take (mNA mj)).all (fun v => v.category == 1) && Nat.ble ((st.drop (mNA mj)).map fun v => v.category).sum 8)))) = true) : callP op cls i st h = some (mj, (st.take (mNA mj)).reverse, st.drop (mNA mj)) := by
  unfold callP
  rw [hf]
  have hb2 : ((kd % 3 == op && (Nat.ble (mNA mj) st.length && (op == 0 || rcv (mNA mj) st h (mCls mj)))) && ((kd == 0 || (mHh mj).isEmpty) && (Nat.ble (mNA mj) (mNL mj) && ((st.take (mNA mj)).all (fun v => v.category == 1) && Nat.ble ((st.drop (mNA mj)).map fun v => v.category).sum 8)))) = true := by
    have h1 : (op == 0 || rcv (mNA mj) st h (mCls mj)) = true := by
      rcases h0 with h0 | h0
      · rw [h0]; rfl
      · rw [h0, Bool.or_true]
    rw [h1, Bool.and_true]
    exact hb
  simp only [hb2, cond_true]
theorem wCs {i mj kd : Nat} {li : Nat × List Nat} {as : List Value} (hE : mEnt mi pc = some (.invokestatic i, nx, ts, d)) (hf : lk2 calL (mCls mi) i = some ((mj, kd), li)) (hmx : lk2 maxL (mCls mi) i = none)
    (hb : ((kd % 3 == 0 && Nat.ble (mNA mj) st.length) && ((kd == 0 || (mHh mj).isEmpty) && (Nat.ble (mNA mj) (mNL mj) && ((st.take (mNA mj)).all (fun v => v.category == 1) && Nat.ble ((st.drop (mNA mj)).map fun v => v.category).sum 8)))) = true)
    (ha : (st.take (mNA mj)).reverse = as) (hr : st.drop (mNA mj) = rest) (hrm : rmOk mi mj rc rs = true) (hm : mHh mi = [])
    (k : Ex mj as g (fun o g1 => match o with | .inl v => Wp mi (rc - mMc mj) (rs - mMs mj) nx ml (v.toList ++ rest) g1 Q | .inr x => Q (.inr x) g1)) : Wp mi rc rs pc ml st g Q := by
  subst ha
  subst hr
  exact wC hE rfl (by simp only [stepH, sMax, hmx]) (callP_s hf (Or.inl rfl) hb) hrm hm k
theorem wCv {i mj kd k n : Nat} {li : Nat × List Nat} {as : List Value} (hE : mEnt mi pc = some (.invokevirtual i, nx, ts, d)) (hf : lk2 calL (mCls mi) i = some ((mj, kd), li)) (hn : mNA mj = n + 1) (hk : st[n]? = some (.ref k)) (hk3 : k < 292) (htg : tagK k = mCls mj)
    (hb : ((kd % 3 == 1 && Nat.ble (mNA mj) st.length) && ((kd == 0 || (mHh mj).isEmpty) && (Nat.ble (mNA mj) (mNL mj) && ((st.take (mNA mj)).all (fun v => v.category == 1) && Nat.ble ((st.drop (mNA mj)).map fun v => v.category).sum 8)))) = true)
    (ha : (st.take (mNA mj)).reverse = as) (hr : st.drop (mNA mj) = rest) (hrm : rmOk mi mj rc rs = true) (hm : mHh mi = [])
    (k : Ex mj as g (fun o g1 => match o with | .inl v => Wp mi (rc - mMc mj) (rs - mMs mj) nx ml (v.toList ++ rest) g1 Q | .inr x => Q (.inr x) g1)) : Wp mi rc rs pc ml st g Q := by
  subst ha
  subst hr
  have hrcv : rcv (mNA mj) st (heapOf g) (mCls mj) = true := by
    rw [hn]
    simp only [rcv, hk]
    rw [heapOf_at hk3]
    exact beq_iff_eq.mpr htg
  exact wC hE rfl rfl (callP_s hf (Or.inr hrcv) hb) hrm hm k
end RULES
