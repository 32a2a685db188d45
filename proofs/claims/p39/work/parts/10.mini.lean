/-! ===== the mini machine: values, heap cells by number, code entries; what one step does ===== -/
abbrev ML : Type := List (Nat × Value)
abbrev MC : Type := Nat × List Value
abbrev MH : Type := List MC
/-- an instruction, the next place, constants and targets, the target -/
abbrev ME : Type := Instr × Nat × List (Int32 × Nat) × Nat
def lget : ML → Nat → Option Value
  | [], _ => none
  | q :: r, i => bif q.1 == i then some q.2 else lget r i
def lset (l : ML) (i : Nat) (v : Value) : ML := (i, v) :: l.filter (fun q => !(q.1 == i) && !(q.1 + 1 == i && q.2.category == 2))
def swt : List (Int32 × Nat) → Nat → Int32 → Nat
  | [], d, _ => d
  | q :: r, d, x => if x = q.1 then q.2 else swt r d x
def icm (c : Jvm.ClassFile.Cond) (x y : Int32) : Bool := match c with
  | .eq => decide (x = y)
  | .ne => !decide (x = y)
  | .lt => decide (x < y)
  | .ge => decide (y ≤ x)
  | .gt => decide (y < x)
  | .le => decide (x ≤ y)
def kst (e : ME) (l : ML) (st : List Value) : Option (Nat × ML × List Value) := match e.2.2.1 with
  | [] => none
  | q :: _ => some (e.2.1, l, .int q.1 :: st)
def ldI (e : ME) (l : ML) (st : List Value) (k : Nat) : Option (Nat × ML × List Value) := match lget l k with
  | some (.int x) => some (e.2.1, l, .int x :: st)
  | _ => none
def ldA (e : ME) (l : ML) (st : List Value) (k : Nat) : Option (Nat × ML × List Value) := match lget l k with
  | some (.ref x) => some (e.2.1, l, .ref x :: st)
  | _ => none
def stI (nL : Nat) (e : ME) (l : ML) (st : List Value) (k : Nat) : Option (Nat × ML × List Value) := match st with
  | .int x :: st => bif Nat.blt k nL then some (e.2.1, lset l k (.int x), st) else none
  | _ => none
def stA (nL : Nat) (e : ME) (l : ML) (st : List Value) (k : Nat) : Option (Nat × ML × List Value) := match st with
  | .ref x :: st => bif Nat.blt k nL then some (e.2.1, lset l k (.ref x), st) else none
  | _ => none
def inc (nL : Nat) (e : ME) (l : ML) (st : List Value) (k : Nat) : Option (Nat × ML × List Value) := match lget l k, e.2.2.1 with
  | some (.int x), q :: _ => bif Nat.blt k nL then some (e.2.1, lset l k (.int (x + q.1)), st) else none
  | _, _ => none
def bin (f : Int32 → Int32 → Int32) (e : ME) (l : ML) (st : List Value) : Option (Nat × ML × List Value) := match st with
  | .int y :: .int x :: st => some (e.2.1, l, .int (f x y) :: st)
  | _ => none
def bind0 (f : Int32 → Int32 → Int32) (e : ME) (l : ML) (st : List Value) : Option (Nat × ML × List Value) := match st with
  | .int y :: .int x :: st => if y = 0 then none else some (e.2.1, l, .int (f x y) :: st)
  | _ => none
def stepP (nL : Nat) (e : ME) (l : ML) (st : List Value) : Option (Nat × ML × List Value) := match e.1 with
  | .iconst _ => kst e l st
  | .bipush _ => kst e l st
  | .sipush _ => kst e l st
  | .lconst n => some (e.2.1, l, .long (Int64.ofNat n) :: st)
  | .iload_n k => ldI e l st k
  | .iload k => ldI e l st k
  | .aload_n k => ldA e l st k
  | .aload k => ldA e l st k
  | .istore_n k => stI nL e l st k
  | .istore k => stI nL e l st k
  | .astore_n k => stA nL e l st k
  | .astore k => stA nL e l st k
  | .iinc k _ => inc nL e l st k
  | .iadd => bin (fun x y => x + y) e l st
  | .isub => bin (fun x y => x - y) e l st
  | .ineg => match st with
    | .int x :: st => some (e.2.1, l, .int (-x) :: st)
    | _ => none
  | .imul => bin (fun x y => x * y) e l st
  | .iand => bin (fun x y => x &&& y) e l st
  | .ior => bin (fun x y => x ||| y) e l st
  | .ishl => bin (fun x y => x <<< (y &&& 31)) e l st
  | .ishr => bin (fun x y => x >>> (y &&& 31)) e l st
  | .idiv => bind0 (fun x y => x / y) e l st
  | .irem => bind0 (fun x y => x - x / y * y) e l st
  | .i2l => match st with
    | .int x :: st => some (e.2.1, l, .long x.toInt64 :: st)
    | _ => none
  | .lcmp => match st with
    | .long y :: .long x :: st => some (e.2.1, l, .int (lg_cmp x y) :: st)
    | _ => none
  | .dup => match st with
    | v :: st => bif v.category == 1 then some (e.2.1, l, v :: v :: st) else none
    | _ => none
  | .pop => match st with
    | v :: st => bif v.category == 1 then some (e.2.1, l, st) else none
    | _ => none
  | .dup2 => match st with
    | v :: w :: st => bif v.category == 1 && w.category == 1 then some (e.2.1, l, v :: w :: v :: w :: st) else none
    | _ => none
  | .ifCond c _ => match st with
    | .int x :: st => some (bif icm c x 0 then e.2.2.2 else e.2.1, l, st)
    | _ => none
  | .if_icmp c _ => match st with
    | .int y :: .int x :: st => some (bif icm c x y then e.2.2.2 else e.2.1, l, st)
    | _ => none
  | .goto _ => some (e.2.2.2, l, st)
  | .tableswitch _ _ _ _ => match st with
    | .int x :: st => some (swt e.2.2.1 e.2.2.2 x, l, st)
    | _ => none
  | .lookupswitch _ _ => match st with
    | .int x :: st => some (swt e.2.2.1 e.2.2.2 x, l, st)
    | _ => none
  | _ => none
/-- the constant of an entry -/
def kc (e : ME) (v : Int32) : Bool := match e.2.2.1 with
  | [] => false
  | q :: _ => decide (q.1 = v)
/-- the offsets of a tableswitch from the low key on, and the pairs of targets -/
def swT (pc : Nat) : List Int → Int → List (Int32 × Nat) → Bool
  | [], _, [] => true
  | o :: os, lo, q :: qs => decide (q.1.toInt = lo) && decide ((pc : Int) + o = (q.2 : Int)) && swT pc os (lo + 1) qs
  | _, _, _ => false
def swL (pc : Nat) : List (Int × Int) → List (Int32 × Nat) → Bool
  | [], [] => true
  | o :: os, q :: qs => decide (q.1.toInt = o.1) && decide ((pc : Int) + o.2 = (q.2 : Int)) && swL pc os qs
  | _, _ => false
/-- an entry is what the bytes say -/
def chE (cc : ByteArray) (pc : Nat) (e : ME) : Bool := decide (decode cc pc = .ok (e.1, e.2.1 - pc)) && match e.1 with
  | .iconst n => decide (e.2.1 = pc + 1) && kc e (Int32.ofInt n)
  | .bipush n => decide (e.2.1 = pc + 2) && kc e (Int8.ofInt n).toInt32
  | .sipush n => decide (e.2.1 = pc + 3) && kc e (Int16.ofInt n).toInt32
  | .iload _ => decide (e.2.1 = pc + 2)
  | .aload _ => decide (e.2.1 = pc + 2)
  | .istore _ => decide (e.2.1 = pc + 2)
  | .astore _ => decide (e.2.1 = pc + 2)
  | .iinc _ n => decide (e.2.1 = pc + 3) && kc e (Int32.ofInt n)
  | .ifCond _ o => decide (e.2.1 = pc + 3) && decide ((pc : Int) + o = (e.2.2.2 : Int))
  | .if_icmp _ o => decide (e.2.1 = pc + 3) && decide ((pc : Int) + o = (e.2.2.2 : Int))
  | .goto o => decide (e.2.1 = pc + 3) && decide ((pc : Int) + o = (e.2.2.2 : Int))
  | .tableswitch d lo hi offs => decide ((pc : Int) + d = (e.2.2.2 : Int)) && (swT pc offs.toList lo e.2.2.1 && decide (hi + 1 = lo + (offs.size : Int)))
  | .lookupswitch d ps => decide ((pc : Int) + d = (e.2.2.2 : Int)) && (swL pc ps.toList e.2.2.1 && (ps.toList.zip (ps.toList.drop 1)).all (fun (a, next) => a.1 < next.1))
  | .getfield _ => decide (e.2.1 = pc + 3)
  | .putfield _ => decide (e.2.1 = pc + 3)
  | .invokestatic _ => decide (e.2.1 = pc + 3)
  | .invokevirtual _ => decide (e.2.1 = pc + 3)
  | .invokespecial _ => decide (e.2.1 = pc + 3)
  | .new _ => decide (e.2.1 = pc + 3)
  | .anewarray _ => decide (e.2.1 = pc + 3)
  | .newarray _ => decide (e.2.1 = pc + 2)
  | .ldc _ => decide (e.2.1 = pc + 2)
  | .ldc_w _ => decide (e.2.1 = pc + 3)
  | .multianewarray _ _ => decide (e.2.1 = pc + 4)
  | _ => decide (e.2.1 = pc + 1)
/-! ===== references by the place of their cell ===== -/
def tv (b : Nat) : Value → Value
  | .ref k => .ref (b + k)
  | v => v
def trL (b : Nat) (l : ML) : ML := l.map (fun q => (q.1, tv b q.2))
theorem tv_cat (b : Nat) (v : Value) : (tv b v).category = v.category := by cases v <;> rfl
theorem tv_int {b : Nat} {x : Int32} : tv b (.int x) = .int x := rfl
theorem trL_set (b : Nat) (l : ML) (i : Nat) (v : Value) : (i, tv b v) :: (trL b l).filter (fun q => !(q.1 == i) && !(q.1 + 1 == i && q.2.category == 2)) = trL b (lset l i v) := by
  simp only [lset, trL, List.map_cons, List.filter_map]
  congr 2
  apply List.filter_congr
  intro q _
  simp [Function.comp, tv_cat]
theorem lget_mem : ∀ {l : ML} {i : Nat} {v : Value}, lget l i = some v → (i, v) ∈ l
  | q :: r, i, v, h => by
    simp only [lget] at h
    cases hq : q.1 == i
    · rw [hq] at h
      exact List.mem_cons_of_mem _ (lget_mem h)
    · rw [hq] at h
      have e := beq_iff_eq.mp hq
      simp only [cond_true] at h
      cases h
      exact List.mem_cons.mpr (Or.inl (by rw [← e]))
theorem lget_at {b : Nat} {ls : Array Slot} {nL : Nat} {l : ML} {i : Nat} {v : Value} (h : lv_has ls nL (trL b l)) (hg : lget l i = some v) : ls[i]? = some (.val (tv b v)) :=
  h.2.2 (i, tv b v) (List.mem_map.mpr ⟨(i, v), lget_mem hg, rfl⟩)
theorem lget_k {b : Nat} {l : ML} {i : Nat} {v : Value} (hg : lget l i = some v) : ∃ k : Nat, (trL b l)[k]? = some (i, tv b v) := by
  obtain ⟨k, hk⟩ := List.getElem?_of_mem (List.mem_map.mpr ⟨(i, v), lget_mem hg, rfl⟩ : (i, tv b v) ∈ trL b l)
  exact ⟨k, hk⟩
theorem swT_spec {pc : Nat} : ∀ {os : List Int} {lo : Int} {qs : List (Int32 × Nat)}, swT pc os lo qs = true → ∀ (d : Nat) (x : Int32),
    (∀ o, lo ≤ x.toInt → os[(x.toInt - lo).toNat]? = some o → (pc : Int) + o = (swt qs d x : Nat)) ∧ ((x.toInt < lo ∨ lo + os.length ≤ x.toInt) → swt qs d x = d)
  | [], lo, [], _, d, x => ⟨fun o h h2 => by simp at h2, fun _ => rfl⟩
  | o0 :: os, lo, q :: qs, h, d, x => by
    simp only [swT, Bool.and_eq_true, decide_eq_true_eq] at h
    obtain ⟨⟨h1, h2⟩, h3⟩ := h
    have ih := swT_spec h3 d x
    simp only [swt]
    by_cases e : x = q.1
    · rw [if_pos e]
      have e2 : x.toInt = lo := by rw [e]; exact h1
      refine ⟨fun o hl ho => ?_, fun hh => ?_⟩
      · rw [e2, Int.sub_self] at ho
        simp at ho
        rw [← ho]; exact h2
      · simp only [List.length_cons] at hh; omega
    · rw [if_neg e]
      have e2 : x.toInt ≠ lo := fun z => e (Int32.toInt_inj.mp (by rw [z, h1]))
      refine ⟨fun o hl ho => ih.1 o (by omega) ?_, fun hh => ih.2 (by simp only [List.length_cons] at hh; omega)⟩
      rw [show (x.toInt - lo).toNat = (x.toInt - (lo + 1)).toNat + 1 by omega] at ho
      simpa using ho
  | [], _, _ :: _, h, _, _ => by simp [swT] at h
  | _ :: _, _, [], h, _, _ => by simp [swT] at h
theorem swL_spec {pc : Nat} {dv : Int} {dt : Nat} (hd : (pc : Int) + dv = dt) : ∀ {os : List (Int × Int)} {qs : List (Int32 × Nat)}, swL pc os qs = true → ∀ (x : Int32), (pc : Int) + Op.lookupswitch.offset os dv x.toInt = (swt qs dt x : Nat)
  | [], [], _, x => by simpa [Op.lookupswitch.offset, swt] using hd
  | o :: os, q :: qs, h, x => by
    simp only [swL, Bool.and_eq_true, decide_eq_true_eq] at h
    obtain ⟨⟨h1, h2⟩, h3⟩ := h
    simp only [swt]
    by_cases e : x = q.1
    · rw [if_pos e]
      subst e
      obtain ⟨a, o2⟩ := o
      have h1' : q.1.toInt = a := h1
      rw [← h2]
      simp [Op.lookupswitch.offset, h1']
    · rw [if_neg e]
      obtain ⟨a, o2⟩ := o
      rw [lv_osw (k := q.1) e h1]
      exact swL_spec hd h3 x
  | [], _ :: _, h, _ => by simp [swL] at h
  | _ :: _, [], h, _ => by simp [swL] at h
