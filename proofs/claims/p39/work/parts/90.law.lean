/-! ===== the law's body ===== -/
/-- the room behind the systems by hand -/
def rmB : Room := { frames := 14, cells := 560000, slots := 7000000, locals := 580 }
theorem isN_i {q : Nat} (h : q ≤ 29) : isN (i32 q) := ⟨(i32_le (a := 0) (b := q) (by decide) (by omega)).mpr (Nat.zero_le q), (i32_le (b := 29) (by omega) (by decide)).mpr h⟩
theorem ushr_i (x : Int32) : ∃ X, X < 16777216 ∧ (x.toUInt32 >>> ((i32 8).toUInt32 &&& Int32.toUInt32 31)).toInt32 = i32 X := by
  refine ⟨x.toUInt32.toNat / 256, ?_, ?_⟩
  · have := x.toUInt32.toNat_lt
    omega
  · have e : (i32 8).toUInt32 &&& Int32.toUInt32 31 = 8 := by decide
    rw [e]
    have e2 : x.toUInt32 >>> 8 = UInt32.ofNat (x.toUInt32.toNat / 256) := by
      apply UInt32.toNat_inj.mp
      have h1 := x.toUInt32.toNat_lt
      rw [UInt32.toNat_shiftRight, UInt32.toNat_ofNat_of_lt' (by show x.toUInt32.toNat / 256 < 4294967296; omega)]
      rw [Nat.shiftRight_eq_div_pow]
      rfl
    rw [e2]
    rfl
section LAW
variable {p : Program} {l0 : Launch} {e : Env} {s : State} {m : MethodId} {args : Array Value} {below : List Frame} {meth : Method} {c : Code}
variable {D : va_G} {cy : Nat → ClassId} {bs Ln : Nat} {xs : Nat → Int32}
/-- in the law's body, behind its last new -/
abbrev BL (p : Program) (l0 : Launch) (e : Env) (s : State) (m : MethodId) (args : Array Value) (below : List Frame) (meth : Method) (c : Code) (cy : Nat → ClassId) (D : va_G) (rc rs pc : Nat) (L : List (Nat × Value)) (st : List Value) (l : Sg) : Prop :=
  BX p l0 e rmB s m args below meth c s.heap.size 4 cy D (ZQ below s s.heap.size 560000 7000000) rc rs pc L st (heapOf (GG false l w0))
def L2 (s : State) (bs : Nat) (k : Int32) : List (Nat × Value) := [(2, .int k), (1, .ref (s.heap.size + 0)), (0, .ref bs)]
def L3 (s : State) (bs : Nat) (x k : Int32) : List (Nat × Value) := [(3, .int x), (2, .int k), (1, .ref (s.heap.size + 0)), (0, .ref bs)]
theorem rm_l {mj : Nat} (h : (Nat.ble (mHt mj + 1) 14 && Nat.ble (19 + mNL mj + mLo mj) 580) = true) : mHt mj + 1 ≤ rmB.frames ∧ 19 + mNL mj + mLo mj ≤ rmB.locals := by
  rw [Bool.and_eq_true, Nat.ble_eq, Nat.ble_eq] at h
  exact h
theorem x_end {rc rs : Nat} {L : List (Nat × Value)} {l : Sg} (C : BC p s m args c s.heap.size 4 code D cy) (hr : meth.sig.returnType = some .boolean) (hlk : meth.locks = false) : BL p l0 e s m args below meth c cy D rc rs 289 L [.int 1] l := by
  intro H locs cells slots ls hP hS hl hc hs
  exact W_end C.1 C.2.1 hr hlk hS.2.2 (show cells ≤ rmB.cells by omega) (show slots ≤ rmB.slots by omega) (by decide +kernel)
theorem key_loop (C : BC p s m args c s.heap.size 4 code D cy) (hfl : l0.stackTraces = false) {rc rs : Nat} (K : BL p l0 e s m args below meth c cy D rc rs 86 (L2 s bs (i32 11)) [] (dec (mK 11))) : ∀ d k : Nat, k + d = 11 → BL p l0 e s m args below meth c cy D (rc + 5 * d) (rs + 30 * d) 41 (L2 s bs (i32 k)) [] (dec (mK k)) := by
  intro d
  have e184 : mMc 184 = 5 ∧ mMs 184 = 30 := by decide
  induction d with
  | zero =>
    intro k hk
    obtain rfl : k = 11 := by omega
    refine x_iload (i := 2) 0 C (by decide +kernel) rfl ?_
    refine x_bipush (i := 11) (v := i32 11) C (by decide +kernel) (by decide) ?_
    refine x_cge (off := 42) 86 C (by decide +kernel) (by decide) (fun _ => K) (fun h => absurd (Int32.le_refl _) h)
  | succ d ih =>
    intro k hk
    refine x_iload (i := 2) 0 C (by decide +kernel) rfl ?_
    refine x_bipush (i := 11) (v := i32 11) C (by decide +kernel) (by decide) ?_
    refine x_cge (off := 42) 86 C (by decide +kernel) (by decide) (fun h => absurd ((i32_le (by decide) (by omega)).mp h) (by omega)) (fun _ => ?_)
    refine x_aload (i := 1) 1 C (by decide +kernel) rfl ?_
    refine x_iconst (i := 0) (v := i32 0) C (by decide +kernel) (by decide) ?_
    refine x_iconst (i := 0) (v := i32 0) C (by decide +kernel) (by decide) ?_
    refine x_bipush (i := 100) (v := i32 100) C (by decide +kernel) (by decide) ?_
    refine x_bipush (i := 7) (v := i32 7) C (by decide +kernel) (by decide) ?_
    refine x_iload (i := 2) 0 C (by decide +kernel) rfl ?_
    refine x_imul C (by decide +kernel) (i32_mul 7 k) ?_
    refine x_iadd C (by decide +kernel) (i32_add 100 (7 * k)) ?_
    refine x_iload (i := 2) 0 C (by decide +kernel) rfl ?_
    refine x_call (op := 0) (i := 143) (mj := 184) (ys := [i32 0, i32 0, i32 (100 + 7 * k), i32 k]) (st0 := [.int (i32 k), .int (i32 (100 + 7 * k)), .int (i32 0), .int (i32 0), .ref 0]) (rest := []) C hfl (by decide) rfl (E_key (k := k) (by omega)) (Or.inl ⟨rfl, by decide +kernel⟩) (rm_l (by decide)) (by omega) (by omega) rfl ?_
    have key : BL p l0 e s m args below meth c cy D (rc + 5 * (d + 1) - mMc 184) (rs + 30 * (d + 1) - mMs 184) 75 (L2 s bs (i32 k)) [.int (if k < 10 then i32 (k + 1) else -73), .int (if k < 10 then i32 (k + 1) else -73)] (dec (mK (k + 1))) := by
      refine x_ceq (off := 5) 80 C (by decide +kernel) (by decide) (fun _ => ?_) (fun h => absurd rfl h)
      refine x_iinc (i := 2) (n := 1) (v := i32 (k + 1)) (L2 := L2 s bs (i32 (k + 1))) 0 C (by decide +kernel) rfl (i32_add k 1) (by decide) rfl ?_
      refine x_goto (off := (-42)) 41 C (by decide +kernel) (by decide) ?_
      exact x_less (by omega) (by omega) (ih (k + 1) (by omega))
    refine x_iload (i := 2) 0 C (by decide +kernel) rfl ?_
    refine x_bipush (i := 10) (v := i32 10) C (by decide +kernel) (by decide) ?_
    refine x_cge (off := 9) 73 C (by decide +kernel) (by decide) (fun h => ?_) (fun h => ?_)
    · have q : ¬ k < 10 := by have := (i32_le (a := 10) (b := k) (by decide) (by omega)).mp h; omega
      rw [if_neg q] at key ⊢
      refine x_bipush (i := (-73)) (v := (-73)) C (by decide +kernel) (by decide) ?_
      exact key
    · have q : k < 10 := by
        by_cases z : k < 10
        · exact z
        · exact absurd ((i32_le (a := 10) (b := k) (by decide) (by omega)).mpr (by omega)) h
      rw [if_pos q] at key ⊢
      refine x_iload (i := 2) 0 C (by decide +kernel) rfl ?_
      refine x_iconst (i := 1) (v := i32 1) C (by decide +kernel) (by decide) ?_
      refine x_iadd C (by decide +kernel) (i32_add k 1) ?_
      refine x_goto (off := 5) 75 C (by decide +kernel) (by decide) ?_
      exact key
theorem drawn_loop (C : BC p s m args c s.heap.size 4 code D cy) (hfl : l0.stackTraces = false) (hr : meth.sig.returnType = some .boolean) (hlk : meth.locks = false) (hX : va_X bs Ln xs s s.heap) (hbs : bs < s.heap.size) (hLn : Ln ≤ 260) : ∀ (d k T : Nat) (l : Sg), J k (i32 T) l → T ≤ 9 * k → k + d = 24 → BL p l0 e s m args below meth c cy D (3000 * d + 100) (18000 * d + 600) 115 (L2 s bs (i32 k)) [] l := by
  intro d
  have c45 : mMc 45 = 2 ∧ mMs 45 = 12 ∧ mMc 54 = 2 ∧ mMs 54 = 12 ∧ mMc 56 = 1 ∧ mMs 56 = 6 ∧ mMc 46 = 3 ∧ mMs 46 = 18 ∧ mMc 62 = 1 ∧ mMs 62 = 6 ∧ mMc 63 = 1 ∧ mMs 63 = 6 ∧ mMc 49 = 3 ∧ mMs 49 = 18 ∧ mMc 185 = 2208 ∧ mMs 185 = 13248 ∧ mMc 55 = 0 ∧ mMs 55 = 0 := by decide
  induction d with
  | zero =>
    intro k T l h hT hk
    obtain rfl : k = 24 := by omega
    refine x_iload (i := 2) 0 C (by decide +kernel) rfl ?_
    refine x_bipush (i := 24) (v := i32 24) C (by decide +kernel) (by decide) ?_
    refine x_cge (off := 157) 275 C (by decide +kernel) (by decide) (fun _ => ?_) (fun h => absurd (Int32.le_refl _) h)
    refine x_aload (i := 1) 1 C (by decide +kernel) rfl ?_
    refine x_call (op := 1) (i := 147) (mj := 55) (ys := []) (st0 := [.ref 0]) (rest := []) C hfl (by decide) rfl (e_55 (n := 24) h.1 h.2.1 (show (_ : MO) = _ ∧ l = l from ⟨rfl, rfl⟩)) (Or.inr (Or.inl ⟨rfl, by decide +kernel⟩)) (rm_l (by decide)) (by omega) (by omega) rfl ?_
    refine x_bipush (i := 24) (v := i32 24) C (by decide +kernel) (by decide) ?_
    refine x_cne (off := 7) 288 C (by decide +kernel) (by decide) (fun h => absurd rfl h) (fun _ => ?_)
    refine x_iconst (i := 1) (v := i32 1) C (by decide +kernel) (by decide) ?_
    refine x_goto (off := 4) 289 C (by decide +kernel) (by decide) ?_
    exact x_end C hr hlk
  | succ d ih =>
    intro k T l h hT hk
    have hk24 : k < 24 := by omega
    refine x_iload (i := 2) 0 C (by decide +kernel) rfl ?_
    refine x_bipush (i := 24) (v := i32 24) C (by decide +kernel) (by decide) ?_
    refine x_cge (off := 157) 275 C (by decide +kernel) (by decide) (fun h => absurd ((i32_le (by decide) (by omega)).mp h) (by omega)) (fun _ => ?_)
    -- from here x is known
    have go : ∀ X : Nat, X < 16777216 → BL p l0 e s m args below meth c cy D (3000 * (d + 1) + 100) (18000 * (d + 1) + 600) 142 (L2 s bs (i32 k)) [.int (i32 X)] l := by
      intro X hXb
      refine x_istore (i := 3) (L2 := L3 s bs (i32 X) (i32 k)) C (by decide +kernel) (by decide) rfl ?_
      obtain ⟨l1, h45, h1⟩ := j_45 (x := i32 (X % 2)) h (by omega) (isN_i (by omega))
      have he45 : Es false 45 [.ref 0, .int (i32 (X % 2))] l (fun o l' => o = .inl (some (.int (i32 k))) ∧ l' = l1) := e_45 h.1 h.2.1 (by rw [h45]; exact ⟨rfl, rfl⟩)
      refine x_aload (i := 1) 2 C (by decide +kernel) rfl ?_
      refine x_iload (i := 3) 0 C (by decide +kernel) rfl ?_
      refine x_iconst (i := 2) (v := i32 2) C (by decide +kernel) (by decide) ?_
      refine x_irem C (by decide +kernel) (by decide) (i32_mod (by omega) (by decide) (by decide)) ?_
      refine x_call (op := 1) (i := 68) (mj := 45) (ys := [i32 (X % 2)]) (st0 := [.int (i32 (X % 2)), .ref 0]) (rest := []) C hfl (by decide) rfl he45 (Or.inr (Or.inl ⟨rfl, by decide +kernel⟩)) (rm_l (by decide)) (by omega) (by omega) rfl ?_
      refine x_iload (i := 2) 1 C (by decide +kernel) rfl ?_
      refine x_cne (off := 116) 267 C (by decide +kernel) (by decide) (fun h => absurd rfl h) (fun _ => ?_)
      obtain ⟨l2, h54, h2⟩ := j_54 (u := 1 + X % 9) h1 (by omega) (by omega) (by omega)
      have he54 : Es false 54 [.ref 0, .int (i32 (1 + X % 9))] l1 (fun o l' => o = .inl (some (.int (i32 (T + (1 + X % 9))))) ∧ l' = l2) := e_54 h1.1 h1.2.1 (by rw [h54]; exact ⟨rfl, rfl⟩)
      refine x_aload (i := 1) 2 C (by decide +kernel) rfl ?_
      refine x_iconst (i := 1) (v := i32 1) C (by decide +kernel) (by decide) ?_
      refine x_iload (i := 3) 0 C (by decide +kernel) rfl ?_
      refine x_bipush (i := 9) (v := i32 9) C (by decide +kernel) (by decide) ?_
      refine x_irem C (by decide +kernel) (by decide) (i32_mod (by omega) (by decide) (by decide)) ?_
      refine x_iadd C (by decide +kernel) (i32_add 1 (X % 9)) ?_
      refine x_call (op := 1) (i := 97) (mj := 54) (ys := [i32 (1 + X % 9)]) (st0 := [.int (i32 (1 + X % 9)), .ref 0]) (rest := []) C hfl (by decide) rfl he54 (Or.inr (Or.inl ⟨rfl, by decide +kernel⟩)) (rm_l (by decide)) (by omega) (by omega) rfl ?_
      refine x_iconst (i := 1) (v := i32 1) C (by decide +kernel) (by decide) ?_
      refine x_clt (off := 102) 267 C (by decide +kernel) (by decide) (fun h => absurd ((i32_lt (by omega) (by decide)).mp h) (by omega)) (fun _ => ?_)
      obtain ⟨t, ht⟩ : ∃ t, t = T + (1 + X % 9) := ⟨_, rfl⟩
      rw [← ht] at h2
      have htb : t ≤ 9 * (k + 1) := by omega
      -- the end of the round
      have h269 : ∀ l, J (k + 1) (i32 t) l → BL p l0 e s m args below meth c cy D (3000 * d + 100) (18000 * d + 600) 269 (L3 s bs (i32 X) (i32 k)) [] l := by
        intro l hJ
        refine x_iinc (i := 2) (n := 1) (v := i32 (k + 1)) (L2 := [(2, .int (i32 (k + 1))), (3, .int (i32 X)), (1, .ref (s.heap.size + 0)), (0, .ref bs)]) 1 C (by decide +kernel) rfl (i32_add k 1) (by decide) rfl ?_
        refine x_goto (off := (-157)) 115 C (by decide +kernel) (by decide) ?_
        exact x_loc [0, 2, 3] rfl (ih (k + 1) t l hJ htb (by omega))
      have h250 : ∀ l, J (k + 1) (i32 t) l → BL p l0 e s m args below meth c cy D (3000 * d + 2400) (18000 * d + 14400) 250 (L3 s bs (i32 X) (i32 k)) [] l := by
        intro l hJ
        refine x_iload (i := 2) 1 C (by decide +kernel) rfl ?_
        refine x_bipush (i := 8) (v := i32 8) C (by decide +kernel) (by decide) ?_
        refine x_irem C (by decide +kernel) (by decide) (i32_mod (by omega) (by decide) (by decide)) ?_
        refine x_ifne (off := 15) 269 C (by decide +kernel) (by decide) (fun _ => x_less (by omega) (by omega) (h269 l hJ)) (fun hz => ?_)
        have hz8 : k % 8 = 0 := (i32_inj (b := 0) (by omega) (by decide)).mp hz
        have hrk : riOK (k + 1) = true := by
          have : k = 0 ∨ k = 8 ∨ k = 16 := by omega
          rcases this with rfl | rfl | rfl
          · exact ri_1
          · exact ri_9
          · exact ri_17
        refine x_aload (i := 1) 2 C (by decide +kernel) rfl ?_
        refine x_iload (i := 2) 1 C (by decide +kernel) rfl ?_
        refine x_iconst (i := 1) (v := i32 1) C (by decide +kernel) (by decide) ?_
        refine x_iadd C (by decide +kernel) (i32_add k 1) ?_
        have he185 : Es false 185 [.ref 0, .int (i32 (k + 1))] l (fun o l' => o = .inl (some (.int 1)) ∧ l' = l) := e_185 hJ.1 hJ.2.1 hJ.2.2.2.2.2.2.2.1 hrk ⟨rfl, rfl⟩
        refine x_call (op := 0) (i := 152) (mj := 185) (ys := [i32 (k + 1)]) (st0 := [.int (i32 (k + 1)), .ref 0]) (rest := []) C hfl (by decide) rfl he185 (Or.inl ⟨rfl, by decide +kernel⟩) (rm_l (by decide)) (by omega) (by omega) rfl ?_
        exact x_ifne (off := 5) 269 C (by decide +kernel) (by decide) (fun _ => x_less (by omega) (by omega) (h269 l hJ)) (fun hz => absurd hz (by decide))
      have h191 : ∀ l, J (k + 1) (i32 t) l → BL p l0 e s m args below meth c cy D (3000 * d + 2500) (18000 * d + 15000) 191 (L3 s bs (i32 X) (i32 k)) [] l := by
        intro l hJ
        obtain ⟨v, h62, hv⟩ := j_62 hJ
        have he62 : Es false 62 [.ref 0, .int (i32 0)] l (fun o l' => o = .inl (some (.int v)) ∧ l' = l) := e_62 hJ.1 hJ.2.1 (by rw [show f_62 (k + 1) (i32 0) l = (.inl v, l) from h62]; exact ⟨rfl, rfl⟩)
        refine x_aload (i := 1) 2 C (by decide +kernel) rfl ?_
        refine x_iconst (i := 0) (v := i32 0) C (by decide +kernel) (by decide) ?_
        refine x_call (op := 1) (i := 118) (mj := 62) (ys := [i32 0]) (st0 := [.int (i32 0), .ref 0]) (rest := []) C hfl (by decide) rfl he62 (Or.inr (Or.inl ⟨rfl, by decide +kernel⟩)) (rm_l (by decide)) (by omega) (by omega) rfl ?_
        refine x_iconst (i := 3) (v := i32 3) C (by decide +kernel) (by decide) ?_
        refine x_cgt (off := 70) 267 C (by decide +kernel) (by decide) (fun h => absurd hv (Int32.not_le.mpr h)) (fun _ => ?_)
        refine x_iload (i := 2) 1 C (by decide +kernel) rfl ?_
        refine x_bipush (i := 6) (v := i32 6) C (by decide +kernel) (by decide) ?_
        refine x_irem C (by decide +kernel) (by decide) (i32_mod (by omega) (by decide) (by decide)) ?_
        refine x_iconst (i := 3) (v := i32 3) C (by decide +kernel) (by decide) ?_
        refine x_cne (off := 45) 250 C (by decide +kernel) (by decide) (fun _ => x_less (by omega) (by omega) (h250 l hJ)) (fun _ => ?_)
        have ha : X % 6 < 6 := by omega
        have he63 : Es false 63 [.ref 0, .int (i32 (X % 6))] l (fun o l' => o = .inl (some (.int (l 326 (X % 6)))) ∧ l' = l) := e_63 hJ.1 hJ.2.1 (by rw [j_63 ha]; exact ⟨rfl, rfl⟩)
        refine x_aload (i := 1) 2 C (by decide +kernel) rfl ?_
        refine x_iload (i := 3) 0 C (by decide +kernel) rfl ?_
        refine x_bipush (i := 6) (v := i32 6) C (by decide +kernel) (by decide) ?_
        refine x_irem C (by decide +kernel) (by decide) (i32_mod (by omega) (by decide) (by decide)) ?_
        refine x_call (op := 1) (i := 121) (mj := 63) (ys := [i32 (X % 6)]) (st0 := [.int (i32 (X % 6)), .ref 0]) (rest := []) C hfl (by decide) rfl he63 (Or.inr (Or.inl ⟨rfl, by decide +kernel⟩)) (rm_l (by decide)) (by omega) (by omega) rfl ?_
        refine x_iconst (i := 2) (v := i32 2) C (by decide +kernel) (by decide) ?_
        refine x_cge (off := 33) 250 C (by decide +kernel) (by decide) (fun _ => x_less (by omega) (by omega) (h250 l hJ)) (fun hlt => ?_)
        have hs : ¬ (l 326 (X % 6) = 2 ∨ l 326 (X % 6) = 3) := by
          rintro (q | q) <;> rw [q] at hlt <;> exact hlt (by decide)
        obtain ⟨v9, l9, h49, hJ9, hv9, ha9⟩ := j_49 (x := i32 (1 + X % 63)) hJ ha hs ⟨(i32_le (a := 1) (by decide) (by omega)).mpr (by omega), (i32_le (b := 63) (by omega) (by decide)).mpr (by omega)⟩
        have he49 : Es false 49 [.ref 0, .int (i32 (X % 6)), .int (i32 (1 + X % 63))] l (fun o l' => o = .inl (some (.int v9)) ∧ l' = l9) := e_49 hJ.1 hJ.2.1 (by rw [h49]; exact ⟨rfl, rfl⟩)
        refine x_aload (i := 1) 2 C (by decide +kernel) rfl ?_
        refine x_iload (i := 3) 0 C (by decide +kernel) rfl ?_
        refine x_bipush (i := 6) (v := i32 6) C (by decide +kernel) (by decide) ?_
        refine x_irem C (by decide +kernel) (by decide) (i32_mod (by omega) (by decide) (by decide)) ?_
        refine x_iconst (i := 1) (v := i32 1) C (by decide +kernel) (by decide) ?_
        refine x_iload (i := 3) 0 C (by decide +kernel) rfl ?_
        refine x_bipush (i := 63) (v := i32 63) C (by decide +kernel) (by decide) ?_
        refine x_irem C (by decide +kernel) (by decide) (i32_mod (by omega) (by decide) (by decide)) ?_
        refine x_iadd C (by decide +kernel) (i32_add 1 (X % 63)) ?_
        refine x_call (op := 1) (i := 82) (mj := 49) (ys := [i32 (X % 6), i32 (1 + X % 63)]) (st0 := [.int (i32 (1 + X % 63)), .int (i32 (X % 6)), .ref 0]) (rest := []) C hfl (by decide) rfl he49 (Or.inr (Or.inl ⟨rfl, by decide +kernel⟩)) (rm_l (by decide)) (by omega) (by omega) rfl ?_
        refine x_iconst (i := (-1)) (v := (-1)) C (by decide +kernel) (by decide) ?_
        refine x_clt (off := 32) 267 C (by decide +kernel) (by decide) (fun h => absurd hv9 (Int32.not_le.mpr h)) (fun _ => ?_)
        have he63b : Es false 63 [.ref 0, .int (i32 (X % 6))] l9 (fun o l' => o = .inl (some (.int (l9 326 (X % 6)))) ∧ l' = l9) := e_63 hJ9.1 hJ9.2.1 (by rw [j_63 ha]; exact ⟨rfl, rfl⟩)
        refine x_aload (i := 1) 2 C (by decide +kernel) rfl ?_
        refine x_iload (i := 3) 0 C (by decide +kernel) rfl ?_
        refine x_bipush (i := 6) (v := i32 6) C (by decide +kernel) (by decide) ?_
        refine x_irem C (by decide +kernel) (by decide) (i32_mod (by omega) (by decide) (by decide)) ?_
        refine x_call (op := 1) (i := 121) (mj := 63) (ys := [i32 (X % 6)]) (st0 := [.int (i32 (X % 6)), .ref 0]) (rest := []) C hfl (by decide) rfl he63b (Or.inr (Or.inl ⟨rfl, by decide +kernel⟩)) (rm_l (by decide)) (by omega) (by omega) rfl ?_
        refine x_iconst (i := 1) (v := i32 1) C (by decide +kernel) (by decide) ?_
        refine x_clt (off := 20) 267 C (by decide +kernel) (by decide) (fun h => absurd ha9 (Int32.not_le.mpr h)) (fun _ => ?_)
        exact x_less (by omega) (by omega) (h250 l9 hJ9)
      -- the state, a press
      have he56 : Es false 56 [.ref 0, .int (i32 k)] l2 (fun o l' => o = .inl (some (.int (l2 311 k))) ∧ l' = l2) := e_56 h2.1 h2.2.1 (by rw [j_56 h2 (by omega)]; exact ⟨rfl, rfl⟩)
      refine x_aload (i := 1) 2 C (by decide +kernel) rfl ?_
      refine x_iload (i := 2) 1 C (by decide +kernel) rfl ?_
      refine x_call (op := 1) (i := 100) (mj := 56) (ys := [i32 k]) (st0 := [.int (i32 k), .ref 0]) (rest := []) C hfl (by decide) rfl he56 (Or.inr (Or.inl ⟨rfl, by decide +kernel⟩)) (rm_l (by decide)) (by omega) (by omega) rfl ?_
      refine x_iconst (i := 2) (v := i32 2) C (by decide +kernel) (by decide) ?_
      refine x_cge (off := 17) 191 C (by decide +kernel) (by decide) (fun _ => x_less (by omega) (by omega) (h191 l2 h2)) (fun hlt => ?_)
      have hs : l2 311 k = 0 ∨ l2 311 k = 1 := by
        rcases h2.2.2.2.1 k with q | q | q | q
        · exact Or.inl q
        · exact Or.inr q
        · rw [q] at hlt; exact absurd (by decide) hlt
        · rw [q] at hlt; exact absurd (by decide) hlt
      obtain ⟨v, l3, h46, h3, hv⟩ := j_46 (x := i32 (X % 12)) h2 (Nat.lt_succ_self k) hs ⟨(i32_le (a := 0) (by decide) (by omega)).mpr (by omega), (i32_le (b := 11) (by omega) (by decide)).mpr (by omega)⟩
      have he46 : Es false 46 [.ref 0, .int (i32 k), .int (i32 (X % 12))] l2 (fun o l' => o = .inl (some (.int v)) ∧ l' = l3) := e_46 h2.1 h2.2.1 (by rw [h46]; exact ⟨rfl, rfl⟩)
      refine x_aload (i := 1) 2 C (by decide +kernel) rfl ?_
      refine x_iload (i := 2) 1 C (by decide +kernel) rfl ?_
      refine x_iload (i := 3) 0 C (by decide +kernel) rfl ?_
      refine x_bipush (i := 12) (v := i32 12) C (by decide +kernel) (by decide) ?_
      refine x_irem C (by decide +kernel) (by decide) (i32_mod (by omega) (by decide) (by decide)) ?_
      refine x_call (op := 1) (i := 72) (mj := 46) (ys := [i32 k, i32 (X % 12)]) (st0 := [.int (i32 (X % 12)), .int (i32 k), .ref 0]) (rest := []) C hfl (by decide) rfl he46 (Or.inr (Or.inl ⟨rfl, by decide +kernel⟩)) (rm_l (by decide)) (by omega) (by omega) rfl ?_
      refine x_bipush (i := 29) (v := i32 29) C (by decide +kernel) (by decide) ?_
      refine x_cgt (off := 79) 267 C (by decide +kernel) (by decide) (fun h => absurd hv (Int32.not_le.mpr h)) (fun _ => ?_)
      exact x_less (by omega) (by omega) (h191 l3 h3)
    -- the script's length
    refine x_aload (i := 0) 2 C (by decide +kernel) rfl ?_
    refine x_alen C hX hbs hbs (by decide +kernel) ?_
    refine x_ifne (off := 10) 133 C (by decide +kernel) (by decide) (fun hne => ?_) (fun _ => ?_)
    · have hL0 : 0 < Ln := by
        cases Ln with
        | zero => exact absurd rfl hne
        | succ q => exact Nat.succ_pos q
      refine x_aload (i := 0) 2 C (by decide +kernel) rfl ?_
      refine x_iload (i := 2) 0 C (by decide +kernel) rfl ?_
      refine x_aload (i := 0) 2 C (by decide +kernel) rfl ?_
      refine x_alen C hX hbs hbs (by decide +kernel) ?_
      refine x_irem C (by decide +kernel) hne (i32_mod (by omega) hL0 (by omega)) ?_
      refine x_iaload C hX hbs hbs (by decide +kernel) (Nat.mod_lt k hL0) hLn ?_
      obtain ⟨X, hXb, hXe⟩ := ushr_i (xs (k % Ln))
      refine x_bipush (i := 8) (v := i32 8) C (by decide +kernel) (by decide) ?_
      refine x_iushr C (by decide +kernel) hXe ?_
      exact go X hXb
    · refine x_bipush (i := 41) (v := i32 41) C (by decide +kernel) (by decide) ?_
      refine x_iload (i := 2) 0 C (by decide +kernel) rfl ?_
      refine x_imul C (by decide +kernel) (i32_mul 41 k) ?_
      refine x_goto (off := 12) 142 C (by decide +kernel) (by decide) ?_
      exact go (41 * k) (by omega)
theorem law_2 (C : BC p s m args c s.heap.size 4 code D cy) (hfl : l0.stackTraces = false) (hr : meth.sig.returnType = some .boolean) (hlk : meth.locks = false) (hX : va_X bs Ln xs s s.heap) (hbs : bs < s.heap.size) (hLn : Ln ≤ 260) : BL p l0 e s m args below meth c cy D 200000 2000000 34 [(1, .ref (s.heap.size + 0)), (0, .ref bs)] [] (dec M0) := by
  have c32 : mMc 32 = 2 ∧ mMs 32 = 12 ∧ mMc 184 = 5 ∧ mMs 184 = 30 ∧ mMc 39 = 7 ∧ mMs 39 = 42 := by decide
  refine x_aload (i := 1) 0 C (by decide +kernel) rfl ?_
  refine x_iconst (i := 0) (v := i32 0) C (by decide +kernel) (by decide) ?_
  refine x_call (op := 1) (i := 13) (mj := 32) (ys := [i32 0]) (st0 := [.int (i32 0), .ref 0]) (rest := []) C hfl (by decide) rfl E_menu (Or.inr (Or.inl ⟨rfl, by decide +kernel⟩)) (rm_l (by decide)) (by omega) (by omega) rfl ?_
  refine x_iconst (i := 0) (v := i32 0) C (by decide +kernel) (by decide) ?_
  refine x_istore (i := 2) (L2 := L2 s bs (i32 0)) C (by decide +kernel) (by decide) rfl ?_
  refine x_less (rc2 := 100000 + 5 * 11) (rs2 := 1000000 + 30 * 11) (by omega) (by omega) (key_loop C hfl ?_ 11 0 rfl)
  refine x_aload (i := 1) 1 C (by decide +kernel) rfl ?_
  refine x_iconst (i := 0) (v := i32 0) C (by decide +kernel) (by decide) ?_
  refine x_iconst (i := 0) (v := i32 0) C (by decide +kernel) (by decide) ?_
  refine x_bipush (i := 100) (v := i32 100) C (by decide +kernel) (by decide) ?_
  refine x_iconst (i := (-1)) (v := (-1)) C (by decide +kernel) (by decide) ?_
  refine x_call (op := 0) (i := 143) (mj := 184) (ys := [i32 0, i32 0, i32 100, -1]) (st0 := [.int (-1), .int (i32 100), .int (i32 0), .int (i32 0), .ref 0]) (rest := []) C hfl (by decide) rfl E_key2 (Or.inl ⟨rfl, by decide +kernel⟩) (rm_l (by decide)) (by omega) (by omega) rfl ?_
  refine x_bipush (i := 10) (v := i32 10) C (by decide +kernel) (by decide) ?_
  refine x_ceq (off := 5) 102 C (by decide +kernel) (by decide) (fun _ => ?_) (fun h => absurd rfl h)
  refine x_aload (i := 1) 1 C (by decide +kernel) rfl ?_
  refine x_iconst (i := 1) (v := i32 1) C (by decide +kernel) (by decide) ?_
  refine x_iconst (i := 0) (v := i32 0) C (by decide +kernel) (by decide) ?_
  refine x_iconst (i := 3) (v := i32 3) C (by decide +kernel) (by decide) ?_
  refine x_bipush (i := 40) (v := i32 40) C (by decide +kernel) (by decide) ?_
  refine x_iconst (i := 3) (v := i32 3) C (by decide +kernel) (by decide) ?_
  refine x_iconst (i := (-1)) (v := (-1)) C (by decide +kernel) (by decide) ?_
  refine x_call (op := 1) (i := 35) (mj := 39) (ys := [i32 1, i32 0, i32 3, i32 40, i32 3, -1]) (st0 := [.int (-1), .int (i32 3), .int (i32 40), .int (i32 3), .int (i32 0), .int (i32 1), .ref 0]) (rest := []) C hfl (by decide) rfl E_queue (Or.inr (Or.inl ⟨rfl, by decide +kernel⟩)) (rm_l (by decide)) (by omega) (by omega) rfl ?_
  refine x_iconst (i := 0) (v := i32 0) C (by decide +kernel) (by decide) ?_
  refine x_istore (i := 2) (L2 := L2 s bs (i32 0)) C (by decide +kernel) (by decide) rfl ?_
  exact x_less (by omega) (by omega) (drawn_loop C hfl hr hlk hX hbs hLn 24 0 0 (dec m13) J_13 (Nat.le_refl _) rfl)
end LAW
