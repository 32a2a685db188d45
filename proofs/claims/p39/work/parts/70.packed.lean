/-! ===== memory as one number ===== -/
/-- the value of n first, then f of it -/
def sN {α : Type} (n : Nat) (f : Nat → α) : α := Nat.rec (motive := fun _ => α) (f 0) (fun k _ => f k) (Nat.add n 1)
theorem sN_eq {α : Type} {n : Nat} {f : Nat → α} : sN n f = f n := Eq.trans rfl rfl
def bN (x : Int32) : Nat := x.toBitVec.toNat
def R (m a : Nat) : Int32 := Int32.ofNat ((m >>> (32 * a)) % 4294967296)
def Wm (m a : Nat) (x : Int32) : Nat := sN m fun m => sN a fun a => sN (bN x) fun d => m ^^^ ((((m >>> (32 * a)) % 4294967296) ^^^ d) <<< (32 * a))
def ad (o n k j : Nat) : Nat := bif Nat.blt j n then o + j else 8192 + (k + 512 * j)
/-- rows of the memory: name, first place, length -/
def tabA : List (Nat × Nat × Nat) := [(292, 0, 20), (293, 20, 7), (294, 27, 7), (295, 34, 84), (296, 118, 30), (301, 148, 30), (302, 178, 30), (303, 208, 30), (304, 238, 30), (305, 268, 30), (306, 298, 30), (307, 328, 300), (308, 628, 300), (310, 928, 30), (311, 958, 60), (312, 1018, 60), (313, 1078, 60), (314, 1138, 60), (315, 1198, 60), (316, 1258, 60), (317, 1318, 60), (318, 1378, 60), (319, 1438, 240), (320, 1678, 60), (321, 1738, 60), (322, 1798, 60), (323, 1858, 60), (324, 1918, 60), (325, 1978, 60), (326, 2038, 6), (327, 2044, 6), (328, 2050, 6), (329, 2056, 6), (330, 2062, 6), (331, 2068, 6), (410, 2074, 60), (418, 2134, 60), (420, 2194, 60), (433, 2254, 30), (434, 2284, 30), (435, 2314, 30), (436, 2344, 30), (437, 2374, 30), (438, 2404, 30), (439, 2434, 30), (440, 2464, 30), (441, 2494, 30), (442, 2524, 30), (443, 2554, 30), (444, 2584, 30), (470, 2614, 1), (475, 2615, 60), (309, 2675, 930), (471, 3605, 1024), (472, 4629, 1024), (473, 5653, 1024), (474, 6677, 1024)]
def lkA : List (Nat × Nat × Nat) → Nat → Nat × Nat
  | [], _ => (0, 0)
  | q :: r, k => bif Nat.beq q.1 k then q.2 else lkA r k
def adK (k j : Nat) : Nat := ad (lkA tabA k).1 (lkA tabA k).2 k j
def dec (m : Nat) : Sg := fun k j => if k < 512 then R m (adK k j) else 0
theorem bN_lt (x : Int32) : bN x < 4294967296 := x.toBitVec.isLt
theorem of_bN (x : Int32) : Int32.ofNat (bN x) = x := by
  apply Int32.toBitVec_inj.mp
  unfold bN
  simp
theorem R_W (m a b : Nat) (x : Int32) : R (Wm m a x) b = if b = a then x else R m b := by
  have hd := bN_lt x
  have e : Wm m a x = m ^^^ ((((m >>> (32 * a)) % 4294967296) ^^^ bN x) <<< (32 * a)) := rfl
  rw [e]
  unfold R
  by_cases h : b = a
  · subst h
    rw [if_pos rfl]
    have e2 : ((m ^^^ ((((m >>> (32 * b)) % 4294967296) ^^^ bN x) <<< (32 * b))) >>> (32 * b)) % 4294967296 = bN x := by
      apply Nat.eq_of_testBit_eq
      intro i
      rw [show (4294967296 : Nat) = 2 ^ 32 from rfl, Nat.testBit_mod_two_pow, Nat.testBit_shiftRight, Nat.testBit_xor, Nat.testBit_shiftLeft, Nat.testBit_xor, Nat.testBit_mod_two_pow, Nat.add_sub_cancel_left, Nat.testBit_shiftRight]
      by_cases hi : i < 32
      · simp [hi]
      · have : (bN x).testBit i = false := Nat.testBit_lt_two_pow (Nat.lt_of_lt_of_le (show bN x < 2 ^ 32 from hd) (Nat.pow_le_pow_right (by decide) (by omega)))
        simp [hi, this]
    rw [e2, of_bN]
  · rw [if_neg h]
    congr 1
    apply Nat.eq_of_testBit_eq
    intro i
    rw [show (4294967296 : Nat) = 2 ^ 32 from rfl, Nat.testBit_mod_two_pow, Nat.testBit_mod_two_pow, Nat.testBit_shiftRight, Nat.testBit_shiftRight, Nat.testBit_xor, Nat.testBit_shiftLeft, Nat.testBit_xor, Nat.testBit_mod_two_pow]
    by_cases hi : i < 32
    · by_cases h2 : 32 * b + i ≥ 32 * a
      · have h3 : ¬ 32 * b + i - 32 * a < 32 := by omega
        have : (bN x).testBit (32 * b + i - 32 * a) = false := Nat.testBit_lt_two_pow (Nat.lt_of_lt_of_le (show bN x < 2 ^ 32 from hd) (Nat.pow_le_pow_right (by decide) (by omega)))
        simp [h3, this]
      · simp [h2]
    · simp [hi]
theorem lkA_mem : ∀ {L : List (Nat × Nat × Nat)} {k : Nat}, 0 < (lkA L k).2 → (k, lkA L k) ∈ L
  | [], k, h => by simp [lkA] at h
  | q :: r, k, h => by
    simp only [lkA] at h ⊢
    cases hq : Nat.beq q.1 k
    · rw [hq] at h
      exact List.mem_cons_of_mem _ (lkA_mem h)
    · have e := Nat.beq_eq.mp hq
      subst e
      exact List.mem_cons_self
def disj (p q : Nat × Nat × Nat) : Bool := Nat.beq p.1 q.1 || (Nat.ble (p.2.1 + p.2.2) q.2.1 || Nat.ble (q.2.1 + q.2.2) p.2.1)
theorem tabA_d : tabA.all (fun p => tabA.all (fun q => disj p q)) = true := by decide +kernel
theorem tabA_b : tabA.all (fun p => Nat.ble (p.2.1 + p.2.2) 8192) = true := by decide +kernel
theorem ad_in {o n k j : Nat} (h : j < n) : ad o n k j = o + j := by
  unfold ad
  rw [Nat.blt_eq.mpr h]
  rfl
theorem ad_out {o n k j : Nat} (h : ¬ j < n) : ad o n k j = 8192 + (k + 512 * j) := by
  unfold ad
  have : Nat.blt j n = false := by
    cases hb : Nat.blt j n
    · rfl
    · exact absurd (Nat.blt_eq.mp hb) h
  rw [this]
  rfl
theorem adK_inj {k j a i : Nat} (hk : k < 512) (ha : a < 512) (h : adK k j = adK a i) : k = a ∧ j = i := by
  unfold adK at h
  by_cases h1 : j < (lkA tabA k).2
  · have m1 := lkA_mem (Nat.lt_of_le_of_lt (Nat.zero_le j) h1)
    have b1 := Nat.le_of_ble_eq_true (List.all_eq_true.mp tabA_b _ m1)
    dsimp only at b1
    rw [ad_in h1] at h
    by_cases h2 : i < (lkA tabA a).2
    · have m2 := lkA_mem (Nat.lt_of_le_of_lt (Nat.zero_le i) h2)
      rw [ad_in h2] at h
      have d := List.all_eq_true.mp (List.all_eq_true.mp tabA_d _ m1) _ m2
      unfold disj at d
      simp only [Bool.or_eq_true, Nat.beq_eq, Nat.ble_eq] at d
      rcases d with d | d | d
      · subst d
        exact ⟨rfl, by omega⟩
      · omega
      · omega
    · rw [ad_out h2] at h
      omega
  · rw [ad_out h1] at h
    by_cases h2 : i < (lkA tabA a).2
    · have m2 := lkA_mem (Nat.lt_of_le_of_lt (Nat.zero_le i) h2)
      have b2 := Nat.le_of_ble_eq_true (List.all_eq_true.mp tabA_b _ m2)
      dsimp only at b2
      rw [ad_in h2] at h
      omega
    · rw [ad_out h2] at h
      omega
theorem up_dec {m k j : Nat} {x : Int32} (hk : k < 512) : up2 (dec m) k j x = dec (Wm m (adK k j) x) := by
  funext a i
  unfold up2 dec
  by_cases ha : a < 512
  · rw [if_pos ha, if_pos ha, R_W]
    by_cases h : a = k ∧ i = j
    · obtain ⟨rfl, rfl⟩ := h
      rw [if_pos ⟨rfl, rfl⟩, if_pos rfl]
    · rw [if_neg h, if_neg (fun q => h (adK_inj ha hk q))]
  · rw [if_neg ha, if_neg ha, if_neg (fun q => ha (by rw [q.1]; exact hk))]
def d2 (p : Int32 × Nat) : Int32 × Sg := (p.1, dec p.2)
abbrev PN : Type := (Int32 ⊕ Nat) × Nat
def dP (p : PN) : PO := (p.1, dec p.2)
/-- f of a value that comes first -/
def bndF {α : Type} (a : Nat) (f : Nat → α) : α := sN a f
def bnd2F {α : Type} (a : Int32 × Nat) (f : Int32 → Nat → α) : α := sN a.2 fun m => sN (bN a.1) fun v => f (Int32.ofNat v) m
theorem bndF_eq {α : Type} {a : Nat} {f : Nat → α} : bndF a f = bnd a f := Eq.trans rfl rfl
theorem bnd2F_eq {α : Type} {a : Int32 × Nat} {f : Int32 → Nat → α} : bnd2F a f = bnd2 a f := by
  show f (Int32.ofNat (bN a.1)) a.2 = f a.1 a.2
  rw [of_bN]
theorem bnd_d {α : Type} {a : Nat} {f : Sg → α} : bnd (dec a) f = bnd a (fun m => f (dec m)) := Eq.trans rfl rfl
theorem bnd2_d {α : Type} {a : Int32 × Nat} {f : Int32 → Sg → α} : bnd2 (d2 a) f = bnd2 a (fun v m => f v (dec m)) := Eq.trans rfl rfl
theorem dec_bnd {a : Nat} {f : Nat → Nat} : dec (bnd a f) = bnd a (fun m => dec (f m)) := Eq.trans rfl rfl
theorem d2_bnd {a : Nat} {f : Nat → Int32 × Nat} : d2 (bnd a f) = bnd a (fun m => d2 (f m)) := Eq.trans rfl rfl
theorem dP_bnd {a : Nat} {f : Nat → PN} : dP (bnd a f) = bnd a (fun m => dP (f m)) := Eq.trans rfl rfl
theorem dec_bnd2 {a : Int32 × Nat} {f : Int32 → Nat → Nat} : dec (bnd2 a f) = bnd2 a (fun v m => dec (f v m)) := Eq.trans rfl rfl
theorem d2_bnd2 {a : Int32 × Nat} {f : Int32 → Nat → Int32 × Nat} : d2 (bnd2 a f) = bnd2 a (fun v m => d2 (f v m)) := Eq.trans rfl rfl
theorem dP_bnd2 {a : Int32 × Nat} {f : Int32 → Nat → PN} : dP (bnd2 a f) = bnd2 a (fun v m => dP (f v m)) := Eq.trans rfl rfl
theorem dec_ite {c : Prop} [Decidable c] {a b : Nat} : dec (if c then a else b) = if c then dec a else dec b := by split <;> rfl
theorem d2_ite {c : Prop} [Decidable c] {a b : Int32 × Nat} : d2 (if c then a else b) = if c then d2 a else d2 b := by split <;> rfl
theorem dP_ite {c : Prop} [Decidable c] {a b : PN} : dP (if c then a else b) = if c then dP a else dP b := by split <;> rfl
theorem ite_t9 {α : Type} {c d : Prop} [Decidable c] [Decidable d] {a b a1 b1 : α} (h : c = d) (ha : a = a1) (hb : b = b1) : (if c then a else b) = (if d then a1 else b1) := by
  subst h
  subst ha
  subst hb
  by_cases q : c
  · rw [if_pos q, if_pos q]
  · rw [if_neg q, if_neg q]
theorem bnd_c9 {α β : Type} {a : α} {f g : α → β} (h : ∀ m, f m = g m) : bnd a f = bnd a g := by
  rw [show f = g from funext h]
theorem bnd2_c9 {α β γ : Type} {a : α × β} {f g : α → β → γ} (h : ∀ v m, f v m = g v m) : bnd2 a f = bnd2 a g := by
  rw [show f = g from funext fun v => funext fun m => h v m]
theorem d2_mk {v : Int32} {m : Nat} : d2 (v, m) = (v, dec m) := Eq.trans rfl rfl
theorem dP_mk {v : Int32 ⊕ Nat} {m : Nat} : dP (v, m) = (v, dec m) := Eq.trans rfl rfl
theorem dk_292 {m j : Nat} : dec m 292 j = R m (ad 0 20 292 j) := Eq.trans rfl rfl
theorem ud_292 {m j : Nat} {x : Int32} : up2 (dec m) 292 j x = dec (Wm m (ad 0 20 292 j) x) := up_dec (by decide)
theorem dk_293 {m j : Nat} : dec m 293 j = R m (ad 20 7 293 j) := Eq.trans rfl rfl
theorem ud_293 {m j : Nat} {x : Int32} : up2 (dec m) 293 j x = dec (Wm m (ad 20 7 293 j) x) := up_dec (by decide)
theorem dk_294 {m j : Nat} : dec m 294 j = R m (ad 27 7 294 j) := Eq.trans rfl rfl
theorem ud_294 {m j : Nat} {x : Int32} : up2 (dec m) 294 j x = dec (Wm m (ad 27 7 294 j) x) := up_dec (by decide)
theorem dk_295 {m j : Nat} : dec m 295 j = R m (ad 34 84 295 j) := Eq.trans rfl rfl
theorem ud_295 {m j : Nat} {x : Int32} : up2 (dec m) 295 j x = dec (Wm m (ad 34 84 295 j) x) := up_dec (by decide)
theorem dk_296 {m j : Nat} : dec m 296 j = R m (ad 118 30 296 j) := Eq.trans rfl rfl
theorem ud_296 {m j : Nat} {x : Int32} : up2 (dec m) 296 j x = dec (Wm m (ad 118 30 296 j) x) := up_dec (by decide)
theorem dk_301 {m j : Nat} : dec m 301 j = R m (ad 148 30 301 j) := Eq.trans rfl rfl
theorem ud_301 {m j : Nat} {x : Int32} : up2 (dec m) 301 j x = dec (Wm m (ad 148 30 301 j) x) := up_dec (by decide)
theorem dk_302 {m j : Nat} : dec m 302 j = R m (ad 178 30 302 j) := Eq.trans rfl rfl
theorem ud_302 {m j : Nat} {x : Int32} : up2 (dec m) 302 j x = dec (Wm m (ad 178 30 302 j) x) := up_dec (by decide)
theorem dk_303 {m j : Nat} : dec m 303 j = R m (ad 208 30 303 j) := Eq.trans rfl rfl
theorem ud_303 {m j : Nat} {x : Int32} : up2 (dec m) 303 j x = dec (Wm m (ad 208 30 303 j) x) := up_dec (by decide)
theorem dk_304 {m j : Nat} : dec m 304 j = R m (ad 238 30 304 j) := Eq.trans rfl rfl
theorem ud_304 {m j : Nat} {x : Int32} : up2 (dec m) 304 j x = dec (Wm m (ad 238 30 304 j) x) := up_dec (by decide)
theorem dk_305 {m j : Nat} : dec m 305 j = R m (ad 268 30 305 j) := Eq.trans rfl rfl
theorem ud_305 {m j : Nat} {x : Int32} : up2 (dec m) 305 j x = dec (Wm m (ad 268 30 305 j) x) := up_dec (by decide)
theorem dk_306 {m j : Nat} : dec m 306 j = R m (ad 298 30 306 j) := Eq.trans rfl rfl
theorem ud_306 {m j : Nat} {x : Int32} : up2 (dec m) 306 j x = dec (Wm m (ad 298 30 306 j) x) := up_dec (by decide)
theorem dk_307 {m j : Nat} : dec m 307 j = R m (ad 328 300 307 j) := Eq.trans rfl rfl
theorem ud_307 {m j : Nat} {x : Int32} : up2 (dec m) 307 j x = dec (Wm m (ad 328 300 307 j) x) := up_dec (by decide)
theorem dk_308 {m j : Nat} : dec m 308 j = R m (ad 628 300 308 j) := Eq.trans rfl rfl
theorem ud_308 {m j : Nat} {x : Int32} : up2 (dec m) 308 j x = dec (Wm m (ad 628 300 308 j) x) := up_dec (by decide)
theorem dk_310 {m j : Nat} : dec m 310 j = R m (ad 928 30 310 j) := Eq.trans rfl rfl
theorem ud_310 {m j : Nat} {x : Int32} : up2 (dec m) 310 j x = dec (Wm m (ad 928 30 310 j) x) := up_dec (by decide)
theorem dk_311 {m j : Nat} : dec m 311 j = R m (ad 958 60 311 j) := Eq.trans rfl rfl
theorem ud_311 {m j : Nat} {x : Int32} : up2 (dec m) 311 j x = dec (Wm m (ad 958 60 311 j) x) := up_dec (by decide)
theorem dk_312 {m j : Nat} : dec m 312 j = R m (ad 1018 60 312 j) := Eq.trans rfl rfl
theorem ud_312 {m j : Nat} {x : Int32} : up2 (dec m) 312 j x = dec (Wm m (ad 1018 60 312 j) x) := up_dec (by decide)
theorem dk_313 {m j : Nat} : dec m 313 j = R m (ad 1078 60 313 j) := Eq.trans rfl rfl
theorem ud_313 {m j : Nat} {x : Int32} : up2 (dec m) 313 j x = dec (Wm m (ad 1078 60 313 j) x) := up_dec (by decide)
theorem dk_314 {m j : Nat} : dec m 314 j = R m (ad 1138 60 314 j) := Eq.trans rfl rfl
theorem ud_314 {m j : Nat} {x : Int32} : up2 (dec m) 314 j x = dec (Wm m (ad 1138 60 314 j) x) := up_dec (by decide)
theorem dk_315 {m j : Nat} : dec m 315 j = R m (ad 1198 60 315 j) := Eq.trans rfl rfl
theorem ud_315 {m j : Nat} {x : Int32} : up2 (dec m) 315 j x = dec (Wm m (ad 1198 60 315 j) x) := up_dec (by decide)
theorem dk_316 {m j : Nat} : dec m 316 j = R m (ad 1258 60 316 j) := Eq.trans rfl rfl
theorem ud_316 {m j : Nat} {x : Int32} : up2 (dec m) 316 j x = dec (Wm m (ad 1258 60 316 j) x) := up_dec (by decide)
theorem dk_317 {m j : Nat} : dec m 317 j = R m (ad 1318 60 317 j) := Eq.trans rfl rfl
theorem ud_317 {m j : Nat} {x : Int32} : up2 (dec m) 317 j x = dec (Wm m (ad 1318 60 317 j) x) := up_dec (by decide)
theorem dk_318 {m j : Nat} : dec m 318 j = R m (ad 1378 60 318 j) := Eq.trans rfl rfl
theorem ud_318 {m j : Nat} {x : Int32} : up2 (dec m) 318 j x = dec (Wm m (ad 1378 60 318 j) x) := up_dec (by decide)
theorem dk_319 {m j : Nat} : dec m 319 j = R m (ad 1438 240 319 j) := Eq.trans rfl rfl
theorem ud_319 {m j : Nat} {x : Int32} : up2 (dec m) 319 j x = dec (Wm m (ad 1438 240 319 j) x) := up_dec (by decide)
theorem dk_320 {m j : Nat} : dec m 320 j = R m (ad 1678 60 320 j) := Eq.trans rfl rfl
theorem ud_320 {m j : Nat} {x : Int32} : up2 (dec m) 320 j x = dec (Wm m (ad 1678 60 320 j) x) := up_dec (by decide)
theorem dk_321 {m j : Nat} : dec m 321 j = R m (ad 1738 60 321 j) := Eq.trans rfl rfl
theorem ud_321 {m j : Nat} {x : Int32} : up2 (dec m) 321 j x = dec (Wm m (ad 1738 60 321 j) x) := up_dec (by decide)
theorem dk_322 {m j : Nat} : dec m 322 j = R m (ad 1798 60 322 j) := Eq.trans rfl rfl
theorem ud_322 {m j : Nat} {x : Int32} : up2 (dec m) 322 j x = dec (Wm m (ad 1798 60 322 j) x) := up_dec (by decide)
theorem dk_323 {m j : Nat} : dec m 323 j = R m (ad 1858 60 323 j) := Eq.trans rfl rfl
theorem ud_323 {m j : Nat} {x : Int32} : up2 (dec m) 323 j x = dec (Wm m (ad 1858 60 323 j) x) := up_dec (by decide)
theorem dk_324 {m j : Nat} : dec m 324 j = R m (ad 1918 60 324 j) := Eq.trans rfl rfl
theorem ud_324 {m j : Nat} {x : Int32} : up2 (dec m) 324 j x = dec (Wm m (ad 1918 60 324 j) x) := up_dec (by decide)
theorem dk_325 {m j : Nat} : dec m 325 j = R m (ad 1978 60 325 j) := Eq.trans rfl rfl
theorem ud_325 {m j : Nat} {x : Int32} : up2 (dec m) 325 j x = dec (Wm m (ad 1978 60 325 j) x) := up_dec (by decide)
theorem dk_326 {m j : Nat} : dec m 326 j = R m (ad 2038 6 326 j) := Eq.trans rfl rfl
theorem ud_326 {m j : Nat} {x : Int32} : up2 (dec m) 326 j x = dec (Wm m (ad 2038 6 326 j) x) := up_dec (by decide)
theorem dk_327 {m j : Nat} : dec m 327 j = R m (ad 2044 6 327 j) := Eq.trans rfl rfl
theorem ud_327 {m j : Nat} {x : Int32} : up2 (dec m) 327 j x = dec (Wm m (ad 2044 6 327 j) x) := up_dec (by decide)
theorem dk_328 {m j : Nat} : dec m 328 j = R m (ad 2050 6 328 j) := Eq.trans rfl rfl
theorem ud_328 {m j : Nat} {x : Int32} : up2 (dec m) 328 j x = dec (Wm m (ad 2050 6 328 j) x) := up_dec (by decide)
theorem dk_329 {m j : Nat} : dec m 329 j = R m (ad 2056 6 329 j) := Eq.trans rfl rfl
theorem ud_329 {m j : Nat} {x : Int32} : up2 (dec m) 329 j x = dec (Wm m (ad 2056 6 329 j) x) := up_dec (by decide)
theorem dk_330 {m j : Nat} : dec m 330 j = R m (ad 2062 6 330 j) := Eq.trans rfl rfl
theorem ud_330 {m j : Nat} {x : Int32} : up2 (dec m) 330 j x = dec (Wm m (ad 2062 6 330 j) x) := up_dec (by decide)
theorem dk_331 {m j : Nat} : dec m 331 j = R m (ad 2068 6 331 j) := Eq.trans rfl rfl
theorem ud_331 {m j : Nat} {x : Int32} : up2 (dec m) 331 j x = dec (Wm m (ad 2068 6 331 j) x) := up_dec (by decide)
theorem dk_410 {m j : Nat} : dec m 410 j = R m (ad 2074 60 410 j) := Eq.trans rfl rfl
theorem ud_410 {m j : Nat} {x : Int32} : up2 (dec m) 410 j x = dec (Wm m (ad 2074 60 410 j) x) := up_dec (by decide)
theorem dk_418 {m j : Nat} : dec m 418 j = R m (ad 2134 60 418 j) := Eq.trans rfl rfl
theorem ud_418 {m j : Nat} {x : Int32} : up2 (dec m) 418 j x = dec (Wm m (ad 2134 60 418 j) x) := up_dec (by decide)
theorem dk_420 {m j : Nat} : dec m 420 j = R m (ad 2194 60 420 j) := Eq.trans rfl rfl
theorem ud_420 {m j : Nat} {x : Int32} : up2 (dec m) 420 j x = dec (Wm m (ad 2194 60 420 j) x) := up_dec (by decide)
theorem dk_433 {m j : Nat} : dec m 433 j = R m (ad 2254 30 433 j) := Eq.trans rfl rfl
theorem ud_433 {m j : Nat} {x : Int32} : up2 (dec m) 433 j x = dec (Wm m (ad 2254 30 433 j) x) := up_dec (by decide)
theorem dk_434 {m j : Nat} : dec m 434 j = R m (ad 2284 30 434 j) := Eq.trans rfl rfl
theorem ud_434 {m j : Nat} {x : Int32} : up2 (dec m) 434 j x = dec (Wm m (ad 2284 30 434 j) x) := up_dec (by decide)
theorem dk_435 {m j : Nat} : dec m 435 j = R m (ad 2314 30 435 j) := Eq.trans rfl rfl
theorem ud_435 {m j : Nat} {x : Int32} : up2 (dec m) 435 j x = dec (Wm m (ad 2314 30 435 j) x) := up_dec (by decide)
theorem dk_436 {m j : Nat} : dec m 436 j = R m (ad 2344 30 436 j) := Eq.trans rfl rfl
theorem ud_436 {m j : Nat} {x : Int32} : up2 (dec m) 436 j x = dec (Wm m (ad 2344 30 436 j) x) := up_dec (by decide)
theorem dk_437 {m j : Nat} : dec m 437 j = R m (ad 2374 30 437 j) := Eq.trans rfl rfl
theorem ud_437 {m j : Nat} {x : Int32} : up2 (dec m) 437 j x = dec (Wm m (ad 2374 30 437 j) x) := up_dec (by decide)
theorem dk_438 {m j : Nat} : dec m 438 j = R m (ad 2404 30 438 j) := Eq.trans rfl rfl
theorem ud_438 {m j : Nat} {x : Int32} : up2 (dec m) 438 j x = dec (Wm m (ad 2404 30 438 j) x) := up_dec (by decide)
theorem dk_439 {m j : Nat} : dec m 439 j = R m (ad 2434 30 439 j) := Eq.trans rfl rfl
theorem ud_439 {m j : Nat} {x : Int32} : up2 (dec m) 439 j x = dec (Wm m (ad 2434 30 439 j) x) := up_dec (by decide)
theorem dk_440 {m j : Nat} : dec m 440 j = R m (ad 2464 30 440 j) := Eq.trans rfl rfl
theorem ud_440 {m j : Nat} {x : Int32} : up2 (dec m) 440 j x = dec (Wm m (ad 2464 30 440 j) x) := up_dec (by decide)
theorem dk_441 {m j : Nat} : dec m 441 j = R m (ad 2494 30 441 j) := Eq.trans rfl rfl
theorem ud_441 {m j : Nat} {x : Int32} : up2 (dec m) 441 j x = dec (Wm m (ad 2494 30 441 j) x) := up_dec (by decide)
theorem dk_442 {m j : Nat} : dec m 442 j = R m (ad 2524 30 442 j) := Eq.trans rfl rfl
theorem ud_442 {m j : Nat} {x : Int32} : up2 (dec m) 442 j x = dec (Wm m (ad 2524 30 442 j) x) := up_dec (by decide)
theorem dk_443 {m j : Nat} : dec m 443 j = R m (ad 2554 30 443 j) := Eq.trans rfl rfl
theorem ud_443 {m j : Nat} {x : Int32} : up2 (dec m) 443 j x = dec (Wm m (ad 2554 30 443 j) x) := up_dec (by decide)
theorem dk_444 {m j : Nat} : dec m 444 j = R m (ad 2584 30 444 j) := Eq.trans rfl rfl
theorem ud_444 {m j : Nat} {x : Int32} : up2 (dec m) 444 j x = dec (Wm m (ad 2584 30 444 j) x) := up_dec (by decide)
theorem dk_470 {m j : Nat} : dec m 470 j = R m (ad 2614 1 470 j) := Eq.trans rfl rfl
theorem ud_470 {m j : Nat} {x : Int32} : up2 (dec m) 470 j x = dec (Wm m (ad 2614 1 470 j) x) := up_dec (by decide)
theorem dk_475 {m j : Nat} : dec m 475 j = R m (ad 2615 60 475 j) := Eq.trans rfl rfl
theorem ud_475 {m j : Nat} {x : Int32} : up2 (dec m) 475 j x = dec (Wm m (ad 2615 60 475 j) x) := up_dec (by decide)
theorem dk_309 {m j : Nat} : dec m 309 j = R m (ad 2675 930 309 j) := Eq.trans rfl rfl
theorem ud_309 {m j : Nat} {x : Int32} : up2 (dec m) 309 j x = dec (Wm m (ad 2675 930 309 j) x) := up_dec (by decide)
theorem dk_471 {m j : Nat} : dec m 471 j = R m (ad 3605 1024 471 j) := Eq.trans rfl rfl
theorem ud_471 {m j : Nat} {x : Int32} : up2 (dec m) 471 j x = dec (Wm m (ad 3605 1024 471 j) x) := up_dec (by decide)
theorem dk_472 {m j : Nat} : dec m 472 j = R m (ad 4629 1024 472 j) := Eq.trans rfl rfl
theorem ud_472 {m j : Nat} {x : Int32} : up2 (dec m) 472 j x = dec (Wm m (ad 4629 1024 472 j) x) := up_dec (by decide)
theorem dk_473 {m j : Nat} : dec m 473 j = R m (ad 5653 1024 473 j) := Eq.trans rfl rfl
theorem ud_473 {m j : Nat} {x : Int32} : up2 (dec m) 473 j x = dec (Wm m (ad 5653 1024 473 j) x) := up_dec (by decide)
theorem dk_474 {m j : Nat} : dec m 474 j = R m (ad 6677 1024 474 j) := Eq.trans rfl rfl
theorem ud_474 {m j : Nat} {x : Int32} : up2 (dec m) 474 j x = dec (Wm m (ad 6677 1024 474 j) x) := up_dec (by decide)
def quietF (m : Nat) : Nat → Bool
  | 0 => true
  | n + 1 => quietF m n && decide (R m (ad 958 60 311 n) = 5)
theorem qk {m n : Nat} : quiet (dec m) n = (quietF m n = true) := by
  apply propext
  unfold quiet
  induction n with
  | zero => simp [quietF]
  | succ n ih =>
    simp only [quietF, Bool.and_eq_true, decide_eq_true_eq, ← ih]
    constructor
    · intro h
      exact ⟨fun k hk => h k (Nat.lt_succ_of_lt hk), h n (Nat.lt_succ_self n)⟩
    · intro h k hk
      rcases Nat.lt_succ_iff_lt_or_eq.mp hk with q | rfl
      · exact h.1 k q
      · exact h.2
