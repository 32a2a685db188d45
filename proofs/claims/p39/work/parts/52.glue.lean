/-! ===== two memories: the class's by logical place, the model's; a run of one leaves the other ===== -/
/-- cells of the model -/
def mdl (k : Nat) : Bool := decide (292 ≤ k) && decide (k ≠ 332)
def nsF (j : Nat) : Nat := if j = 0 then 296 else if j = 1 then 301 else if j = 2 then 302 else if j = 4 then 303 else if j = 5 then 304 else if j = 6 then 305 else 430 + j
def lsF (j : Nat) : Nat := if j = 1 then 311 else if j = 2 then 312 else if j = 3 then 313 else if j = 4 then 325 else if j = 5 then 316 else if j = 6 then 317 else if j = 7 then 314 else if j = 9 then 315 else if j = 11 then 320 else if j = 12 then 321 else if j = 13 then 322 else if j = 14 then 324 else if j = 15 then 323 else if j = 17 then 318 else 410 + j
def dsF (j : Nat) : Nat := if j = 0 then 326 else if j = 1 then 327 else if j = 2 then 331 else if j = 3 then 329 else if j = 4 then 330 else 328
/-- the logical place of a cell's slot -/
def aF (k j : Nat) : Nat × Nat :=
  if k < 46 then (if k = 0 then (if j = 7 then (292, 19) else if j = 8 then (292, 0) else (1000, j))
    else if k = 5 then (293, j) else if k = 6 then (294, j) else if k = 7 then (295, j) else if k = 8 then (if j = 4 then (470, 0) else (1008, j))
    else if k = 9 then (471, j) else if k = 10 then (472, j) else if k = 11 then (473, j) else if k = 12 then (474, j) else if k = 13 then (475, j)
    else if 15 ≤ k ∧ k < 45 ∧ j < 31 then (309, 31 * (k - 15) + (if j = 0 then 30 else j - 1)) else if k = 45 then (310, j) else (1000 + k, j))
  else if k < 166 then (if (k - 46) % 4 = 0 ∧ j < 15 then (nsF j, (k - 46) / 4) else if (k - 46) % 4 = 1 ∧ j = 2 then (306, (k - 46) / 4)
    else if (k - 46) % 4 = 2 ∧ j < 10 then (307, 10 * ((k - 46) / 4) + j) else if (k - 46) % 4 = 3 ∧ j < 10 then (308, 10 * ((k - 46) / 4) + j) else (1000 + k, j))
  else if k < 286 then (if (k - 166) % 2 = 0 ∧ j < 18 ∧ j ≠ 16 then (lsF j, (k - 166) / 2) else if (k - 166) % 2 = 1 ∧ j < 4 then (319, 4 * ((k - 166) / 2) + j) else (1000 + k, j))
  else if k < 292 then (if j < 6 then (dsF j, k - 286) else (1000 + k, j))
  else (k, j)
/-- back from there -/
def aI (F I : Nat) : Nat × Nat :=
  if 1000 ≤ F then (F - 1000, I)
  else if F = 292 then (0, if I = 19 then 7 else 8) else if F = 293 then (5, I) else if F = 294 then (6, I) else if F = 295 then (7, I) else if F = 470 then (8, 4)
  else if F = 471 then (9, I) else if F = 472 then (10, I) else if F = 473 then (11, I) else if F = 474 then (12, I) else if F = 475 then (13, I)
  else if F = 309 then (15 + I / 31, if I % 31 = 30 then 0 else I % 31 + 1) else if F = 310 then (45, I)
  else if F = 296 then (46 + 4 * I, 0) else if F = 301 then (46 + 4 * I, 1) else if F = 302 then (46 + 4 * I, 2) else if F = 303 then (46 + 4 * I, 4) else if F = 304 then (46 + 4 * I, 5) else if F = 305 then (46 + 4 * I, 6)
  else if 430 ≤ F ∧ F < 470 then (46 + 4 * I, F - 430) else if F = 306 then (47 + 4 * I, 2) else if F = 307 then (48 + 4 * (I / 10), I % 10) else if F = 308 then (49 + 4 * (I / 10), I % 10)
  else if F = 311 then (166 + 2 * I, 1) else if F = 312 then (166 + 2 * I, 2) else if F = 313 then (166 + 2 * I, 3) else if F = 325 then (166 + 2 * I, 4) else if F = 316 then (166 + 2 * I, 5) else if F = 317 then (166 + 2 * I, 6) else if F = 314 then (166 + 2 * I, 7)
  else if F = 315 then (166 + 2 * I, 9) else if F = 320 then (166 + 2 * I, 11) else if F = 321 then (166 + 2 * I, 12) else if F = 322 then (166 + 2 * I, 13) else if F = 324 then (166 + 2 * I, 14) else if F = 323 then (166 + 2 * I, 15) else if F = 318 then (166 + 2 * I, 17)
  else if 410 ≤ F ∧ F < 430 then (166 + 2 * I, F - 410) else if F = 319 then (167 + 2 * (I / 4), I % 4)
  else if F = 326 then (286 + I, 0) else if F = 327 then (286 + I, 1) else if F = 331 then (286 + I, 2) else if F = 329 then (286 + I, 3) else if F = 330 then (286 + I, 4) else if F = 328 then (286 + I, 5) else (F, I)
theorem aI_ns : ∀ (j q : Nat), j < 15 → aI (nsF j) q = (46 + 4 * q, j)
  | 0, q, _ => by simp [aI, nsF]
  | 1, q, _ => by simp [aI, nsF]
  | 2, q, _ => by simp [aI, nsF]
  | 3, q, _ => by simp [aI, nsF]
  | 4, q, _ => by simp [aI, nsF]
  | 5, q, _ => by simp [aI, nsF]
  | 6, q, _ => by simp [aI, nsF]
  | 7, q, _ => by simp [aI, nsF]
  | 8, q, _ => by simp [aI, nsF]
  | 9, q, _ => by simp [aI, nsF]
  | 10, q, _ => by simp [aI, nsF]
  | 11, q, _ => by simp [aI, nsF]
  | 12, q, _ => by simp [aI, nsF]
  | 13, q, _ => by simp [aI, nsF]
  | 14, q, _ => by simp [aI, nsF]
  | j + 15, _, h => absurd h (by omega)
theorem aI_ls : ∀ (j q : Nat), j < 18 → j ≠ 16 → aI (lsF j) q = (166 + 2 * q, j)
  | 0, q, _, _ => by simp [aI, lsF]
  | 1, q, _, _ => by simp [aI, lsF]
  | 2, q, _, _ => by simp [aI, lsF]
  | 3, q, _, _ => by simp [aI, lsF]
  | 4, q, _, _ => by simp [aI, lsF]
  | 5, q, _, _ => by simp [aI, lsF]
  | 6, q, _, _ => by simp [aI, lsF]
  | 7, q, _, _ => by simp [aI, lsF]
  | 8, q, _, _ => by simp [aI, lsF]
  | 9, q, _, _ => by simp [aI, lsF]
  | 10, q, _, _ => by simp [aI, lsF]
  | 11, q, _, _ => by simp [aI, lsF]
  | 12, q, _, _ => by simp [aI, lsF]
  | 13, q, _, _ => by simp [aI, lsF]
  | 14, q, _, _ => by simp [aI, lsF]
  | 15, q, _, _ => by simp [aI, lsF]
  | 16, _, _, h => absurd rfl h
  | 17, q, _, _ => by simp [aI, lsF]
  | j + 18, _, h, _ => absurd h (by omega)
theorem aI_ds : ∀ (j q : Nat), j < 6 → aI (dsF j) q = (286 + q, j)
  | 0, q, _ => by simp [aI, dsF]
  | 1, q, _ => by simp [aI, dsF]
  | 2, q, _ => by simp [aI, dsF]
  | 3, q, _ => by simp [aI, dsF]
  | 4, q, _ => by simp [aI, dsF]
  | 5, q, _ => by simp [aI, dsF]
  | j + 6, _, h => absurd h (by omega)
theorem aI_big (k j : Nat) : aI (1000 + k) j = (k, j) := by
  unfold aI
  rw [if_pos (by omega), Nat.add_sub_cancel_left]
theorem aI_aF (k j : Nat) (hk : mdl k = false) : aI (aF k j).1 (aF k j).2 = (k, j) := by
  have hm : k < 292 ∨ k = 332 := by
    unfold mdl at hk
    by_cases h : 292 ≤ k
    · by_cases h2 : k = 332
      · exact Or.inr h2
      · simp [h, h2] at hk
    · exact Or.inl (by omega)
  unfold aF
  by_cases h46 : k < 46
  · rw [if_pos h46]
    by_cases h0 : k = 0
    · subst h0
      rw [if_pos rfl]
      by_cases h7 : j = 7
      · rw [if_pos h7, h7]; rfl
      · rw [if_neg h7]
        by_cases h8 : j = 8
        · rw [if_pos h8, h8]; rfl
        · rw [if_neg h8]; exact aI_big 0 j
    rw [if_neg h0]
    by_cases h5 : k = 5
    · rw [if_pos h5, h5]; rfl
    rw [if_neg h5]
    by_cases h6 : k = 6
    · rw [if_pos h6, h6]; rfl
    rw [if_neg h6]
    by_cases h7 : k = 7
    · rw [if_pos h7, h7]; rfl
    rw [if_neg h7]
    by_cases h8 : k = 8
    · rw [if_pos h8, h8]
      by_cases h4 : j = 4
      · rw [if_pos h4, h4]; rfl
      · rw [if_neg h4]; exact aI_big 8 j
    rw [if_neg h8]
    by_cases h9 : k = 9
    · rw [if_pos h9, h9]; rfl
    rw [if_neg h9]
    by_cases h10 : k = 10
    · rw [if_pos h10, h10]; rfl
    rw [if_neg h10]
    by_cases h11 : k = 11
    · rw [if_pos h11, h11]; rfl
    rw [if_neg h11]
    by_cases h12 : k = 12
    · rw [if_pos h12, h12]; rfl
    rw [if_neg h12]
    by_cases h13 : k = 13
    · rw [if_pos h13, h13]; rfl
    rw [if_neg h13]
    by_cases hw : 15 ≤ k ∧ k < 45 ∧ j < 31
    · rw [if_pos hw]
      obtain ⟨w1, w2, w3⟩ := hw
      show (15 + (31 * (k - 15) + (if j = 0 then 30 else j - 1)) / 31, if (31 * (k - 15) + (if j = 0 then 30 else j - 1)) % 31 = 30 then 0 else (31 * (k - 15) + (if j = 0 then 30 else j - 1)) % 31 + 1) = (k, j)
      by_cases hj : j = 0
      · rw [if_pos hj]
        have e1 : (31 * (k - 15) + 30) / 31 = k - 15 := by omega
        have e2 : (31 * (k - 15) + 30) % 31 = 30 := by omega
        rw [e1, e2, if_pos rfl, hj, Nat.add_sub_cancel' w1]
      · rw [if_neg hj]
        have e1 : (31 * (k - 15) + (j - 1)) / 31 = k - 15 := by omega
        have e2 : (31 * (k - 15) + (j - 1)) % 31 = j - 1 := by omega
        rw [e1, e2, if_neg (by omega), Nat.add_sub_cancel' w1, Nat.sub_add_cancel (by omega)]
    rw [if_neg hw]
    by_cases h45 : k = 45
    · rw [if_pos h45, h45]; rfl
    rw [if_neg h45]
    exact aI_big k j
  rw [if_neg h46]
  by_cases h166 : k < 166
  · rw [if_pos h166]
    by_cases r0 : (k - 46) % 4 = 0 ∧ j < 15
    · rw [if_pos r0]
      refine (aI_ns j _ r0.2).trans ?_
      rw [show 46 + 4 * ((k - 46) / 4) = k by omega]
    rw [if_neg r0]
    by_cases r1 : (k - 46) % 4 = 1 ∧ j = 2
    · rw [if_pos r1]
      show (47 + 4 * ((k - 46) / 4), 2) = (k, j)
      rw [show 47 + 4 * ((k - 46) / 4) = k by omega, r1.2]
    rw [if_neg r1]
    by_cases r2 : (k - 46) % 4 = 2 ∧ j < 10
    · rw [if_pos r2]
      show (48 + 4 * ((10 * ((k - 46) / 4) + j) / 10), (10 * ((k - 46) / 4) + j) % 10) = (k, j)
      rw [show 48 + 4 * ((10 * ((k - 46) / 4) + j) / 10) = k by omega, show (10 * ((k - 46) / 4) + j) % 10 = j by omega]
    rw [if_neg r2]
    by_cases r3 : (k - 46) % 4 = 3 ∧ j < 10
    · rw [if_pos r3]
      show (49 + 4 * ((10 * ((k - 46) / 4) + j) / 10), (10 * ((k - 46) / 4) + j) % 10) = (k, j)
      rw [show 49 + 4 * ((10 * ((k - 46) / 4) + j) / 10) = k by omega, show (10 * ((k - 46) / 4) + j) % 10 = j by omega]
    rw [if_neg r3]
    exact aI_big k j
  rw [if_neg h166]
  by_cases h286 : k < 286
  · rw [if_pos h286]
    by_cases r0 : (k - 166) % 2 = 0 ∧ j < 18 ∧ j ≠ 16
    · rw [if_pos r0]
      refine (aI_ls j _ r0.2.1 r0.2.2).trans ?_
      rw [show 166 + 2 * ((k - 166) / 2) = k by omega]
    rw [if_neg r0]
    by_cases r1 : (k - 166) % 2 = 1 ∧ j < 4
    · rw [if_pos r1]
      show (167 + 2 * ((4 * ((k - 166) / 2) + j) / 4), (4 * ((k - 166) / 2) + j) % 4) = (k, j)
      rw [show 167 + 2 * ((4 * ((k - 166) / 2) + j) / 4) = k by omega, show (4 * ((k - 166) / 2) + j) % 4 = j by omega]
    rw [if_neg r1]
    exact aI_big k j
  rw [if_neg h286]
  by_cases h292 : k < 292
  · rw [if_pos h292]
    by_cases r0 : j < 6
    · rw [if_pos r0]
      refine (aI_ds j _ r0).trans ?_
      rw [show 286 + (k - 286) = k by omega]
    rw [if_neg r0]
    exact aI_big k j
  rw [if_neg h292]
  obtain rfl : k = 332 := hm.resolve_left h292
  rfl
def GG (σ : Bool) (z w : Sg) : Sg := fun k j => if mdl k = σ then z (aF k j).1 (aF k j).2 else w (aF k j).1 (aF k j).2
theorem GG_rd {σ : Bool} {z w : Sg} {k j F I : Nat} (hm : mdl k = σ) (ha : aF k j = (F, I)) : GG σ z w k j = z F I := by
  unfold GG
  rw [if_pos hm, ha]
theorem aF_mdl {k j : Nat} (h : mdl k = true) : aF k j = (k, j) := by
  unfold mdl at h
  simp only [Bool.and_eq_true, decide_eq_true_eq] at h
  unfold aF
  rw [if_neg (by omega), if_neg (by omega), if_neg (by omega), if_neg (by omega)]
theorem GG_up {σ : Bool} {z w : Sg} {k j F I : Nat} {v : Int32} (hm : mdl k = σ) (ha : aF k j = (F, I)) : up2 (GG σ z w) k j v = GG σ (up2 z F I v) w := by
  funext a i
  unfold up2 GG
  by_cases h : a = k ∧ i = j
  · obtain ⟨rfl, rfl⟩ := h
    rw [if_pos ⟨rfl, rfl⟩, if_pos hm, ha]
    show v = if F = F ∧ I = I then v else z F I
    rw [if_pos ⟨rfl, rfl⟩]
  · rw [if_neg h]
    by_cases h2 : mdl a = σ
    · rw [if_pos h2, if_pos h2]
      show z (aF a i).1 (aF a i).2 = if (aF a i).1 = F ∧ (aF a i).2 = I then v else z (aF a i).1 (aF a i).2
      rw [if_neg ?_]
      intro h3
      apply h
      have e : aF a i = aF k j := by rw [ha]; exact Prod.ext h3.1 h3.2
      cases hs : σ
      · have e1 := aI_aF a i (h2.trans hs)
        have e2 := aI_aF k j (hm.trans hs)
        rw [e, e2] at e1
        have := Prod.mk.inj e1
        exact ⟨this.1.symm, this.2.symm⟩
      · rw [aF_mdl (h2.trans hs), aF_mdl (hm.trans hs)] at e
        exact Prod.mk.inj e
    · rw [if_neg h2, if_neg h2]
theorem up2_up2 {z : Sg} {k j : Nat} {u v : Int32} : up2 (up2 z k j u) k j v = up2 z k j v := by
  funext a i
  unfold up2
  split <;> rfl
/-- a slot of an int in cell k, its logical place, on this side -/
def IsC (σ : Bool) (k t j F I : Nat) : Prop := IsI k t j ∧ mdl k = σ ∧ aF k j = (F, I)
def Ws (σ : Bool) (mi rc rs pc : Nat) (ml : ML) (st : List Value) (z : Sg) (P : MO → Sg → Prop) : Prop := ∀ w, Wp mi rc rs pc ml st (GG σ z w) (fun o g => ∃ z', g = GG σ z' w ∧ P o z')
def Es (σ : Bool) (mj : Nat) (as : List Value) (z : Sg) (P : MO → Sg → Prop) : Prop := ∀ w, Ex mj as (GG σ z w) (fun o g => ∃ z', g = GG σ z' w ∧ P o z')
def Kc (σ : Bool) (mi rc rs nx : Nat) (ml : ML) (rest : List Value) (P : MO → Sg → Prop) : MO → Sg → Prop := fun o z => match o with
  | .inl v => Ws σ mi rc rs nx ml (v.toList ++ rest) z P
  | .inr x => P (.inr x) z
theorem Ws.imp {σ : Bool} {mi rc rs pc : Nat} {ml : ML} {st : List Value} {z : Sg} {P Q : MO → Sg → Prop} (h : Ws σ mi rc rs pc ml st z P) (hq : ∀ o z', P o z' → Q o z') : Ws σ mi rc rs pc ml st z Q :=
  fun w => (h w).imp (fun o g ⟨z', h1, h2⟩ => ⟨z', h1, hq o z' h2⟩)
theorem Es.imp {σ : Bool} {mj : Nat} {as : List Value} {z : Sg} {P Q : MO → Sg → Prop} (h : Es σ mj as z P) (hq : ∀ o z', P o z' → Q o z') : Es σ mj as z Q :=
  fun w => Wp.imp (h w) (fun o g ⟨z', h1, h2⟩ => ⟨z', h1, hq o z' h2⟩)
def i32 (n : Nat) : Int32 := Int32.ofNat n
theorem i32_int {n : Nat} (h : n < 2147483648) : (i32 n).toInt = (n : Int) := Int32.toInt_ofNat_of_lt h
theorem i32_nn {n : Nat} (h : n < 2147483648) : ¬ i32 n < 0 := by
  rw [Int32.lt_iff_toInt_lt, i32_int h]
  have : (0 : Int32).toInt = 0 := rfl
  omega
theorem i32_cl {n : Nat} (h : n < 2147483648) : (i32 n).toNatClampNeg = n := by
  unfold Int32.toNatClampNeg
  rw [i32_int h]
  rfl
theorem lenK_le (k : Nat) : lenK k ≤ 1024 := by
  unfold lenK
  by_cases h : k < 46
  · rw [if_pos h]
    repeat' split
    all_goals omega
  · rw [if_neg h]
    by_cases h2 : k < 166
    · rw [if_pos h2]
      repeat' split
      all_goals omega
    · rw [if_neg h2]
      by_cases h3 : k < 286
      · rw [if_pos h3]; split <;> omega
      · rw [if_neg h3]
        by_cases h4 : k < 292
        · rw [if_pos h4]; omega
        · rw [if_neg h4]
          by_cases h5 : k = 292
          · rw [if_pos h5]; omega
          · rw [if_neg h5]
            by_cases h6 : k < 332
            · rw [if_pos h6]
              have : ∀ j : Fin 39, moL.getD j.val 0 ≤ 1024 := by decide
              exact this ⟨k - 293, by omega⟩
            · rw [if_neg h6]; omega
section ZR
variable {σ : Bool} {mi rc rs pc nx d : Nat} {ml : ML} {st rest : List Value} {z : Sg} {P : MO → Sg → Prop} {ts : List (Int32 × Nat)}
theorem Es.of {mj : Nat} {as : List Value} (h : Ws σ mj (mMc mj) (mMs mj) 0 (lv_args 0 as) [] z P) : Es σ mj as z P := h
theorem zPs {kl : List (Nat × ME)} {nL pc1 : Nat} {l1 : ML} {st1 : List Value} (n : Nat) (hk : codeT mi = kl) (hn : mNL mi = nL) (h : pures kl nL n (pc, ml, st) = some (pc1, l1, st1)) (k : Ws σ mi rc rs pc1 l1 st1 z P) : Ws σ mi rc rs pc ml st z P := fun w => wPs n hk hn h (k w)
theorem zGetI {i k ci j ty wi F I : Nat} {fin : Bool} {v : Int32} (hE : mEnt mi pc = some (.getfield i, nx, ts, d)) (hf : lk2 fldL (mCls mi) i = some ((ci, j, ty, fin), wi)) (hi : IsC σ k ci j F I) (hv : z F I = v) (kk : Ws σ mi rc rs nx ml (.int v :: rest) z P) : Ws σ mi rc rs pc ml (.ref k :: rest) z P := by
  subst hv
  intro w
  refine wGetI hE hf hi.1 ?_
  rw [GG_rd hi.2.1 hi.2.2]
  exact kk w
theorem zGetR {i k ci j r ty wi : Nat} {fin : Bool} (hE : mEnt mi pc = some (.getfield i, nx, ts, d)) (hf : lk2 fldL (mCls mi) i = some ((ci, j, ty, fin), wi)) (hi : IsR k ci j r) (kk : Ws σ mi rc rs nx ml (.ref r :: rest) z P) : Ws σ mi rc rs pc ml (.ref k :: rest) z P := fun w => wGetR hE hf hi (kk w)
theorem zPutI {i k ci j ty wi F I : Nat} {x : Int32} (hE : mEnt mi pc = some (.putfield i, nx, ts, d)) (hf : lk2 fldL (mCls mi) i = some ((ci, j, ty, false), wi)) (hi : IsC σ k ci j F I) (hv : okV ty (.int x) = true) (kk : Ws σ mi rc rs nx ml rest (up2 z F I x) P) : Ws σ mi rc rs pc ml (.int x :: .ref k :: rest) z P := by
  intro w
  refine wPutI hE hf hi.1 hv ?_
  rw [GG_up hi.2.1 hi.2.2]
  exact kk w
theorem zIal {k n F I : Nat} {v : Int32} (hE : mEnt mi pc = some (.iaload, nx, ts, d)) (hi : IsC σ k 100 n F I) (hv : z F I = v) (kk : Ws σ mi rc rs nx ml (.int v :: rest) z P) : Ws σ mi rc rs pc ml (.int (i32 n) :: .ref k :: rest) z P := by
  subst hv
  have hl : n < 2147483648 := Nat.lt_of_lt_of_le hi.1.2.2.1 (Nat.le_trans (lenK_le k) (by decide))
  intro w
  refine wIal hE (i32_nn hl) (i32_cl hl) hi.1 ?_
  rw [GG_rd hi.2.1 hi.2.2]
  exact kk w
theorem zZal {k n F I : Nat} {v : Int32} (hE : mEnt mi pc = some (.baload, nx, ts, d)) (hi : IsC σ k 101 n F I) (hv : z F I = v) (kk : Ws σ mi rc rs nx ml (.int v :: rest) z P) : Ws σ mi rc rs pc ml (.int (i32 n) :: .ref k :: rest) z P := by
  subst hv
  have hl : n < 2147483648 := Nat.lt_of_lt_of_le hi.1.2.2.1 (Nat.le_trans (lenK_le k) (by decide))
  intro w
  refine wZal hE (i32_nn hl) (i32_cl hl) hi.1 ?_
  rw [GG_rd hi.2.1 hi.2.2]
  exact kk w
theorem zAal {k n t r : Nat} (hE : mEnt mi pc = some (.aaload, nx, ts, d)) (ht : tyAt t = true) (hi : IsR k t n r) (kk : Ws σ mi rc rs nx ml (.ref r :: rest) z P) : Ws σ mi rc rs pc ml (.int (i32 n) :: .ref k :: rest) z P := by
  have hl : n < 2147483648 := Nat.lt_of_lt_of_le hi.2.2.1 (Nat.le_trans (lenK_le k) (by decide))
  exact fun w => wAal hE (i32_nn hl) (i32_cl hl) ht hi (kk w)
theorem zIas {k n F I : Nat} {x : Int32} (hE : mEnt mi pc = some (.iastore, nx, ts, d)) (hi : IsC σ k 100 n F I) (kk : Ws σ mi rc rs nx ml rest (up2 z F I x) P) : Ws σ mi rc rs pc ml (.int x :: .int (i32 n) :: .ref k :: rest) z P := by
  have hl : n < 2147483648 := Nat.lt_of_lt_of_le hi.1.2.2.1 (Nat.le_trans (lenK_le k) (by decide))
  intro w
  refine wIas hE (i32_nn hl) (i32_cl hl) hi.1 ?_
  rw [GG_up hi.2.1 hi.2.2]
  exact kk w
theorem zZas {k n F I : Nat} {x : Int32} (hE : mEnt mi pc = some (.bastore, nx, ts, d)) (hi : IsC σ k 101 n F I) (hv : x = 0 ∨ x = 1) (kk : Ws σ mi rc rs nx ml rest (up2 z F I x) P) : Ws σ mi rc rs pc ml (.int x :: .int (i32 n) :: .ref k :: rest) z P := by
  have hl : n < 2147483648 := Nat.lt_of_lt_of_le hi.1.2.2.1 (Nat.le_trans (lenK_le k) (by decide))
  intro w
  refine wZas hE (i32_nn hl) (i32_cl hl) hi.1 hv ?_
  rw [GG_up hi.2.1 hi.2.2]
  exact kk w
theorem zLdc {i : Nat} {v : Int32} {wi : Nat} (hE : mEnt mi pc = some (.ldc i, nx, ts, d)) (hf : lk2 ldcL (mCls mi) i = some (v, wi)) (kk : Ws σ mi rc rs nx ml (.int v :: st) z P) : Ws σ mi rc rs pc ml st z P := fun w => wLdc hE hf (kk w)
theorem zLdcw {i : Nat} {v : Int32} {wi : Nat} (hE : mEnt mi pc = some (.ldc_w i, nx, ts, d)) (hf : lk2 ldcL (mCls mi) i = some (v, wi)) (kk : Ws σ mi rc rs nx ml (.int v :: st) z P) : Ws σ mi rc rs pc ml st z P := fun w => wLdcw hE hf (kk w)
theorem zIfe {x : Int32} {off : Int} (hE : mEnt mi pc = some (.ifCond .eq off, nx, ts, d)) (kt : x = 0 → Ws σ mi rc rs d ml rest z P) (kf : ¬ x = 0 → Ws σ mi rc rs nx ml rest z P) : Ws σ mi rc rs pc ml (.int x :: rest) z P := fun w => wIfe hE (fun h => kt h w) (fun h => kf h w)
theorem zIfn {x : Int32} {off : Int} (hE : mEnt mi pc = some (.ifCond .ne off, nx, ts, d)) (kt : ¬ x = 0 → Ws σ mi rc rs d ml rest z P) (kf : x = 0 → Ws σ mi rc rs nx ml rest z P) : Ws σ mi rc rs pc ml (.int x :: rest) z P := fun w => wIfn hE (fun h => kt h w) (fun h => kf h w)
theorem zIflt {x : Int32} {off : Int} (hE : mEnt mi pc = some (.ifCond .lt off, nx, ts, d)) (kt : x < 0 → Ws σ mi rc rs d ml rest z P) (kf : ¬ x < 0 → Ws σ mi rc rs nx ml rest z P) : Ws σ mi rc rs pc ml (.int x :: rest) z P := fun w => wIflt hE (fun h => kt h w) (fun h => kf h w)
theorem zIfge {x : Int32} {off : Int} (hE : mEnt mi pc = some (.ifCond .ge off, nx, ts, d)) (kt : 0 ≤ x → Ws σ mi rc rs d ml rest z P) (kf : ¬ 0 ≤ x → Ws σ mi rc rs nx ml rest z P) : Ws σ mi rc rs pc ml (.int x :: rest) z P := fun w => wIfge hE (fun h => kt h w) (fun h => kf h w)
theorem zIfgt {x : Int32} {off : Int} (hE : mEnt mi pc = some (.ifCond .gt off, nx, ts, d)) (kt : 0 < x → Ws σ mi rc rs d ml rest z P) (kf : ¬ 0 < x → Ws σ mi rc rs nx ml rest z P) : Ws σ mi rc rs pc ml (.int x :: rest) z P := fun w => wIfgt hE (fun h => kt h w) (fun h => kf h w)
theorem zIfle {x : Int32} {off : Int} (hE : mEnt mi pc = some (.ifCond .le off, nx, ts, d)) (kt : x ≤ 0 → Ws σ mi rc rs d ml rest z P) (kf : ¬ x ≤ 0 → Ws σ mi rc rs nx ml rest z P) : Ws σ mi rc rs pc ml (.int x :: rest) z P := fun w => wIfle hE (fun h => kt h w) (fun h => kf h w)
theorem zCe {x y : Int32} {off : Int} (hE : mEnt mi pc = some (.if_icmp .eq off, nx, ts, d)) (kt : x = y → Ws σ mi rc rs d ml rest z P) (kf : ¬ x = y → Ws σ mi rc rs nx ml rest z P) : Ws σ mi rc rs pc ml (.int y :: .int x :: rest) z P := fun w => wCe hE (fun h => kt h w) (fun h => kf h w)
theorem zCn {x y : Int32} {off : Int} (hE : mEnt mi pc = some (.if_icmp .ne off, nx, ts, d)) (kt : ¬ x = y → Ws σ mi rc rs d ml rest z P) (kf : x = y → Ws σ mi rc rs nx ml rest z P) : Ws σ mi rc rs pc ml (.int y :: .int x :: rest) z P := fun w => wCn hE (fun h => kt h w) (fun h => kf h w)
theorem zClt {x y : Int32} {off : Int} (hE : mEnt mi pc = some (.if_icmp .lt off, nx, ts, d)) (kt : x < y → Ws σ mi rc rs d ml rest z P) (kf : ¬ x < y → Ws σ mi rc rs nx ml rest z P) : Ws σ mi rc rs pc ml (.int y :: .int x :: rest) z P := fun w => wClt hE (fun h => kt h w) (fun h => kf h w)
theorem zCge {x y : Int32} {off : Int} (hE : mEnt mi pc = some (.if_icmp .ge off, nx, ts, d)) (kt : y ≤ x → Ws σ mi rc rs d ml rest z P) (kf : ¬ y ≤ x → Ws σ mi rc rs nx ml rest z P) : Ws σ mi rc rs pc ml (.int y :: .int x :: rest) z P := fun w => wCge hE (fun h => kt h w) (fun h => kf h w)
theorem zCgt {x y : Int32} {off : Int} (hE : mEnt mi pc = some (.if_icmp .gt off, nx, ts, d)) (kt : y < x → Ws σ mi rc rs d ml rest z P) (kf : ¬ y < x → Ws σ mi rc rs nx ml rest z P) : Ws σ mi rc rs pc ml (.int y :: .int x :: rest) z P := fun w => wCgt hE (fun h => kt h w) (fun h => kf h w)
theorem zCle {x y : Int32} {off : Int} (hE : mEnt mi pc = some (.if_icmp .le off, nx, ts, d)) (kt : x ≤ y → Ws σ mi rc rs d ml rest z P) (kf : ¬ x ≤ y → Ws σ mi rc rs nx ml rest z P) : Ws σ mi rc rs pc ml (.int y :: .int x :: rest) z P := fun w => wCle hE (fun h => kt h w) (fun h => kf h w)
theorem zDiv {x y : Int32} (hE : mEnt mi pc = some (.idiv, nx, ts, d)) (hy : ¬ y = 0) (kk : Ws σ mi rc rs nx ml (.int (x / y) :: rest) z P) : Ws σ mi rc rs pc ml (.int y :: .int x :: rest) z P := fun w => wDiv hE hy (kk w)
theorem zRem {x y : Int32} (hE : mEnt mi pc = some (.irem, nx, ts, d)) (hy : ¬ y = 0) (kk : Ws σ mi rc rs nx ml (.int (x - x / y * y) :: rest) z P) : Ws σ mi rc rs pc ml (.int y :: .int x :: rest) z P := fun w => wRem hE hy (kk w)
theorem zRv (hE : mEnt mi pc = some (.return_, nx, ts, d)) (hr : mRt mi = none) (k : P (.inl none) z) : Ws σ mi rc rs pc ml [] z P := fun w => wRv hE hr ⟨z, rfl, k⟩
theorem zRi {v : Int32} (hE : mEnt mi pc = some (.ireturn, nx, ts, d)) (hr : mRt mi = some .int) (k : P (.inl (some (.int v))) z) : Ws σ mi rc rs pc ml [.int v] z P := fun w => wRi hE hr ⟨z, rfl, k⟩
theorem zRz {v : Int32} (hE : mEnt mi pc = some (.ireturn, nx, ts, d)) (hr : mRt mi = some .boolean) (hv : v = 0 ∨ v = 1) (k : P (.inl (some (.int v))) z) : Ws σ mi rc rs pc ml [.int v] z P := fun w => wRz hE hr hv ⟨z, rfl, k⟩
theorem zT {i : Nat} {q : (Nat × Nat × Nat × Bool × Nat) × String} (hE : mEnt mi pc = some (.new i, nx, ts, d)) (hq : lk2 thrL mi pc = some q) (hb : ((Nat.ble 1 rc && Nat.ble 6 rs) && (Nat.ble 6 (mHt mi) && (Nat.ble 82 (mLo mi) && (mHh mi).isEmpty))) = true) (k : P (.inr q.1.1) z) : Ws σ mi rc rs pc ml [] z P := fun w => wT hE hq hb ⟨z, rfl, k⟩
theorem zCs {i mj kd : Nat} {li : Nat × List Nat} {as : List Value} (hE : mEnt mi pc = some (.invokestatic i, nx, ts, d)) (hf : lk2 calL (mCls mi) i = some ((mj, kd), li)) (hmx : lk2 maxL (mCls mi) i = none)
    (hb : ((kd % 3 == 0 && Nat.ble (mNA mj) st.length) && ((kd == 0 || (mHh mj).isEmpty) && (Nat.ble (mNA mj) (mNL mj) && ((st.take (mNA mj)).all (fun v => v.category == 1) && Nat.ble ((st.drop (mNA mj)).map fun v => v.category).sum 8)))) = true)
    (ha : (st.take (mNA mj)).reverse = as) (hr : st.drop (mNA mj) = rest) (hrm : rmOk mi mj rc rs = true) (hm : mHh mi = [])
    (k : Es σ mj as z (Kc σ mi (rc - mMc mj) (rs - mMs mj) nx ml rest P)) : Ws σ mi rc rs pc ml st z P := by
  intro w
  refine wCs hE hf hmx hb ha hr hrm hm (Wp.imp (k w) ?_)
  rintro o g ⟨z', rfl, h2⟩
  cases o with
  | inl v => exact h2 w
  | inr x => exact ⟨z', rfl, h2⟩
theorem zCv {i mj kd k n : Nat} {li : Nat × List Nat} {as : List Value} (hE : mEnt mi pc = some (.invokevirtual i, nx, ts, d)) (hf : lk2 calL (mCls mi) i = some ((mj, kd), li)) (hn : mNA mj = n + 1) (hk : st[n]? = some (.ref k)) (hk3 : k < 292) (htg : tagK k = mCls mj)
    (hb : ((kd % 3 == 1 && Nat.ble (mNA mj) st.length) && ((kd == 0 || (mHh mj).isEmpty) && (Nat.ble (mNA mj) (mNL mj) && ((st.take (mNA mj)).all (fun v => v.category == 1) && Nat.ble ((st.drop (mNA mj)).map fun v => v.category).sum 8)))) = true)
    (ha : (st.take (mNA mj)).reverse = as) (hr : st.drop (mNA mj) = rest) (hrm : rmOk mi mj rc rs = true) (hm : mHh mi = [])
    (k : Es σ mj as z (Kc σ mi (rc - mMc mj) (rs - mMs mj) nx ml rest P)) : Ws σ mi rc rs pc ml st z P := by
  intro w
  refine wCv hE hf hn hk hk3 htg hb ha hr hrm hm (Wp.imp (k w) ?_)
  rintro o g ⟨z', rfl, h2⟩
  cases o with
  | inl v => exact h2 w
  | inr x => exact ⟨z', rfl, h2⟩
theorem kI {v : Int32} (h : Ws σ mi rc rs nx ml (.int v :: rest) z P) : Kc σ mi rc rs nx ml rest P (.inl (some (.int v))) z := h
theorem kV (h : Ws σ mi rc rs nx ml rest z P) : Kc σ mi rc rs nx ml rest P (.inl none) z := h
theorem kX {x : Nat} (h : P (.inr x) z) : Kc σ mi rc rs nx ml rest P (.inr x) z := h
end ZR
