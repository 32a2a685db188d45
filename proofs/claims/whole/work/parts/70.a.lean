/-! ===== the model: its face ===== -/
def CZ (z : Sg) (n t : Nat) : Prop := z 292 19 = i32 n ∧ (z 292 0 = i32 t ∧ MI z)
def frZ (F : Nat) : Bool := !(F == 292)
theorem CZ_up {z : Sg} {n t F i : Nat} {v : Int32} (h : CZ z n t) (hF : frZ F = true) (hG : frF F = true) : CZ (up2 z F i v) n t := by
  unfold frZ at hF
  simp only [Bool.not_eq_true', beq_eq_false_iff_ne, ne_eq] at hF
  have e : ∀ j, up2 z F i v 292 j = z 292 j := fun j => by unfold up2; rw [if_neg (fun q => hF q.1.symm)]
  exact ⟨(e 19).trans h.1, (e 0).trans h.2.1, MI_up h.2.2 hG⟩
theorem CZ_thr {z : Sg} {n t : Nat} {v : Int32} (h : CZ z n t) : CZ (up2 z 292 41 v) n t := ⟨by simpa [up2] using h.1, by simpa [up2] using h.2.1, MI_up h.2.2 rfl⟩
theorem CZ_cnt {z : Sg} {n t : Nat} (h : CZ z n t) : CZ (up2 z 292 19 (i32 (n + 1))) (n + 1) t := ⟨by simp [up2], by simpa [up2] using h.2.1, MI_up h.2.2 rfl⟩
theorem CZ_now {z : Sg} {n t : Nat} (h : CZ z n t) : CZ (up2 z 292 0 (i32 (t + 1))) n (t + 1) := ⟨by simpa [up2] using h.1, by simp [up2], MI_up h.2.2 rfl⟩
theorem CZ_dep0 {z : Sg} {n t c : Nat} (h : CZ z n t) : CZ (up2 z 318 c 0) n t := ⟨by simpa [up2] using h.1, by simpa [up2] using h.2.1, MI_dep (d := 0) h.2.2 (by decide)⟩
theorem zZ {σ : Bool} {mi rc rs pc : Nat} {ml : ML} {st : List Value} {z z' : Sg} {P : MO → Sg → Prop} (h : z = z') (k : Ws σ mi rc rs pc ml st z' P) : Ws σ mi rc rs pc ml st z P := by
  subst h
  exact k
theorem d_107 {z : Sg} {P : MO → Sg → Prop} {a b c : Int32} (k1 : b ≤ a ∧ a ≤ c → P (.inl (some (.int 1))) z) (k0 : ¬ (b ≤ a ∧ a ≤ c) → P (.inl (some (.int 0))) z) : Es true 107 [.int a, .int b, .int c] z P := c_107 (fun h1 h2 => k1 ⟨h1, h2⟩) k0
theorem d_108 {z : Sg} {P : MO → Sg → Prop} {a : Int32} (k1 : isN a → P (.inl (some (.int 1))) z) (k0 : ¬ isN a → P (.inl (some (.int 0))) z) : Es true 108 [.int a] z P := c_108 (fun m hm e => k1 (by rw [e]; exact isN_of hm)) k0
theorem goL_MI {n t c : Nat} (hc : c < 60) : ∀ r z bf a, MI z → a ≤ 29 → MI (goL n t c r z bf a) ∧ ∀ j, goL n t c r z bf a 292 j = z 292 j := by
  have ho : ∀ z bf a, MI z → MI (sOut z c bf a) ∧ ∀ j, sOut z c bf a 292 j = z 292 j := by
    intro z bf a h
    unfold sOut
    split
    · cases bf with
      | none => exact ⟨h, fun j => rfl⟩
      | some b => exact ⟨MI_ends (MI_up h rfl), fun j => by simp [sEnds, up2]⟩
    · exact ⟨h, fun j => rfl⟩
  intro r
  induction r with
  | zero =>
    intro z bf a h h29
    unfold goL
    split
    · exact ho z bf a h
    · exact ⟨MI_ends h, fun j => by simp [sEnds, up2]⟩
  | succ r ih =>
    intro z bf a h h29
    unfold goL
    split
    · exact ho z bf a h
    · rename_i hlt
      obtain ⟨m, hm, rfl⟩ := i32_of (n := 29) (by decide) (le_of_not_lt32 hlt) h29
      have hI2 := sActIn_MI (n := n) (t := t) (c := c) (m := (i32 m).toNatClampNeg) (sCome_MI (c := c) (a := (i32 m).toNatClampNeg) (bf := bf) h) hc (by rw [i32_cl (by omega)]; omega)
      have := ih _ (some (i32 m).toNatClampNeg) _ hI2.1 hI2.2.1
      exact ⟨this.1, fun j => ((this.2 j).trans (hI2.2.2 j)).trans (sCome_292 j)⟩
theorem CZ_goes {z : Sg} {n t c n' t' : Nat} {bf : Option Nat} {a : Int32} (hc : c < 60) (h29 : a ≤ 29) (h : CZ z n t) : CZ (sGoes z n' t' c bf a) n t := by
  have := goL_MI (n := n') (t := t') hc 20 z bf a h.2.2 h29
  exact ⟨(this.2 19).trans h.1, (this.2 0).trans h.2.1, this.1⟩
theorem CZ_ends {z : Sg} {n t c : Nat} {how : Int32} (h : CZ z n t) : CZ (sEnds z c how) n t := CZ_up (CZ_up (CZ_up (CZ_up h rfl rfl) rfl rfl) rfl rfl) rfl rfl
theorem CZ_ready {z : Sg} {n t a : Nat} (h : CZ z n t) : CZ (sReady z a) n t := CZ_up (CZ_up (CZ_up h rfl rfl) rfl rfl) rfl rfl
theorem CZ_wraps {z : Sg} {n t a : Nat} (h : CZ z n t) : CZ (sWraps z a) n t := by
  unfold sWraps
  split
  · exact CZ_ready h
  · exact CZ_up (CZ_up (CZ_up h rfl rfl) rfl rfl) rfl rfl
theorem CZ_takesN {n t : Nat} : ∀ r z, CZ z n t → CZ (takesN n r z) n t
  | 0, z, h => h
  | r + 1, z, h => by
    unfold takesN
    split
    · exact h
    · split
      · exact h
      · refine CZ_takesN r _ ?_
        unfold takeOne
        split
        · exact CZ_up (CZ_up (CZ_up (CZ_up (CZ_up (CZ_up h rfl rfl) rfl rfl) rfl rfl) rfl rfl) rfl rfl) rfl rfl
        · exact CZ_up (CZ_up (CZ_up (CZ_up (CZ_up h rfl rfl) rfl rfl) rfl rfl) rfl rfl) rfl rfl
theorem CZ_takes {z : Sg} {n t : Nat} (h : CZ z n t) : CZ (sTakes z n) n t := CZ_takesN 6 z h
theorem pk_rng {b q : Nat} {o : Option Nat} (hb : b + q ≤ 300) (hq : ∀ k, o = some k → k < q) (h : ¬ oI b o < 0) : (oI b o).toNatClampNeg < 300 ∧ i32 (oI b o).toNatClampNeg = oI b o := by
  cases o with
  | none => exact absurd (show (-1 : Int32) < 0 by decide) h
  | some k =>
    have := hq k rfl
    show (i32 (b + k)).toNatClampNeg < 300 ∧ i32 (i32 (b + k)).toNatClampNeg = i32 (b + k)
    rw [i32_cl (by omega)]
    exact ⟨by omega, rfl⟩
noncomputable def f_117 (n : Nat) (t : Nat) (x0 : Int32) (x1 : Int32) (x2 : Int32) (x3 : Int32) (x4 : Int32) (l : Sg) : Sg := (if isN x0 then (if isT x4 then (if (1 : Int32) ≤ x1 ∧ x1 ≤ (60 : Int32) then (if (1 : Int32) ≤ x2 ∧ x2 ≤ (20 : Int32) then (if (1 : Int32) ≤ x3 ∧ x3 ≤ (5 : Int32) then (if quiet (up2 l 292 41 (0 : Int32)) n then (if l 296 x0.toNatClampNeg = (2 : Int32) then (up2 (up2 (up2 (up2 (up2 (up2 l 292 41 (0 : Int32)) 292 41 (0 : Int32)) 303 x0.toNatClampNeg x1) 304 x0.toNatClampNeg x2) 305 x0.toNatClampNeg x3) 302 x0.toNatClampNeg x4) else (if ¬ l 296 x0.toNatClampNeg = (3 : Int32) then (up2 (up2 l 292 41 (0 : Int32)) 292 41 (3 : Int32)) else (up2 (up2 (up2 (up2 (up2 (up2 l 292 41 (0 : Int32)) 292 41 (0 : Int32)) 303 x0.toNatClampNeg x1) 304 x0.toNatClampNeg x2) 305 x0.toNatClampNeg x3) 302 x0.toNatClampNeg x4))) else (up2 (up2 l 292 41 (0 : Int32)) 292 41 (3 : Int32))) else (up2 l 292 41 (2 : Int32))) else (up2 l 292 41 (2 : Int32))) else (up2 l 292 41 (2 : Int32))) else (up2 l 292 41 (1 : Int32))) else (up2 l 292 41 (1 : Int32)))
theorem e_117 {l : Sg} {P : MO → Sg → Prop} {n : Nat} {x0 : Int32} {x1 : Int32} {x2 : Int32} {x3 : Int32} {x4 : Int32} {t : Nat} (hl : n ≤ 60) (htl : t ≤ 20000) (hCI : CZ l n t)  (k : Rk (Qm P) (f_117 n t x0 x1 x2 x3 x4 l)) : Es true 117 [.ref 292, .int x0, .int x1, .int x2, .int x3, .int x4] l P := by
  unfold f_117 at k
  refine Es.of ?_
  refine zPs (pc1 := 2) (l1 := [(0, .ref 292), (1, .int x0), (2, .int x1), (3, .int x2), (4, .int x3), (5, .int x4)]) (st1 := [.int x0, .ref 292]) 2 rfl rfl rfl ?_
  refine zCs (mj := 108) rfl rfl rfl rfl rfl rfl rfl rfl ?_
  refine d_108 (fun h1 => ?_) (fun h1 => ?_)
  · replace k := ite_t h1 k
    have h2 := isN_lt h1
    refine kI ?_
    refine zPs (pc1 := 10) (l1 := [(0, .ref 292), (1, .int x0), (2, .int x1), (3, .int x2), (4, .int x3), (5, .int x4)]) (st1 := [.int x4, .ref 292]) 2 rfl rfl rfl ?_
    refine zCs (mj := 109) rfl rfl rfl rfl rfl rfl rfl rfl ?_
    refine c_109 (fun h3 => ?_) (fun h3 => ?_)
    · replace k := ite_t h3 k
      refine kI ?_
      refine zPs (pc1 := 24) (l1 := [(0, .ref 292), (1, .int x0), (2, .int x1), (3, .int x2), (4, .int x3), (5, .int x4)]) (st1 := [.int (60 : Int32), .int (1 : Int32), .int x1, .ref 292]) 4 rfl rfl rfl ?_
      refine zCs (mj := 107) rfl rfl rfl rfl rfl rfl rfl rfl ?_
      refine d_107 (fun h4 => ?_) (fun h4 => ?_)
      · replace k := ite_t h4 k
        have h5 := rng_le (b := 60) (by decide) (Int32.le_trans (by decide) h4.1) h4.2
        refine kI ?_
        refine zPs (pc1 := 34) (l1 := [(0, .ref 292), (1, .int x0), (2, .int x1), (3, .int x2), (4, .int x3), (5, .int x4)]) (st1 := [.int (20 : Int32), .int (1 : Int32), .int x2, .ref 292]) 4 rfl rfl rfl ?_
        refine zCs (mj := 107) rfl rfl rfl rfl rfl rfl rfl rfl ?_
        refine d_107 (fun h6 => ?_) (fun h6 => ?_)
        · replace k := ite_t h6 k
          have h7 := rng_le (b := 20) (by decide) (Int32.le_trans (by decide) h6.1) h6.2
          refine kI ?_
          refine zPs (pc1 := 44) (l1 := [(0, .ref 292), (1, .int x0), (2, .int x1), (3, .int x2), (4, .int x3), (5, .int x4)]) (st1 := [.int (5 : Int32), .int (1 : Int32), .int x3, .ref 292]) 4 rfl rfl rfl ?_
          refine zCs (mj := 107) rfl rfl rfl rfl rfl rfl rfl rfl ?_
          refine d_107 (fun h8 => ?_) (fun h8 => ?_)
          · replace k := ite_t h8 k
            have h9 := rng_le (b := 5) (by decide) (Int32.le_trans (by decide) h8.1) h8.2
            refine kI ?_
            refine zPs (pc1 := 55) (l1 := [(0, .ref 292), (1, .int x0), (2, .int x1), (3, .int x2), (4, .int x3), (5, .int x4)]) (st1 := [.int (0 : Int32), .ref 292]) 3 rfl rfl rfl ?_
            refine zPutI (F := 292) (I := 41) rfl rfl icThr rfl ?_
            refine zPs (pc1 := 59) (l1 := [(0, .ref 292), (1, .int x0), (2, .int x1), (3, .int x2), (4, .int x3), (5, .int x4)]) (st1 := [.ref 292]) 1 rfl rfl rfl ?_
            refine zGetI (F := 292) (I := 41) (v := (0 : Int32)) rfl rfl icThr (by simp [up2]) ?_
            refine zPs (pc1 := 68) (l1 := [(0, .ref 292), (1, .int x0), (2, .int x1), (3, .int x2), (4, .int x3), (5, .int x4)]) (st1 := [.ref 292, .ref 292]) 3 rfl rfl rfl ?_
            refine zCv (mj := 110) (k := 292) (n := 0) rfl rfl rfl rfl (by decide) rfl rfl rfl rfl rfl rfl ?_
            refine c_110 hl (CZ_thr hCI).1 (fun h10 => ?_) (fun h10 => ?_)
            · replace k := ite_t h10 k
              refine kI ?_
              refine zPs (pc1 := 75) (l1 := [(0, .ref 292), (1, .int x0), (2, .int x1), (3, .int x2), (4, .int x3), (5, .int x4)]) (st1 := [.ref 292, .ref 292]) 2 rfl rfl rfl ?_
              refine zGetR (r := 296) rfl rfl ⟨by decide, rfl, by decide, rfl⟩ ?_
              refine zPs (pc1 := 79) (l1 := [(0, .ref 292), (1, .int x0), (2, .int x1), (3, .int x2), (4, .int x3), (5, .int x4)]) (st1 := [.int x0, .ref 296, .ref 292]) 1 rfl rfl rfl ?_
              refine zIalE (n := x0.toNatClampNeg) (v := l 296 x0.toNatClampNeg) h2.2 rfl (icM (k := 296) (L := 30) rfl h2.1) rfl ?_
              refine zPs (pc1 := 81) (l1 := [(0, .ref 292), (1, .int x0), (2, .int x1), (3, .int x2), (4, .int x3), (5, .int x4)]) (st1 := [.int (2 : Int32), .int (l 296 x0.toNatClampNeg), .ref 292]) 1 rfl rfl rfl ?_
              refine zCe rfl (fun h11 => ?_) (fun h11 => ?_)
              · replace k := ite_t h11 k
                refine zPs (pc1 := 99) (l1 := [(0, .ref 292), (1, .int x0), (2, .int x1), (3, .int x2), (4, .int x3), (5, .int x4)]) (st1 := [.int (0 : Int32), .ref 292]) 2 rfl rfl rfl ?_
                refine zPutI (F := 292) (I := 41) rfl rfl icThr rfl ?_
                refine zPs (pc1 := 103) (l1 := [(0, .ref 292), (1, .int x0), (2, .int x1), (3, .int x2), (4, .int x3), (5, .int x4)]) (st1 := [.ref 292]) 1 rfl rfl rfl ?_
                refine zGetI (F := 292) (I := 41) (v := (0 : Int32)) rfl rfl icThr (by simp [up2]) ?_
                refine zPs (pc1 := 111) (l1 := [(0, .ref 292), (1, .int x0), (2, .int x1), (3, .int x2), (4, .int x3), (5, .int x4)]) (st1 := [.ref 292]) 2 rfl rfl rfl ?_
                refine zGetR (r := 303) rfl rfl ⟨by decide, rfl, by decide, rfl⟩ ?_
                refine zPs (pc1 := 116) (l1 := [(0, .ref 292), (1, .int x0), (2, .int x1), (3, .int x2), (4, .int x3), (5, .int x4)]) (st1 := [.int x1, .int x0, .ref 303]) 2 rfl rfl rfl ?_
                refine zIasE (n := x0.toNatClampNeg) (F := 303) (I := x0.toNatClampNeg) h2.2 rfl (icM (k := 303) (L := 30) rfl h2.1) ?_
                refine zPs (pc1 := 118) (l1 := [(0, .ref 292), (1, .int x0), (2, .int x1), (3, .int x2), (4, .int x3), (5, .int x4)]) (st1 := [.ref 292]) 1 rfl rfl rfl ?_
                refine zGetR (r := 304) rfl rfl ⟨by decide, rfl, by decide, rfl⟩ ?_
                refine zPs (pc1 := 123) (l1 := [(0, .ref 292), (1, .int x0), (2, .int x1), (3, .int x2), (4, .int x3), (5, .int x4)]) (st1 := [.int x2, .int x0, .ref 304]) 2 rfl rfl rfl ?_
                refine zIasE (n := x0.toNatClampNeg) (F := 304) (I := x0.toNatClampNeg) h2.2 rfl (icM (k := 304) (L := 30) rfl h2.1) ?_
                refine zPs (pc1 := 125) (l1 := [(0, .ref 292), (1, .int x0), (2, .int x1), (3, .int x2), (4, .int x3), (5, .int x4)]) (st1 := [.ref 292]) 1 rfl rfl rfl ?_
                refine zGetR (r := 305) rfl rfl ⟨by decide, rfl, by decide, rfl⟩ ?_
                refine zPs (pc1 := 131) (l1 := [(0, .ref 292), (1, .int x0), (2, .int x1), (3, .int x2), (4, .int x3), (5, .int x4)]) (st1 := [.int x3, .int x0, .ref 305]) 2 rfl rfl rfl ?_
                refine zIasE (n := x0.toNatClampNeg) (F := 305) (I := x0.toNatClampNeg) h2.2 rfl (icM (k := 305) (L := 30) rfl h2.1) ?_
                refine zPs (pc1 := 133) (l1 := [(0, .ref 292), (1, .int x0), (2, .int x1), (3, .int x2), (4, .int x3), (5, .int x4)]) (st1 := [.ref 292]) 1 rfl rfl rfl ?_
                refine zGetR (r := 302) rfl rfl ⟨by decide, rfl, by decide, rfl⟩ ?_
                refine zPs (pc1 := 139) (l1 := [(0, .ref 292), (1, .int x0), (2, .int x1), (3, .int x2), (4, .int x3), (5, .int x4)]) (st1 := [.int x4, .int x0, .ref 302]) 2 rfl rfl rfl ?_
                refine zIasE (n := x0.toNatClampNeg) (F := 302) (I := x0.toNatClampNeg) h2.2 rfl (icM (k := 302) (L := 30) rfl h2.1) ?_
                refine zRv rfl rfl ?_
                exact k
              · replace k := ite_f h11 k
                refine zPs (pc1 := 85) (l1 := [(0, .ref 292), (1, .int x0), (2, .int x1), (3, .int x2), (4, .int x3), (5, .int x4)]) (st1 := [.ref 292, .ref 292]) 1 rfl rfl rfl ?_
                refine zGetR (r := 296) rfl rfl ⟨by decide, rfl, by decide, rfl⟩ ?_
                refine zPs (pc1 := 89) (l1 := [(0, .ref 292), (1, .int x0), (2, .int x1), (3, .int x2), (4, .int x3), (5, .int x4)]) (st1 := [.int x0, .ref 296, .ref 292]) 1 rfl rfl rfl ?_
                refine zIalE (n := x0.toNatClampNeg) (v := l 296 x0.toNatClampNeg) h2.2 rfl (icM (k := 296) (L := 30) rfl h2.1) rfl ?_
                refine zPs (pc1 := 91) (l1 := [(0, .ref 292), (1, .int x0), (2, .int x1), (3, .int x2), (4, .int x3), (5, .int x4)]) (st1 := [.int (3 : Int32), .int (l 296 x0.toNatClampNeg), .ref 292]) 1 rfl rfl rfl ?_
                refine zCn rfl (fun h12 => ?_) (fun h12 => ?_)
                · replace k := ite_t h12 k
                  refine zPs (pc1 := 99) (l1 := [(0, .ref 292), (1, .int x0), (2, .int x1), (3, .int x2), (4, .int x3), (5, .int x4)]) (st1 := [.int (3 : Int32), .ref 292]) 1 rfl rfl rfl ?_
                  refine zPutI (F := 292) (I := 41) rfl rfl icThr rfl ?_
                  refine zPs (pc1 := 103) (l1 := [(0, .ref 292), (1, .int x0), (2, .int x1), (3, .int x2), (4, .int x3), (5, .int x4)]) (st1 := [.ref 292]) 1 rfl rfl rfl ?_
                  refine zGetI (F := 292) (I := 41) (v := (3 : Int32)) rfl rfl icThr (by simp [up2]) ?_
                  refine zPs (pc1 := 109) (l1 := [(0, .ref 292), (1, .int x0), (2, .int x1), (3, .int x2), (4, .int x3), (5, .int x4)]) (st1 := []) 1 rfl rfl rfl ?_
                  refine zRv rfl rfl ?_
                  exact k
                · replace k := ite_f (not_not_intro h12) k
                  refine zPs (pc1 := 99) (l1 := [(0, .ref 292), (1, .int x0), (2, .int x1), (3, .int x2), (4, .int x3), (5, .int x4)]) (st1 := [.int (0 : Int32), .ref 292]) 2 rfl rfl rfl ?_
                  refine zPutI (F := 292) (I := 41) rfl rfl icThr rfl ?_
                  refine zPs (pc1 := 103) (l1 := [(0, .ref 292), (1, .int x0), (2, .int x1), (3, .int x2), (4, .int x3), (5, .int x4)]) (st1 := [.ref 292]) 1 rfl rfl rfl ?_
                  refine zGetI (F := 292) (I := 41) (v := (0 : Int32)) rfl rfl icThr (by simp [up2]) ?_
                  refine zPs (pc1 := 111) (l1 := [(0, .ref 292), (1, .int x0), (2, .int x1), (3, .int x2), (4, .int x3), (5, .int x4)]) (st1 := [.ref 292]) 2 rfl rfl rfl ?_
                  refine zGetR (r := 303) rfl rfl ⟨by decide, rfl, by decide, rfl⟩ ?_
                  refine zPs (pc1 := 116) (l1 := [(0, .ref 292), (1, .int x0), (2, .int x1), (3, .int x2), (4, .int x3), (5, .int x4)]) (st1 := [.int x1, .int x0, .ref 303]) 2 rfl rfl rfl ?_
                  refine zIasE (n := x0.toNatClampNeg) (F := 303) (I := x0.toNatClampNeg) h2.2 rfl (icM (k := 303) (L := 30) rfl h2.1) ?_
                  refine zPs (pc1 := 118) (l1 := [(0, .ref 292), (1, .int x0), (2, .int x1), (3, .int x2), (4, .int x3), (5, .int x4)]) (st1 := [.ref 292]) 1 rfl rfl rfl ?_
                  refine zGetR (r := 304) rfl rfl ⟨by decide, rfl, by decide, rfl⟩ ?_
                  refine zPs (pc1 := 123) (l1 := [(0, .ref 292), (1, .int x0), (2, .int x1), (3, .int x2), (4, .int x3), (5, .int x4)]) (st1 := [.int x2, .int x0, .ref 304]) 2 rfl rfl rfl ?_
                  refine zIasE (n := x0.toNatClampNeg) (F := 304) (I := x0.toNatClampNeg) h2.2 rfl (icM (k := 304) (L := 30) rfl h2.1) ?_
                  refine zPs (pc1 := 125) (l1 := [(0, .ref 292), (1, .int x0), (2, .int x1), (3, .int x2), (4, .int x3), (5, .int x4)]) (st1 := [.ref 292]) 1 rfl rfl rfl ?_
                  refine zGetR (r := 305) rfl rfl ⟨by decide, rfl, by decide, rfl⟩ ?_
                  refine zPs (pc1 := 131) (l1 := [(0, .ref 292), (1, .int x0), (2, .int x1), (3, .int x2), (4, .int x3), (5, .int x4)]) (st1 := [.int x3, .int x0, .ref 305]) 2 rfl rfl rfl ?_
                  refine zIasE (n := x0.toNatClampNeg) (F := 305) (I := x0.toNatClampNeg) h2.2 rfl (icM (k := 305) (L := 30) rfl h2.1) ?_
                  refine zPs (pc1 := 133) (l1 := [(0, .ref 292), (1, .int x0), (2, .int x1), (3, .int x2), (4, .int x3), (5, .int x4)]) (st1 := [.ref 292]) 1 rfl rfl rfl ?_
                  refine zGetR (r := 302) rfl rfl ⟨by decide, rfl, by decide, rfl⟩ ?_
                  refine zPs (pc1 := 139) (l1 := [(0, .ref 292), (1, .int x0), (2, .int x1), (3, .int x2), (4, .int x3), (5, .int x4)]) (st1 := [.int x4, .int x0, .ref 302]) 2 rfl rfl rfl ?_
                  refine zIasE (n := x0.toNatClampNeg) (F := 302) (I := x0.toNatClampNeg) h2.2 rfl (icM (k := 302) (L := 30) rfl h2.1) ?_
                  refine zRv rfl rfl ?_
                  exact k
            · replace k := ite_f h10 k
              refine kI ?_
              refine zPs (pc1 := 99) (l1 := [(0, .ref 292), (1, .int x0), (2, .int x1), (3, .int x2), (4, .int x3), (5, .int x4)]) (st1 := [.int (3 : Int32), .ref 292]) 2 rfl rfl rfl ?_
              refine zPutI (F := 292) (I := 41) rfl rfl icThr rfl ?_
              refine zPs (pc1 := 103) (l1 := [(0, .ref 292), (1, .int x0), (2, .int x1), (3, .int x2), (4, .int x3), (5, .int x4)]) (st1 := [.ref 292]) 1 rfl rfl rfl ?_
              refine zGetI (F := 292) (I := 41) (v := (3 : Int32)) rfl rfl icThr (by simp [up2]) ?_
              refine zPs (pc1 := 109) (l1 := [(0, .ref 292), (1, .int x0), (2, .int x1), (3, .int x2), (4, .int x3), (5, .int x4)]) (st1 := []) 1 rfl rfl rfl ?_
              refine zRv rfl rfl ?_
              exact k
          · replace k := ite_f h8 k
            refine kI ?_
            refine zPs (pc1 := 55) (l1 := [(0, .ref 292), (1, .int x0), (2, .int x1), (3, .int x2), (4, .int x3), (5, .int x4)]) (st1 := [.int (2 : Int32), .ref 292]) 2 rfl rfl rfl ?_
            refine zPutI (F := 292) (I := 41) rfl rfl icThr rfl ?_
            refine zPs (pc1 := 59) (l1 := [(0, .ref 292), (1, .int x0), (2, .int x1), (3, .int x2), (4, .int x3), (5, .int x4)]) (st1 := [.ref 292]) 1 rfl rfl rfl ?_
            refine zGetI (F := 292) (I := 41) (v := (2 : Int32)) rfl rfl icThr (by simp [up2]) ?_
            refine zPs (pc1 := 65) (l1 := [(0, .ref 292), (1, .int x0), (2, .int x1), (3, .int x2), (4, .int x3), (5, .int x4)]) (st1 := []) 1 rfl rfl rfl ?_
            refine zRv rfl rfl ?_
            exact k
        · replace k := ite_f h6 k
          refine kI ?_
          refine zPs (pc1 := 55) (l1 := [(0, .ref 292), (1, .int x0), (2, .int x1), (3, .int x2), (4, .int x3), (5, .int x4)]) (st1 := [.int (2 : Int32), .ref 292]) 2 rfl rfl rfl ?_
          refine zPutI (F := 292) (I := 41) rfl rfl icThr rfl ?_
          refine zPs (pc1 := 59) (l1 := [(0, .ref 292), (1, .int x0), (2, .int x1), (3, .int x2), (4, .int x3), (5, .int x4)]) (st1 := [.ref 292]) 1 rfl rfl rfl ?_
          refine zGetI (F := 292) (I := 41) (v := (2 : Int32)) rfl rfl icThr (by simp [up2]) ?_
          refine zPs (pc1 := 65) (l1 := [(0, .ref 292), (1, .int x0), (2, .int x1), (3, .int x2), (4, .int x3), (5, .int x4)]) (st1 := []) 1 rfl rfl rfl ?_
          refine zRv rfl rfl ?_
          exact k
      · replace k := ite_f h4 k
        refine kI ?_
        refine zPs (pc1 := 55) (l1 := [(0, .ref 292), (1, .int x0), (2, .int x1), (3, .int x2), (4, .int x3), (5, .int x4)]) (st1 := [.int (2 : Int32), .ref 292]) 2 rfl rfl rfl ?_
        refine zPutI (F := 292) (I := 41) rfl rfl icThr rfl ?_
        refine zPs (pc1 := 59) (l1 := [(0, .ref 292), (1, .int x0), (2, .int x1), (3, .int x2), (4, .int x3), (5, .int x4)]) (st1 := [.ref 292]) 1 rfl rfl rfl ?_
        refine zGetI (F := 292) (I := 41) (v := (2 : Int32)) rfl rfl icThr (by simp [up2]) ?_
        refine zPs (pc1 := 65) (l1 := [(0, .ref 292), (1, .int x0), (2, .int x1), (3, .int x2), (4, .int x3), (5, .int x4)]) (st1 := []) 1 rfl rfl rfl ?_
        refine zRv rfl rfl ?_
        exact k
    · replace k := ite_f h3 k
      refine kI ?_
      refine zPs (pc1 := 55) (l1 := [(0, .ref 292), (1, .int x0), (2, .int x1), (3, .int x2), (4, .int x3), (5, .int x4)]) (st1 := [.int (1 : Int32), .ref 292]) 3 rfl rfl rfl ?_
      refine zPutI (F := 292) (I := 41) rfl rfl icThr rfl ?_
      refine zPs (pc1 := 59) (l1 := [(0, .ref 292), (1, .int x0), (2, .int x1), (3, .int x2), (4, .int x3), (5, .int x4)]) (st1 := [.ref 292]) 1 rfl rfl rfl ?_
      refine zGetI (F := 292) (I := 41) (v := (1 : Int32)) rfl rfl icThr (by simp [up2]) ?_
      refine zPs (pc1 := 65) (l1 := [(0, .ref 292), (1, .int x0), (2, .int x1), (3, .int x2), (4, .int x3), (5, .int x4)]) (st1 := []) 1 rfl rfl rfl ?_
      refine zRv rfl rfl ?_
      exact k
  · replace k := ite_f h1 k
    refine kI ?_
    refine zPs (pc1 := 55) (l1 := [(0, .ref 292), (1, .int x0), (2, .int x1), (3, .int x2), (4, .int x3), (5, .int x4)]) (st1 := [.int (1 : Int32), .ref 292]) 3 rfl rfl rfl ?_
    refine zPutI (F := 292) (I := 41) rfl rfl icThr rfl ?_
    refine zPs (pc1 := 59) (l1 := [(0, .ref 292), (1, .int x0), (2, .int x1), (3, .int x2), (4, .int x3), (5, .int x4)]) (st1 := [.ref 292]) 1 rfl rfl rfl ?_
    refine zGetI (F := 292) (I := 41) (v := (1 : Int32)) rfl rfl icThr (by simp [up2]) ?_
    refine zPs (pc1 := 65) (l1 := [(0, .ref 292), (1, .int x0), (2, .int x1), (3, .int x2), (4, .int x3), (5, .int x4)]) (st1 := []) 1 rfl rfl rfl ?_
    refine zRv rfl rfl ?_
    exact k
noncomputable def f_122 (n : Nat) (t : Nat) (x0 : Int32) (x1 : Int32) (l : Sg) : Sg := (if isN x0 then (if isT x1 then (if quiet l n then (if ¬ l 296 x0.toNatClampNeg = (7 : Int32) then (up2 l 292 41 (2 : Int32)) else (up2 (up2 l 292 41 (0 : Int32)) 302 x0.toNatClampNeg x1)) else (up2 l 292 41 (2 : Int32))) else (up2 l 292 41 (1 : Int32))) else (up2 l 292 41 (1 : Int32)))
theorem e_122 {l : Sg} {P : MO → Sg → Prop} {n : Nat} {x0 : Int32} {x1 : Int32} {t : Nat} (hl : n ≤ 60) (htl : t ≤ 20000) (hCI : CZ l n t)  (k : Rk (Qm P) (f_122 n t x0 x1 l)) : Es true 122 [.ref 292, .int x0, .int x1] l P := by
  unfold f_122 at k
  refine Es.of ?_
  refine zPs (pc1 := 2) (l1 := [(0, .ref 292), (1, .int x0), (2, .int x1)]) (st1 := [.int x0, .ref 292]) 2 rfl rfl rfl ?_
  refine zCs (mj := 108) rfl rfl rfl rfl rfl rfl rfl rfl ?_
  refine d_108 (fun h1 => ?_) (fun h1 => ?_)
  · replace k := ite_t h1 k
    have h2 := isN_lt h1
    refine kI ?_
    refine zPs (pc1 := 9) (l1 := [(0, .ref 292), (1, .int x0), (2, .int x1)]) (st1 := [.int x1, .ref 292]) 2 rfl rfl rfl ?_
    refine zCs (mj := 109) rfl rfl rfl rfl rfl rfl rfl rfl ?_
    refine c_109 (fun h3 => ?_) (fun h3 => ?_)
    · replace k := ite_t h3 k
      refine kI ?_
      refine zPs (pc1 := 20) (l1 := [(0, .ref 292), (1, .int x0), (2, .int x1)]) (st1 := [.ref 292, .ref 292]) 2 rfl rfl rfl ?_
      refine zCv (mj := 110) (k := 292) (n := 0) rfl rfl rfl rfl (by decide) rfl rfl rfl rfl rfl rfl ?_
      refine c_110 hl hCI.1 (fun h4 => ?_) (fun h4 => ?_)
      · replace k := ite_t h4 k
        refine kI ?_
        refine zPs (pc1 := 27) (l1 := [(0, .ref 292), (1, .int x0), (2, .int x1)]) (st1 := [.ref 292, .ref 292]) 2 rfl rfl rfl ?_
        refine zGetR (r := 296) rfl rfl ⟨by decide, rfl, by decide, rfl⟩ ?_
        refine zPs (pc1 := 31) (l1 := [(0, .ref 292), (1, .int x0), (2, .int x1)]) (st1 := [.int x0, .ref 296, .ref 292]) 1 rfl rfl rfl ?_
        refine zIalE (n := x0.toNatClampNeg) (v := l 296 x0.toNatClampNeg) h2.2 rfl (icM (k := 296) (L := 30) rfl h2.1) rfl ?_
        refine zPs (pc1 := 34) (l1 := [(0, .ref 292), (1, .int x0), (2, .int x1)]) (st1 := [.int (7 : Int32), .int (l 296 x0.toNatClampNeg), .ref 292]) 1 rfl rfl rfl ?_
        refine zCn rfl (fun h5 => ?_) (fun h5 => ?_)
        · replace k := ite_t h5 k
          refine zPs (pc1 := 42) (l1 := [(0, .ref 292), (1, .int x0), (2, .int x1)]) (st1 := [.int (2 : Int32), .ref 292]) 1 rfl rfl rfl ?_
          refine zPutI (F := 292) (I := 41) rfl rfl icThr rfl ?_
          refine zPs (pc1 := 46) (l1 := [(0, .ref 292), (1, .int x0), (2, .int x1)]) (st1 := [.ref 292]) 1 rfl rfl rfl ?_
          refine zGetI (F := 292) (I := 41) (v := (2 : Int32)) rfl rfl icThr (by simp [up2]) ?_
          refine zPs (pc1 := 59) (l1 := [(0, .ref 292), (1, .int x0), (2, .int x1)]) (st1 := []) 1 rfl rfl rfl ?_
          refine zRv rfl rfl ?_
          exact k
        · replace k := ite_f (not_not_intro h5) k
          refine zPs (pc1 := 42) (l1 := [(0, .ref 292), (1, .int x0), (2, .int x1)]) (st1 := [.int (0 : Int32), .ref 292]) 2 rfl rfl rfl ?_
          refine zPutI (F := 292) (I := 41) rfl rfl icThr rfl ?_
          refine zPs (pc1 := 46) (l1 := [(0, .ref 292), (1, .int x0), (2, .int x1)]) (st1 := [.ref 292]) 1 rfl rfl rfl ?_
          refine zGetI (F := 292) (I := 41) (v := (0 : Int32)) rfl rfl icThr (by simp [up2]) ?_
          refine zPs (pc1 := 53) (l1 := [(0, .ref 292), (1, .int x0), (2, .int x1)]) (st1 := [.ref 292]) 2 rfl rfl rfl ?_
          refine zGetR (r := 302) rfl rfl ⟨by decide, rfl, by decide, rfl⟩ ?_
          refine zPs (pc1 := 58) (l1 := [(0, .ref 292), (1, .int x0), (2, .int x1)]) (st1 := [.int x1, .int x0, .ref 302]) 2 rfl rfl rfl ?_
          refine zIasE (n := x0.toNatClampNeg) (F := 302) (I := x0.toNatClampNeg) h2.2 rfl (icM (k := 302) (L := 30) rfl h2.1) ?_
          refine zRv rfl rfl ?_
          exact k
      · replace k := ite_f h4 k
        refine kI ?_
        refine zPs (pc1 := 42) (l1 := [(0, .ref 292), (1, .int x0), (2, .int x1)]) (st1 := [.int (2 : Int32), .ref 292]) 2 rfl rfl rfl ?_
        refine zPutI (F := 292) (I := 41) rfl rfl icThr rfl ?_
        refine zPs (pc1 := 46) (l1 := [(0, .ref 292), (1, .int x0), (2, .int x1)]) (st1 := [.ref 292]) 1 rfl rfl rfl ?_
        refine zGetI (F := 292) (I := 41) (v := (2 : Int32)) rfl rfl icThr (by simp [up2]) ?_
        refine zPs (pc1 := 59) (l1 := [(0, .ref 292), (1, .int x0), (2, .int x1)]) (st1 := []) 1 rfl rfl rfl ?_
        refine zRv rfl rfl ?_
        exact k
    · replace k := ite_f h3 k
      refine kI ?_
      refine zPs (pc1 := 42) (l1 := [(0, .ref 292), (1, .int x0), (2, .int x1)]) (st1 := [.int (1 : Int32), .ref 292]) 3 rfl rfl rfl ?_
      refine zPutI (F := 292) (I := 41) rfl rfl icThr rfl ?_
      refine zPs (pc1 := 46) (l1 := [(0, .ref 292), (1, .int x0), (2, .int x1)]) (st1 := [.ref 292]) 1 rfl rfl rfl ?_
      refine zGetI (F := 292) (I := 41) (v := (1 : Int32)) rfl rfl icThr (by simp [up2]) ?_
      refine zPs (pc1 := 59) (l1 := [(0, .ref 292), (1, .int x0), (2, .int x1)]) (st1 := []) 1 rfl rfl rfl ?_
      refine zRv rfl rfl ?_
      exact k
  · replace k := ite_f h1 k
    refine kI ?_
    refine zPs (pc1 := 42) (l1 := [(0, .ref 292), (1, .int x0), (2, .int x1)]) (st1 := [.int (1 : Int32), .ref 292]) 3 rfl rfl rfl ?_
    refine zPutI (F := 292) (I := 41) rfl rfl icThr rfl ?_
    refine zPs (pc1 := 46) (l1 := [(0, .ref 292), (1, .int x0), (2, .int x1)]) (st1 := [.ref 292]) 1 rfl rfl rfl ?_
    refine zGetI (F := 292) (I := 41) (v := (1 : Int32)) rfl rfl icThr (by simp [up2]) ?_
    refine zPs (pc1 := 59) (l1 := [(0, .ref 292), (1, .int x0), (2, .int x1)]) (st1 := []) 1 rfl rfl rfl ?_
    refine zRv rfl rfl ?_
    exact k
noncomputable def f_124 (n : Nat) (t : Nat) (x0 : Int32) (x1 : Int32) (x2 : Int32) (l : Sg) : Sg := (if (0 : Int32) ≤ x0 ∧ x0 ≤ (6 : Int32) then (if (0 : Int32) ≤ x1 ∧ x1 ≤ (240 : Int32) then (if x1 ≤ x2 ∧ x2 ≤ (240 : Int32) then (up2 (up2 (up2 l 292 41 (0 : Int32)) 293 x0.toNatClampNeg x1) 294 x0.toNatClampNeg x2) else (up2 l 292 41 (1 : Int32))) else (up2 l 292 41 (1 : Int32))) else (up2 l 292 41 (1 : Int32)))
theorem e_124 {l : Sg} {P : MO → Sg → Prop} {n : Nat} {x0 : Int32} {x1 : Int32} {x2 : Int32} {t : Nat} (hl : n ≤ 60) (htl : t ≤ 20000) (hCI : CZ l n t)  (k : Rk (Qm P) (f_124 n t x0 x1 x2 l)) : Es true 124 [.ref 292, .int x0, .int x1, .int x2] l P := by
  unfold f_124 at k
  refine Es.of ?_
  refine zPs (pc1 := 5) (l1 := [(0, .ref 292), (1, .int x0), (2, .int x1), (3, .int x2)]) (st1 := [.int (6 : Int32), .int (0 : Int32), .int x0, .ref 292]) 4 rfl rfl rfl ?_
  refine zCs (mj := 107) rfl rfl rfl rfl rfl rfl rfl rfl ?_
  refine d_107 (fun h1 => ?_) (fun h1 => ?_)
  · replace k := ite_t h1 k
    have h2 := rng_le (b := 6) (by decide) (Int32.le_trans (by decide) h1.1) h1.2
    refine kI ?_
    refine zPs (pc1 := 16) (l1 := [(0, .ref 292), (1, .int x0), (2, .int x1), (3, .int x2)]) (st1 := [.int (240 : Int32), .int (0 : Int32), .int x1, .ref 292]) 4 rfl rfl rfl ?_
    refine zCs (mj := 107) rfl rfl rfl rfl rfl rfl rfl rfl ?_
    refine d_107 (fun h3 => ?_) (fun h3 => ?_)
    · replace k := ite_t h3 k
      have h4 := rng_le (b := 240) (by decide) (Int32.le_trans (by decide) h3.1) h3.2
      refine kI ?_
      refine zPs (pc1 := 27) (l1 := [(0, .ref 292), (1, .int x0), (2, .int x1), (3, .int x2)]) (st1 := [.int (240 : Int32), .int x1, .int x2, .ref 292]) 4 rfl rfl rfl ?_
      refine zCs (mj := 107) rfl rfl rfl rfl rfl rfl rfl rfl ?_
      refine d_107 (fun h5 => ?_) (fun h5 => ?_)
      · replace k := ite_t h5 k
        refine kI ?_
        refine zPs (pc1 := 38) (l1 := [(0, .ref 292), (1, .int x0), (2, .int x1), (3, .int x2)]) (st1 := [.int (0 : Int32), .ref 292]) 3 rfl rfl rfl ?_
        refine zPutI (F := 292) (I := 41) rfl rfl icThr rfl ?_
        refine zPs (pc1 := 42) (l1 := [(0, .ref 292), (1, .int x0), (2, .int x1), (3, .int x2)]) (st1 := [.ref 292]) 1 rfl rfl rfl ?_
        refine zGetI (F := 292) (I := 41) (v := (0 : Int32)) rfl rfl icThr (by simp [up2]) ?_
        refine zPs (pc1 := 49) (l1 := [(0, .ref 292), (1, .int x0), (2, .int x1), (3, .int x2)]) (st1 := [.ref 292]) 2 rfl rfl rfl ?_
        refine zGetR (r := 293) rfl rfl ⟨by decide, rfl, by decide, rfl⟩ ?_
        refine zPs (pc1 := 54) (l1 := [(0, .ref 292), (1, .int x0), (2, .int x1), (3, .int x2)]) (st1 := [.int x1, .int x0, .ref 293]) 2 rfl rfl rfl ?_
        refine zIasE (n := x0.toNatClampNeg) (F := 293) (I := x0.toNatClampNeg) h2.2 rfl (icM (k := 293) (L := 7) rfl h2.1) ?_
        refine zPs (pc1 := 56) (l1 := [(0, .ref 292), (1, .int x0), (2, .int x1), (3, .int x2)]) (st1 := [.ref 292]) 1 rfl rfl rfl ?_
        refine zGetR (r := 294) rfl rfl ⟨by decide, rfl, by decide, rfl⟩ ?_
        refine zPs (pc1 := 61) (l1 := [(0, .ref 292), (1, .int x0), (2, .int x1), (3, .int x2)]) (st1 := [.int x2, .int x0, .ref 294]) 2 rfl rfl rfl ?_
        refine zIasE (n := x0.toNatClampNeg) (F := 294) (I := x0.toNatClampNeg) h2.2 rfl (icM (k := 294) (L := 7) rfl h2.1) ?_
        refine zRv rfl rfl ?_
        exact k
      · replace k := ite_f h5 k
        refine kI ?_
        refine zPs (pc1 := 38) (l1 := [(0, .ref 292), (1, .int x0), (2, .int x1), (3, .int x2)]) (st1 := [.int (1 : Int32), .ref 292]) 2 rfl rfl rfl ?_
        refine zPutI (F := 292) (I := 41) rfl rfl icThr rfl ?_
        refine zPs (pc1 := 42) (l1 := [(0, .ref 292), (1, .int x0), (2, .int x1), (3, .int x2)]) (st1 := [.ref 292]) 1 rfl rfl rfl ?_
        refine zGetI (F := 292) (I := 41) (v := (1 : Int32)) rfl rfl icThr (by simp [up2]) ?_
        refine zPs (pc1 := 62) (l1 := [(0, .ref 292), (1, .int x0), (2, .int x1), (3, .int x2)]) (st1 := []) 1 rfl rfl rfl ?_
        refine zRv rfl rfl ?_
        exact k
    · replace k := ite_f h3 k
      refine kI ?_
      refine zPs (pc1 := 38) (l1 := [(0, .ref 292), (1, .int x0), (2, .int x1), (3, .int x2)]) (st1 := [.int (1 : Int32), .ref 292]) 2 rfl rfl rfl ?_
      refine zPutI (F := 292) (I := 41) rfl rfl icThr rfl ?_
      refine zPs (pc1 := 42) (l1 := [(0, .ref 292), (1, .int x0), (2, .int x1), (3, .int x2)]) (st1 := [.ref 292]) 1 rfl rfl rfl ?_
      refine zGetI (F := 292) (I := 41) (v := (1 : Int32)) rfl rfl icThr (by simp [up2]) ?_
      refine zPs (pc1 := 62) (l1 := [(0, .ref 292), (1, .int x0), (2, .int x1), (3, .int x2)]) (st1 := []) 1 rfl rfl rfl ?_
      refine zRv rfl rfl ?_
      exact k
  · replace k := ite_f h1 k
    refine kI ?_
    refine zPs (pc1 := 38) (l1 := [(0, .ref 292), (1, .int x0), (2, .int x1), (3, .int x2)]) (st1 := [.int (1 : Int32), .ref 292]) 2 rfl rfl rfl ?_
    refine zPutI (F := 292) (I := 41) rfl rfl icThr rfl ?_
    refine zPs (pc1 := 42) (l1 := [(0, .ref 292), (1, .int x0), (2, .int x1), (3, .int x2)]) (st1 := [.ref 292]) 1 rfl rfl rfl ?_
    refine zGetI (F := 292) (I := 41) (v := (1 : Int32)) rfl rfl icThr (by simp [up2]) ?_
    refine zPs (pc1 := 62) (l1 := [(0, .ref 292), (1, .int x0), (2, .int x1), (3, .int x2)]) (st1 := []) 1 rfl rfl rfl ?_
    refine zRv rfl rfl ?_
    exact k
noncomputable def f_125 (n : Nat) (t : Nat) (x0 : Int32) (x1 : Int32) (l : Sg) : Int32 × Sg := (if (0 : Int32) ≤ x0 ∧ x0 ≤ (83 : Int32) then (l 295 x0.toNatClampNeg, (up2 (up2 l 292 41 (0 : Int32)) 295 x0.toNatClampNeg x1)) else ((0 : Int32), (up2 l 292 41 (1 : Int32))))
theorem e_125 {l : Sg} {P : MO → Sg → Prop} {n : Nat} {x0 : Int32} {x1 : Int32} {t : Nat} (hl : n ≤ 60) (htl : t ≤ 20000) (hCI : CZ l n t)  (hb1 : x1 = 0 ∨ x1 = 1) (hh : ∀ i, i < 84 → l 295 i = 0 ∨ l 295 i = 1) (k : Rk (Qb P) (f_125 n t x0 x1 l)) : Es true 125 [.ref 292, .int x0, .int x1] l P := by
  unfold f_125 at k
  refine Es.of ?_
  refine zPs (pc1 := 5) (l1 := [(0, .ref 292), (1, .int x0), (2, .int x1)]) (st1 := [.int (83 : Int32), .int (0 : Int32), .int x0, .ref 292]) 4 rfl rfl rfl ?_
  refine zCs (mj := 107) rfl rfl rfl rfl rfl rfl rfl rfl ?_
  refine d_107 (fun h1 => ?_) (fun h1 => ?_)
  · replace k := ite_t h1 k
    have h2 := rng_le (b := 83) (by decide) (Int32.le_trans (by decide) h1.1) h1.2
    refine kI ?_
    refine zPs (pc1 := 16) (l1 := [(0, .ref 292), (1, .int x0), (2, .int x1)]) (st1 := [.int (0 : Int32), .ref 292]) 3 rfl rfl rfl ?_
    refine zPutI (F := 292) (I := 41) rfl rfl icThr rfl ?_
    refine zPs (pc1 := 20) (l1 := [(0, .ref 292), (1, .int x0), (2, .int x1)]) (st1 := [.ref 292]) 1 rfl rfl rfl ?_
    refine zGetI (F := 292) (I := 41) (v := (0 : Int32)) rfl rfl icThr (by simp [up2]) ?_
    refine zPs (pc1 := 29) (l1 := [(0, .ref 292), (1, .int x0), (2, .int x1)]) (st1 := [.ref 292]) 2 rfl rfl rfl ?_
    refine zGetR (r := 295) rfl rfl ⟨by decide, rfl, by decide, rfl⟩ ?_
    refine zPs (pc1 := 33) (l1 := [(0, .ref 292), (1, .int x0), (2, .int x1)]) (st1 := [.int x0, .ref 295]) 1 rfl rfl rfl ?_
    refine zZalE (n := x0.toNatClampNeg) (v := l 295 x0.toNatClampNeg) h2.2 rfl (icH h2.1) rfl ?_
    refine zPs (pc1 := 36) (l1 := [(3, .int (l 295 x0.toNatClampNeg)), (0, .ref 292), (1, .int x0), (2, .int x1)]) (st1 := [.ref 292]) 2 rfl rfl rfl ?_
    refine zGetR (r := 295) rfl rfl ⟨by decide, rfl, by decide, rfl⟩ ?_
    refine zPs (pc1 := 41) (l1 := [(3, .int (l 295 x0.toNatClampNeg)), (0, .ref 292), (1, .int x0), (2, .int x1)]) (st1 := [.int x1, .int x0, .ref 295]) 2 rfl rfl rfl ?_
    refine zZasE (n := x0.toNatClampNeg) (F := 295) (I := x0.toNatClampNeg) h2.2 rfl (icH h2.1) hb1 ?_
    refine zPs (pc1 := 43) (l1 := [(3, .int (l 295 x0.toNatClampNeg)), (0, .ref 292), (1, .int x0), (2, .int x1)]) (st1 := [.int (l 295 x0.toNatClampNeg)]) 1 rfl rfl rfl ?_
    refine zRz rfl rfl (hh _ (by omega)) ?_
    exact k
  · replace k := ite_f h1 k
    refine kI ?_
    refine zPs (pc1 := 16) (l1 := [(0, .ref 292), (1, .int x0), (2, .int x1)]) (st1 := [.int (1 : Int32), .ref 292]) 2 rfl rfl rfl ?_
    refine zPutI (F := 292) (I := 41) rfl rfl icThr rfl ?_
    refine zPs (pc1 := 20) (l1 := [(0, .ref 292), (1, .int x0), (2, .int x1)]) (st1 := [.ref 292]) 1 rfl rfl rfl ?_
    refine zGetI (F := 292) (I := 41) (v := (1 : Int32)) rfl rfl icThr (by simp [up2]) ?_
    refine zPs (pc1 := 27) (l1 := [(0, .ref 292), (1, .int x0), (2, .int x1)]) (st1 := [.int (0 : Int32)]) 2 rfl rfl rfl ?_
    refine zRz rfl rfl (Or.inl rfl) ?_
    exact k
noncomputable def f_118 (n : Nat) (t : Nat) (x0 : Int32) (x1 : Int32) (x2 : Int32) (x3 : Int32) (x4 : Int32) (x5 : Int32) (l : Sg) : Sg := (if x1 = (2 : Int32) then (if (0 : Int32) ≤ x1 ∧ x1 ≤ (4 : Int32) then (if (0 : Int32) ≤ x2 ∧ x2 ≤ (5 : Int32) then (if (0 : Int32) ≤ x3 ∧ x3 ≤ (60 : Int32) then (if isN x0 then (if isT x4 then (if isT x5 then (if quiet l n then (up2 (up2 (up2 (up2 (up2 (up2 (up2 (up2 (up2 (up2 (up2 (up2 l 292 41 (0 : Int32)) 296 x0.toNatClampNeg (4 : Int32)) 306 x0.toNatClampNeg (0 : Int32)) 303 x0.toNatClampNeg (10 : Int32)) 304 x0.toNatClampNeg (3 : Int32)) 305 x0.toNatClampNeg (2 : Int32)) 302 x0.toNatClampNeg (-1 : Int32)) 297 x0.toNatClampNeg x2) 298 x0.toNatClampNeg x3) 299 x0.toNatClampNeg x1) 301 x0.toNatClampNeg x4) 302 x0.toNatClampNeg x5) else (up2 l 292 41 (3 : Int32))) else (up2 l 292 41 (1 : Int32))) else (up2 l 292 41 (1 : Int32))) else (up2 l 292 41 (1 : Int32))) else (if isN x0 then (if isT x4 then (if isT x5 then (up2 l 292 41 (2 : Int32)) else (up2 l 292 41 (1 : Int32))) else (up2 l 292 41 (1 : Int32))) else (up2 l 292 41 (1 : Int32)))) else (if isN x0 then (if isT x4 then (if isT x5 then (up2 l 292 41 (2 : Int32)) else (up2 l 292 41 (1 : Int32))) else (up2 l 292 41 (1 : Int32))) else (up2 l 292 41 (1 : Int32)))) else (if isN x0 then (if isT x4 then (if isT x5 then (up2 l 292 41 (2 : Int32)) else (up2 l 292 41 (1 : Int32))) else (up2 l 292 41 (1 : Int32))) else (up2 l 292 41 (1 : Int32)))) else (if ¬ x1 = (4 : Int32) then (if ¬ x1 = (3 : Int32) then (if (0 : Int32) ≤ x1 ∧ x1 ≤ (4 : Int32) then (if (0 : Int32) ≤ x2 ∧ x2 ≤ (999999 : Int32) then (if (0 : Int32) ≤ x3 ∧ x3 ≤ (60 : Int32) then (if isN x0 then (if isT x4 then (if isT x5 then (if quiet l n then (up2 (up2 (up2 (up2 (up2 (up2 (up2 (up2 (up2 (up2 (up2 (up2 l 292 41 (0 : Int32)) 296 x0.toNatClampNeg (4 : Int32)) 306 x0.toNatClampNeg (0 : Int32)) 303 x0.toNatClampNeg (10 : Int32)) 304 x0.toNatClampNeg (3 : Int32)) 305 x0.toNatClampNeg (2 : Int32)) 302 x0.toNatClampNeg (-1 : Int32)) 297 x0.toNatClampNeg x2) 298 x0.toNatClampNeg x3) 299 x0.toNatClampNeg x1) 301 x0.toNatClampNeg x4) 302 x0.toNatClampNeg x5) else (up2 l 292 41 (3 : Int32))) else (up2 l 292 41 (1 : Int32))) else (up2 l 292 41 (1 : Int32))) else (up2 l 292 41 (1 : Int32))) else (if isN x0 then (if isT x4 then (if isT x5 then (up2 l 292 41 (2 : Int32)) else (up2 l 292 41 (1 : Int32))) else (up2 l 292 41 (1 : Int32))) else (up2 l 292 41 (1 : Int32)))) else (if isN x0 then (if isT x4 then (if isT x5 then (up2 l 292 41 (2 : Int32)) else (up2 l 292 41 (1 : Int32))) else (up2 l 292 41 (1 : Int32))) else (up2 l 292 41 (1 : Int32)))) else (if isN x0 then (if isT x4 then (if isT x5 then (up2 l 292 41 (2 : Int32)) else (up2 l 292 41 (1 : Int32))) else (up2 l 292 41 (1 : Int32))) else (up2 l 292 41 (1 : Int32)))) else (if (0 : Int32) ≤ x1 ∧ x1 ≤ (4 : Int32) then (if (0 : Int32) ≤ x2 ∧ x2 ≤ (6 : Int32) then (if (0 : Int32) ≤ x3 ∧ x3 ≤ (60 : Int32) then (if isN x0 then (if isT x4 then (if isT x5 then (if quiet l n then (up2 (up2 (up2 (up2 (up2 (up2 (up2 (up2 (up2 (up2 (up2 (up2 l 292 41 (0 : Int32)) 296 x0.toNatClampNeg (4 : Int32)) 306 x0.toNatClampNeg (0 : Int32)) 303 x0.toNatClampNeg (10 : Int32)) 304 x0.toNatClampNeg (3 : Int32)) 305 x0.toNatClampNeg (2 : Int32)) 302 x0.toNatClampNeg (-1 : Int32)) 297 x0.toNatClampNeg x2) 298 x0.toNatClampNeg x3) 299 x0.toNatClampNeg x1) 301 x0.toNatClampNeg x4) 302 x0.toNatClampNeg x5) else (up2 l 292 41 (3 : Int32))) else (up2 l 292 41 (1 : Int32))) else (up2 l 292 41 (1 : Int32))) else (up2 l 292 41 (1 : Int32))) else (if isN x0 then (if isT x4 then (if isT x5 then (up2 l 292 41 (2 : Int32)) else (up2 l 292 41 (1 : Int32))) else (up2 l 292 41 (1 : Int32))) else (up2 l 292 41 (1 : Int32)))) else (if isN x0 then (if isT x4 then (if isT x5 then (up2 l 292 41 (2 : Int32)) else (up2 l 292 41 (1 : Int32))) else (up2 l 292 41 (1 : Int32))) else (up2 l 292 41 (1 : Int32)))) else (if isN x0 then (if isT x4 then (if isT x5 then (up2 l 292 41 (2 : Int32)) else (up2 l 292 41 (1 : Int32))) else (up2 l 292 41 (1 : Int32))) else (up2 l 292 41 (1 : Int32))))) else (if (0 : Int32) ≤ x1 ∧ x1 ≤ (4 : Int32) then (if (0 : Int32) ≤ x2 ∧ x2 ≤ (5 : Int32) then (if (0 : Int32) ≤ x3 ∧ x3 ≤ (60 : Int32) then (if isN x0 then (if isT x4 then (if isT x5 then (if quiet l n then (up2 (up2 (up2 (up2 (up2 (up2 (up2 (up2 (up2 (up2 (up2 (up2 l 292 41 (0 : Int32)) 296 x0.toNatClampNeg (4 : Int32)) 306 x0.toNatClampNeg (0 : Int32)) 303 x0.toNatClampNeg (10 : Int32)) 304 x0.toNatClampNeg (3 : Int32)) 305 x0.toNatClampNeg (2 : Int32)) 302 x0.toNatClampNeg (-1 : Int32)) 297 x0.toNatClampNeg x2) 298 x0.toNatClampNeg x3) 299 x0.toNatClampNeg x1) 301 x0.toNatClampNeg x4) 302 x0.toNatClampNeg x5) else (up2 l 292 41 (3 : Int32))) else (up2 l 292 41 (1 : Int32))) else (up2 l 292 41 (1 : Int32))) else (up2 l 292 41 (1 : Int32))) else (if isN x0 then (if isT x4 then (if isT x5 then (up2 l 292 41 (2 : Int32)) else (up2 l 292 41 (1 : Int32))) else (up2 l 292 41 (1 : Int32))) else (up2 l 292 41 (1 : Int32)))) else (if isN x0 then (if isT x4 then (if isT x5 then (up2 l 292 41 (2 : Int32)) else (up2 l 292 41 (1 : Int32))) else (up2 l 292 41 (1 : Int32))) else (up2 l 292 41 (1 : Int32)))) else (if isN x0 then (if isT x4 then (if isT x5 then (up2 l 292 41 (2 : Int32)) else (up2 l 292 41 (1 : Int32))) else (up2 l 292 41 (1 : Int32))) else (up2 l 292 41 (1 : Int32))))))
theorem e_118 {l : Sg} {P : MO → Sg → Prop} {n : Nat} {x0 : Int32} {x1 : Int32} {x2 : Int32} {x3 : Int32} {x4 : Int32} {x5 : Int32} {t : Nat} (hl : n ≤ 60) (htl : t ≤ 20000) (hCI : CZ l n t)  (k : Rk (Qm P) (f_118 n t x0 x1 x2 x3 x4 x5 l)) : Es true 118 [.ref 292, .int x0, .int x1, .int x2, .int x3, .int x4, .int x5] l P := by
  unfold f_118 at k
  refine Es.of ?_
  refine zPs (pc1 := 2) (l1 := [(0, .ref 292), (1, .int x0), (2, .int x1), (3, .int x2), (4, .int x3), (5, .int x4), (6, .int x5)]) (st1 := [.int (2 : Int32), .int x1]) 2 rfl rfl rfl ?_
  refine zCe rfl (fun h1 => ?_) (fun h1 => ?_)
  · replace k := ite_t h1 k
    refine zPs (pc1 := 31) (l1 := [(7, .int (5 : Int32)), (0, .ref 292), (1, .int x0), (2, .int x1), (3, .int x2), (4, .int x3), (5, .int x4), (6, .int x5)]) (st1 := [.int (4 : Int32), .int (0 : Int32), .int x1]) 6 rfl rfl rfl ?_
    refine zCs (mj := 107) rfl rfl rfl rfl rfl rfl rfl rfl ?_
    refine d_107 (fun h2 => ?_) (fun h2 => ?_)
    · replace k := ite_t h2 k
      have h3 := rng_le (b := 4) (by decide) (Int32.le_trans (by decide) h2.1) h2.2
      refine kI ?_
      refine zPs (pc1 := 41) (l1 := [(7, .int (5 : Int32)), (0, .ref 292), (1, .int x0), (2, .int x1), (3, .int x2), (4, .int x3), (5, .int x4), (6, .int x5)]) (st1 := [.int (5 : Int32), .int (0 : Int32), .int x2]) 4 rfl rfl rfl ?_
      refine zCs (mj := 107) rfl rfl rfl rfl rfl rfl rfl rfl ?_
      refine d_107 (fun h4 => ?_) (fun h4 => ?_)
      · replace k := ite_t h4 k
        have h5 := rng_le (b := 5) (by decide) (Int32.le_trans (by decide) h4.1) h4.2
        refine kI ?_
        refine zPs (pc1 := 52) (l1 := [(7, .int (5 : Int32)), (0, .ref 292), (1, .int x0), (2, .int x1), (3, .int x2), (4, .int x3), (5, .int x4), (6, .int x5)]) (st1 := [.int (60 : Int32), .int (0 : Int32), .int x3]) 4 rfl rfl rfl ?_
        refine zCs (mj := 107) rfl rfl rfl rfl rfl rfl rfl rfl ?_
        refine d_107 (fun h6 => ?_) (fun h6 => ?_)
        · replace k := ite_t h6 k
          have h7 := rng_le (b := 60) (by decide) (Int32.le_trans (by decide) h6.1) h6.2
          refine kI ?_
          refine zPs (pc1 := 69) (l1 := [(8, .int (1 : Int32)), (7, .int (5 : Int32)), (0, .ref 292), (1, .int x0), (2, .int x1), (3, .int x2), (4, .int x3), (5, .int x4), (6, .int x5)]) (st1 := [.int x0, .int (4 : Int32), .int x0, .ref 292]) 8 rfl rfl rfl ?_
          refine zCs (mj := 108) rfl rfl rfl rfl rfl rfl rfl rfl ?_
          refine d_108 (fun h8 => ?_) (fun h8 => ?_)
          · replace k := ite_t h8 k
            have h9 := isN_lt h8
            refine kI ?_
            refine zPs (pc1 := 77) (l1 := [(8, .int (1 : Int32)), (7, .int (5 : Int32)), (0, .ref 292), (1, .int x0), (2, .int x1), (3, .int x2), (4, .int x3), (5, .int x4), (6, .int x5)]) (st1 := [.int x4, .int (4 : Int32), .int x0, .ref 292]) 2 rfl rfl rfl ?_
            refine zCs (mj := 109) rfl rfl rfl rfl rfl rfl rfl rfl ?_
            refine c_109 (fun h10 => ?_) (fun h10 => ?_)
            · replace k := ite_t h10 k
              refine kI ?_
              refine zPs (pc1 := 85) (l1 := [(8, .int (1 : Int32)), (7, .int (5 : Int32)), (0, .ref 292), (1, .int x0), (2, .int x1), (3, .int x2), (4, .int x3), (5, .int x4), (6, .int x5)]) (st1 := [.int x5, .int (4 : Int32), .int x0, .ref 292]) 2 rfl rfl rfl ?_
              refine zCs (mj := 109) rfl rfl rfl rfl rfl rfl rfl rfl ?_
              refine c_109 (fun h11 => ?_) (fun h11 => ?_)
              · replace k := ite_t h11 k
                refine kI ?_
                refine zPs (pc1 := 98) (l1 := [(8, .int (1 : Int32)), (7, .int (5 : Int32)), (0, .ref 292), (1, .int x0), (2, .int x1), (3, .int x2), (4, .int x3), (5, .int x4), (6, .int x5)]) (st1 := [.int (1 : Int32), .int (1 : Int32), .int (4 : Int32), .int x0, .ref 292]) 4 rfl rfl rfl ?_
                refine zTo (ml' := [(8, .int (1 : Int32)), (7, .int (5 : Int32)), (0, .ref 292), (1, .int x0), (2, .int x1), (3, .int x2), (4, .int x3), (5, .int x4), (6, .int x5)]) (st' := [.int (1 : Int32), .int (1 : Int32), .int (4 : Int32), .int (i32 x0.toNatClampNeg), .ref 292]) rfl (by rw [h9.2]) ?_
                refine zCv (mj := 111) (k := 292) (n := 4) rfl rfl rfl rfl (by decide) rfl rfl rfl rfl rfl rfl ?_
                refine c_111o4 hl hCI.1 h9.1 (fun h12 => ?_) (fun h12 => ?_)
                · replace k := ite_t h12 k
                  refine kI ?_
                  refine zZ (z' := (up2 (up2 (up2 (up2 (up2 (up2 (up2 l 292 41 (0 : Int32)) 296 x0.toNatClampNeg (4 : Int32)) 306 x0.toNatClampNeg (0 : Int32)) 303 x0.toNatClampNeg (10 : Int32)) 304 x0.toNatClampNeg (3 : Int32)) 305 x0.toNatClampNeg (2 : Int32)) 302 x0.toNatClampNeg (-1 : Int32))) rfl ?_
                  refine zPs (pc1 := 105) (l1 := [(8, .int (1 : Int32)), (7, .int (5 : Int32)), (0, .ref 292), (1, .int x0), (2, .int x1), (3, .int x2), (4, .int x3), (5, .int x4), (6, .int x5)]) (st1 := [.ref 292]) 2 rfl rfl rfl ?_
                  refine zGetR (r := 297) rfl rfl ⟨by decide, rfl, by decide, rfl⟩ ?_
                  refine zPs (pc1 := 110) (l1 := [(8, .int (1 : Int32)), (7, .int (5 : Int32)), (0, .ref 292), (1, .int x0), (2, .int x1), (3, .int x2), (4, .int x3), (5, .int x4), (6, .int x5)]) (st1 := [.int x2, .int x0, .ref 297]) 2 rfl rfl rfl ?_
                  refine zIasE (n := x0.toNatClampNeg) (F := 297) (I := x0.toNatClampNeg) h9.2 rfl (icM (k := 297) (L := 30) rfl h9.1) ?_
                  refine zPs (pc1 := 112) (l1 := [(8, .int (1 : Int32)), (7, .int (5 : Int32)), (0, .ref 292), (1, .int x0), (2, .int x1), (3, .int x2), (4, .int x3), (5, .int x4), (6, .int x5)]) (st1 := [.ref 292]) 1 rfl rfl rfl ?_
                  refine zGetR (r := 298) rfl rfl ⟨by decide, rfl, by decide, rfl⟩ ?_
                  refine zPs (pc1 := 118) (l1 := [(8, .int (1 : Int32)), (7, .int (5 : Int32)), (0, .ref 292), (1, .int x0), (2, .int x1), (3, .int x2), (4, .int x3), (5, .int x4), (6, .int x5)]) (st1 := [.int x3, .int x0, .ref 298]) 2 rfl rfl rfl ?_
                  refine zIasE (n := x0.toNatClampNeg) (F := 298) (I := x0.toNatClampNeg) h9.2 rfl (icM (k := 298) (L := 30) rfl h9.1) ?_
                  refine zPs (pc1 := 120) (l1 := [(8, .int (1 : Int32)), (7, .int (5 : Int32)), (0, .ref 292), (1, .int x0), (2, .int x1), (3, .int x2), (4, .int x3), (5, .int x4), (6, .int x5)]) (st1 := [.ref 292]) 1 rfl rfl rfl ?_
                  refine zGetR (r := 299) rfl rfl ⟨by decide, rfl, by decide, rfl⟩ ?_
                  refine zPs (pc1 := 125) (l1 := [(8, .int (1 : Int32)), (7, .int (5 : Int32)), (0, .ref 292), (1, .int x0), (2, .int x1), (3, .int x2), (4, .int x3), (5, .int x4), (6, .int x5)]) (st1 := [.int x1, .int x0, .ref 299]) 2 rfl rfl rfl ?_
                  refine zIasE (n := x0.toNatClampNeg) (F := 299) (I := x0.toNatClampNeg) h9.2 rfl (icM (k := 299) (L := 30) rfl h9.1) ?_
                  refine zPs (pc1 := 127) (l1 := [(8, .int (1 : Int32)), (7, .int (5 : Int32)), (0, .ref 292), (1, .int x0), (2, .int x1), (3, .int x2), (4, .int x3), (5, .int x4), (6, .int x5)]) (st1 := [.ref 292]) 1 rfl rfl rfl ?_
                  refine zGetR (r := 301) rfl rfl ⟨by decide, rfl, by decide, rfl⟩ ?_
                  refine zPs (pc1 := 133) (l1 := [(8, .int (1 : Int32)), (7, .int (5 : Int32)), (0, .ref 292), (1, .int x0), (2, .int x1), (3, .int x2), (4, .int x3), (5, .int x4), (6, .int x5)]) (st1 := [.int x4, .int x0, .ref 301]) 2 rfl rfl rfl ?_
                  refine zIasE (n := x0.toNatClampNeg) (F := 301) (I := x0.toNatClampNeg) h9.2 rfl (icM (k := 301) (L := 30) rfl h9.1) ?_
                  refine zPs (pc1 := 135) (l1 := [(8, .int (1 : Int32)), (7, .int (5 : Int32)), (0, .ref 292), (1, .int x0), (2, .int x1), (3, .int x2), (4, .int x3), (5, .int x4), (6, .int x5)]) (st1 := [.ref 292]) 1 rfl rfl rfl ?_
                  refine zGetR (r := 302) rfl rfl ⟨by decide, rfl, by decide, rfl⟩ ?_
                  refine zPs (pc1 := 141) (l1 := [(8, .int (1 : Int32)), (7, .int (5 : Int32)), (0, .ref 292), (1, .int x0), (2, .int x1), (3, .int x2), (4, .int x3), (5, .int x4), (6, .int x5)]) (st1 := [.int x5, .int x0, .ref 302]) 2 rfl rfl rfl ?_
                  refine zIasE (n := x0.toNatClampNeg) (F := 302) (I := x0.toNatClampNeg) h9.2 rfl (icM (k := 302) (L := 30) rfl h9.1) ?_
                  refine zRv rfl rfl ?_
                  exact k
                · replace k := ite_f h12 k
                  refine kI ?_
                  refine zZ (z' := (up2 l 292 41 (3 : Int32))) rfl ?_
                  refine zPs (pc1 := 142) (l1 := [(8, .int (1 : Int32)), (7, .int (5 : Int32)), (0, .ref 292), (1, .int x0), (2, .int x1), (3, .int x2), (4, .int x3), (5, .int x4), (6, .int x5)]) (st1 := []) 1 rfl rfl rfl ?_
                  refine zRv rfl rfl ?_
                  exact k
              · replace k := ite_f h11 k
                refine kI ?_
                refine zPs (pc1 := 98) (l1 := [(8, .int (1 : Int32)), (7, .int (5 : Int32)), (0, .ref 292), (1, .int x0), (2, .int x1), (3, .int x2), (4, .int x3), (5, .int x4), (6, .int x5)]) (st1 := [.int (1 : Int32), .int (0 : Int32), .int (4 : Int32), .int x0, .ref 292]) 3 rfl rfl rfl ?_
                refine zCv (mj := 111) (k := 292) (n := 4) rfl rfl rfl rfl (by decide) rfl rfl rfl rfl rfl rfl ?_
                refine c_111n4 ?_
                refine kI ?_
                refine zZ (z' := (up2 l 292 41 (1 : Int32))) rfl ?_
                refine zPs (pc1 := 142) (l1 := [(8, .int (1 : Int32)), (7, .int (5 : Int32)), (0, .ref 292), (1, .int x0), (2, .int x1), (3, .int x2), (4, .int x3), (5, .int x4), (6, .int x5)]) (st1 := []) 1 rfl rfl rfl ?_
                refine zRv rfl rfl ?_
                exact k
            · replace k := ite_f h10 k
              refine kI ?_
              refine zPs (pc1 := 98) (l1 := [(8, .int (1 : Int32)), (7, .int (5 : Int32)), (0, .ref 292), (1, .int x0), (2, .int x1), (3, .int x2), (4, .int x3), (5, .int x4), (6, .int x5)]) (st1 := [.int (1 : Int32), .int (0 : Int32), .int (4 : Int32), .int x0, .ref 292]) 3 rfl rfl rfl ?_
              refine zCv (mj := 111) (k := 292) (n := 4) rfl rfl rfl rfl (by decide) rfl rfl rfl rfl rfl rfl ?_
              refine c_111n4 ?_
              refine kI ?_
              refine zZ (z' := (up2 l 292 41 (1 : Int32))) rfl ?_
              refine zPs (pc1 := 142) (l1 := [(8, .int (1 : Int32)), (7, .int (5 : Int32)), (0, .ref 292), (1, .int x0), (2, .int x1), (3, .int x2), (4, .int x3), (5, .int x4), (6, .int x5)]) (st1 := []) 1 rfl rfl rfl ?_
              refine zRv rfl rfl ?_
              exact k
          · replace k := ite_f h8 k
            refine kI ?_
            refine zPs (pc1 := 98) (l1 := [(8, .int (1 : Int32)), (7, .int (5 : Int32)), (0, .ref 292), (1, .int x0), (2, .int x1), (3, .int x2), (4, .int x3), (5, .int x4), (6, .int x5)]) (st1 := [.int (1 : Int32), .int (0 : Int32), .int (4 : Int32), .int x0, .ref 292]) 3 rfl rfl rfl ?_
            refine zCv (mj := 111) (k := 292) (n := 4) rfl rfl rfl rfl (by decide) rfl rfl rfl rfl rfl rfl ?_
            refine c_111n4 ?_
            refine kI ?_
            refine zZ (z' := (up2 l 292 41 (1 : Int32))) rfl ?_
            refine zPs (pc1 := 142) (l1 := [(8, .int (1 : Int32)), (7, .int (5 : Int32)), (0, .ref 292), (1, .int x0), (2, .int x1), (3, .int x2), (4, .int x3), (5, .int x4), (6, .int x5)]) (st1 := []) 1 rfl rfl rfl ?_
            refine zRv rfl rfl ?_
            exact k
        · replace k := ite_f h6 k
          refine kI ?_
          refine zPs (pc1 := 69) (l1 := [(8, .int (0 : Int32)), (7, .int (5 : Int32)), (0, .ref 292), (1, .int x0), (2, .int x1), (3, .int x2), (4, .int x3), (5, .int x4), (6, .int x5)]) (st1 := [.int x0, .int (4 : Int32), .int x0, .ref 292]) 7 rfl rfl rfl ?_
          refine zCs (mj := 108) rfl rfl rfl rfl rfl rfl rfl rfl ?_
          refine d_108 (fun h13 => ?_) (fun h13 => ?_)
          · replace k := ite_t h13 k
            have h14 := isN_lt h13
            refine kI ?_
            refine zPs (pc1 := 77) (l1 := [(8, .int (0 : Int32)), (7, .int (5 : Int32)), (0, .ref 292), (1, .int x0), (2, .int x1), (3, .int x2), (4, .int x3), (5, .int x4), (6, .int x5)]) (st1 := [.int x4, .int (4 : Int32), .int x0, .ref 292]) 2 rfl rfl rfl ?_
            refine zCs (mj := 109) rfl rfl rfl rfl rfl rfl rfl rfl ?_
            refine c_109 (fun h15 => ?_) (fun h15 => ?_)
            · replace k := ite_t h15 k
              refine kI ?_
              refine zPs (pc1 := 85) (l1 := [(8, .int (0 : Int32)), (7, .int (5 : Int32)), (0, .ref 292), (1, .int x0), (2, .int x1), (3, .int x2), (4, .int x3), (5, .int x4), (6, .int x5)]) (st1 := [.int x5, .int (4 : Int32), .int x0, .ref 292]) 2 rfl rfl rfl ?_
              refine zCs (mj := 109) rfl rfl rfl rfl rfl rfl rfl rfl ?_
              refine c_109 (fun h16 => ?_) (fun h16 => ?_)
              · replace k := ite_t h16 k
                refine kI ?_
                refine zPs (pc1 := 98) (l1 := [(8, .int (0 : Int32)), (7, .int (5 : Int32)), (0, .ref 292), (1, .int x0), (2, .int x1), (3, .int x2), (4, .int x3), (5, .int x4), (6, .int x5)]) (st1 := [.int (0 : Int32), .int (1 : Int32), .int (4 : Int32), .int x0, .ref 292]) 4 rfl rfl rfl ?_
                refine zCv (mj := 111) (k := 292) (n := 4) rfl rfl rfl rfl (by decide) rfl rfl rfl rfl rfl rfl ?_
                refine c_111b4 ?_
                refine kI ?_
                refine zZ (z' := (up2 l 292 41 (2 : Int32))) rfl ?_
                refine zPs (pc1 := 142) (l1 := [(8, .int (0 : Int32)), (7, .int (5 : Int32)), (0, .ref 292), (1, .int x0), (2, .int x1), (3, .int x2), (4, .int x3), (5, .int x4), (6, .int x5)]) (st1 := []) 1 rfl rfl rfl ?_
                refine zRv rfl rfl ?_
                exact k
              · replace k := ite_f h16 k
                refine kI ?_
                refine zPs (pc1 := 98) (l1 := [(8, .int (0 : Int32)), (7, .int (5 : Int32)), (0, .ref 292), (1, .int x0), (2, .int x1), (3, .int x2), (4, .int x3), (5, .int x4), (6, .int x5)]) (st1 := [.int (0 : Int32), .int (0 : Int32), .int (4 : Int32), .int x0, .ref 292]) 3 rfl rfl rfl ?_
                refine zCv (mj := 111) (k := 292) (n := 4) rfl rfl rfl rfl (by decide) rfl rfl rfl rfl rfl rfl ?_
                refine c_111n4 ?_
                refine kI ?_
                refine zZ (z' := (up2 l 292 41 (1 : Int32))) rfl ?_
                refine zPs (pc1 := 142) (l1 := [(8, .int (0 : Int32)), (7, .int (5 : Int32)), (0, .ref 292), (1, .int x0), (2, .int x1), (3, .int x2), (4, .int x3), (5, .int x4), (6, .int x5)]) (st1 := []) 1 rfl rfl rfl ?_
                refine zRv rfl rfl ?_
                exact k
            · replace k := ite_f h15 k
              refine kI ?_
              refine zPs (pc1 := 98) (l1 := [(8, .int (0 : Int32)), (7, .int (5 : Int32)), (0, .ref 292), (1, .int x0), (2, .int x1), (3, .int x2), (4, .int x3), (5, .int x4), (6, .int x5)]) (st1 := [.int (0 : Int32), .int (0 : Int32), .int (4 : Int32), .int x0, .ref 292]) 3 rfl rfl rfl ?_
              refine zCv (mj := 111) (k := 292) (n := 4) rfl rfl rfl rfl (by decide) rfl rfl rfl rfl rfl rfl ?_
              refine c_111n4 ?_
              refine kI ?_
              refine zZ (z' := (up2 l 292 41 (1 : Int32))) rfl ?_
              refine zPs (pc1 := 142) (l1 := [(8, .int (0 : Int32)), (7, .int (5 : Int32)), (0, .ref 292), (1, .int x0), (2, .int x1), (3, .int x2), (4, .int x3), (5, .int x4), (6, .int x5)]) (st1 := []) 1 rfl rfl rfl ?_
              refine zRv rfl rfl ?_
              exact k
          · replace k := ite_f h13 k
            refine kI ?_
            refine zPs (pc1 := 98) (l1 := [(8, .int (0 : Int32)), (7, .int (5 : Int32)), (0, .ref 292), (1, .int x0), (2, .int x1), (3, .int x2), (4, .int x3), (5, .int x4), (6, .int x5)]) (st1 := [.int (0 : Int32), .int (0 : Int32), .int (4 : Int32), .int x0, .ref 292]) 3 rfl rfl rfl ?_
            refine zCv (mj := 111) (k := 292) (n := 4) rfl rfl rfl rfl (by decide) rfl rfl rfl rfl rfl rfl ?_
            refine c_111n4 ?_
            refine kI ?_
            refine zZ (z' := (up2 l 292 41 (1 : Int32))) rfl ?_
            refine zPs (pc1 := 142) (l1 := [(8, .int (0 : Int32)), (7, .int (5 : Int32)), (0, .ref 292), (1, .int x0), (2, .int x1), (3, .int x2), (4, .int x3), (5, .int x4), (6, .int x5)]) (st1 := []) 1 rfl rfl rfl ?_
            refine zRv rfl rfl ?_
            exact k
      · replace k := ite_f h4 k
        refine kI ?_
        refine zPs (pc1 := 69) (l1 := [(8, .int (0 : Int32)), (7, .int (5 : Int32)), (0, .ref 292), (1, .int x0), (2, .int x1), (3, .int x2), (4, .int x3), (5, .int x4), (6, .int x5)]) (st1 := [.int x0, .int (4 : Int32), .int x0, .ref 292]) 7 rfl rfl rfl ?_
        refine zCs (mj := 108) rfl rfl rfl rfl rfl rfl rfl rfl ?_
        refine d_108 (fun h17 => ?_) (fun h17 => ?_)
        · replace k := ite_t h17 k
          have h18 := isN_lt h17
          refine kI ?_
          refine zPs (pc1 := 77) (l1 := [(8, .int (0 : Int32)), (7, .int (5 : Int32)), (0, .ref 292), (1, .int x0), (2, .int x1), (3, .int x2), (4, .int x3), (5, .int x4), (6, .int x5)]) (st1 := [.int x4, .int (4 : Int32), .int x0, .ref 292]) 2 rfl rfl rfl ?_
          refine zCs (mj := 109) rfl rfl rfl rfl rfl rfl rfl rfl ?_
          refine c_109 (fun h19 => ?_) (fun h19 => ?_)
          · replace k := ite_t h19 k
            refine kI ?_
            refine zPs (pc1 := 85) (l1 := [(8, .int (0 : Int32)), (7, .int (5 : Int32)), (0, .ref 292), (1, .int x0), (2, .int x1), (3, .int x2), (4, .int x3), (5, .int x4), (6, .int x5)]) (st1 := [.int x5, .int (4 : Int32), .int x0, .ref 292]) 2 rfl rfl rfl ?_
            refine zCs (mj := 109) rfl rfl rfl rfl rfl rfl rfl rfl ?_
            refine c_109 (fun h20 => ?_) (fun h20 => ?_)
            · replace k := ite_t h20 k
              refine kI ?_
              refine zPs (pc1 := 98) (l1 := [(8, .int (0 : Int32)), (7, .int (5 : Int32)), (0, .ref 292), (1, .int x0), (2, .int x1), (3, .int x2), (4, .int x3), (5, .int x4), (6, .int x5)]) (st1 := [.int (0 : Int32), .int (1 : Int32), .int (4 : Int32), .int x0, .ref 292]) 4 rfl rfl rfl ?_
              refine zCv (mj := 111) (k := 292) (n := 4) rfl rfl rfl rfl (by decide) rfl rfl rfl rfl rfl rfl ?_
              refine c_111b4 ?_
              refine kI ?_
              refine zZ (z' := (up2 l 292 41 (2 : Int32))) rfl ?_
              refine zPs (pc1 := 142) (l1 := [(8, .int (0 : Int32)), (7, .int (5 : Int32)), (0, .ref 292), (1, .int x0), (2, .int x1), (3, .int x2), (4, .int x3), (5, .int x4), (6, .int x5)]) (st1 := []) 1 rfl rfl rfl ?_
              refine zRv rfl rfl ?_
              exact k
            · replace k := ite_f h20 k
              refine kI ?_
              refine zPs (pc1 := 98) (l1 := [(8, .int (0 : Int32)), (7, .int (5 : Int32)), (0, .ref 292), (1, .int x0), (2, .int x1), (3, .int x2), (4, .int x3), (5, .int x4), (6, .int x5)]) (st1 := [.int (0 : Int32), .int (0 : Int32), .int (4 : Int32), .int x0, .ref 292]) 3 rfl rfl rfl ?_
              refine zCv (mj := 111) (k := 292) (n := 4) rfl rfl rfl rfl (by decide) rfl rfl rfl rfl rfl rfl ?_
              refine c_111n4 ?_
              refine kI ?_
              refine zZ (z' := (up2 l 292 41 (1 : Int32))) rfl ?_
              refine zPs (pc1 := 142) (l1 := [(8, .int (0 : Int32)), (7, .int (5 : Int32)), (0, .ref 292), (1, .int x0), (2, .int x1), (3, .int x2), (4, .int x3), (5, .int x4), (6, .int x5)]) (st1 := []) 1 rfl rfl rfl ?_
              refine zRv rfl rfl ?_
              exact k
          · replace k := ite_f h19 k
            refine kI ?_
            refine zPs (pc1 := 98) (l1 := [(8, .int (0 : Int32)), (7, .int (5 : Int32)), (0, .ref 292), (1, .int x0), (2, .int x1), (3, .int x2), (4, .int x3), (5, .int x4), (6, .int x5)]) (st1 := [.int (0 : Int32), .int (0 : Int32), .int (4 : Int32), .int x0, .ref 292]) 3 rfl rfl rfl ?_
            refine zCv (mj := 111) (k := 292) (n := 4) rfl rfl rfl rfl (by decide) rfl rfl rfl rfl rfl rfl ?_
            refine c_111n4 ?_
            refine kI ?_
            refine zZ (z' := (up2 l 292 41 (1 : Int32))) rfl ?_
            refine zPs (pc1 := 142) (l1 := [(8, .int (0 : Int32)), (7, .int (5 : Int32)), (0, .ref 292), (1, .int x0), (2, .int x1), (3, .int x2), (4, .int x3), (5, .int x4), (6, .int x5)]) (st1 := []) 1 rfl rfl rfl ?_
            refine zRv rfl rfl ?_
            exact k
        · replace k := ite_f h17 k
          refine kI ?_
          refine zPs (pc1 := 98) (l1 := [(8, .int (0 : Int32)), (7, .int (5 : Int32)), (0, .ref 292), (1, .int x0), (2, .int x1), (3, .int x2), (4, .int x3), (5, .int x4), (6, .int x5)]) (st1 := [.int (0 : Int32), .int (0 : Int32), .int (4 : Int32), .int x0, .ref 292]) 3 rfl rfl rfl ?_
          refine zCv (mj := 111) (k := 292) (n := 4) rfl rfl rfl rfl (by decide) rfl rfl rfl rfl rfl rfl ?_
          refine c_111n4 ?_
          refine kI ?_
          refine zZ (z' := (up2 l 292 41 (1 : Int32))) rfl ?_
          refine zPs (pc1 := 142) (l1 := [(8, .int (0 : Int32)), (7, .int (5 : Int32)), (0, .ref 292), (1, .int x0), (2, .int x1), (3, .int x2), (4, .int x3), (5, .int x4), (6, .int x5)]) (st1 := []) 1 rfl rfl rfl ?_
          refine zRv rfl rfl ?_
          exact k
    · replace k := ite_f h2 k
      refine kI ?_
      refine zPs (pc1 := 69) (l1 := [(8, .int (0 : Int32)), (7, .int (5 : Int32)), (0, .ref 292), (1, .int x0), (2, .int x1), (3, .int x2), (4, .int x3), (5, .int x4), (6, .int x5)]) (st1 := [.int x0, .int (4 : Int32), .int x0, .ref 292]) 7 rfl rfl rfl ?_
      refine zCs (mj := 108) rfl rfl rfl rfl rfl rfl rfl rfl ?_
      refine d_108 (fun h21 => ?_) (fun h21 => ?_)
      · replace k := ite_t h21 k
        have h22 := isN_lt h21
        refine kI ?_
        refine zPs (pc1 := 77) (l1 := [(8, .int (0 : Int32)), (7, .int (5 : Int32)), (0, .ref 292), (1, .int x0), (2, .int x1), (3, .int x2), (4, .int x3), (5, .int x4), (6, .int x5)]) (st1 := [.int x4, .int (4 : Int32), .int x0, .ref 292]) 2 rfl rfl rfl ?_
        refine zCs (mj := 109) rfl rfl rfl rfl rfl rfl rfl rfl ?_
        refine c_109 (fun h23 => ?_) (fun h23 => ?_)
        · replace k := ite_t h23 k
          refine kI ?_
          refine zPs (pc1 := 85) (l1 := [(8, .int (0 : Int32)), (7, .int (5 : Int32)), (0, .ref 292), (1, .int x0), (2, .int x1), (3, .int x2), (4, .int x3), (5, .int x4), (6, .int x5)]) (st1 := [.int x5, .int (4 : Int32), .int x0, .ref 292]) 2 rfl rfl rfl ?_
          refine zCs (mj := 109) rfl rfl rfl rfl rfl rfl rfl rfl ?_
          refine c_109 (fun h24 => ?_) (fun h24 => ?_)
          · replace k := ite_t h24 k
            refine kI ?_
            refine zPs (pc1 := 98) (l1 := [(8, .int (0 : Int32)), (7, .int (5 : Int32)), (0, .ref 292), (1, .int x0), (2, .int x1), (3, .int x2), (4, .int x3), (5, .int x4), (6, .int x5)]) (st1 := [.int (0 : Int32), .int (1 : Int32), .int (4 : Int32), .int x0, .ref 292]) 4 rfl rfl rfl ?_
            refine zCv (mj := 111) (k := 292) (n := 4) rfl rfl rfl rfl (by decide) rfl rfl rfl rfl rfl rfl ?_
            refine c_111b4 ?_
            refine kI ?_
            refine zZ (z' := (up2 l 292 41 (2 : Int32))) rfl ?_
            refine zPs (pc1 := 142) (l1 := [(8, .int (0 : Int32)), (7, .int (5 : Int32)), (0, .ref 292), (1, .int x0), (2, .int x1), (3, .int x2), (4, .int x3), (5, .int x4), (6, .int x5)]) (st1 := []) 1 rfl rfl rfl ?_
            refine zRv rfl rfl ?_
            exact k
          · replace k := ite_f h24 k
            refine kI ?_
            refine zPs (pc1 := 98) (l1 := [(8, .int (0 : Int32)), (7, .int (5 : Int32)), (0, .ref 292), (1, .int x0), (2, .int x1), (3, .int x2), (4, .int x3), (5, .int x4), (6, .int x5)]) (st1 := [.int (0 : Int32), .int (0 : Int32), .int (4 : Int32), .int x0, .ref 292]) 3 rfl rfl rfl ?_
            refine zCv (mj := 111) (k := 292) (n := 4) rfl rfl rfl rfl (by decide) rfl rfl rfl rfl rfl rfl ?_
            refine c_111n4 ?_
            refine kI ?_
            refine zZ (z' := (up2 l 292 41 (1 : Int32))) rfl ?_
            refine zPs (pc1 := 142) (l1 := [(8, .int (0 : Int32)), (7, .int (5 : Int32)), (0, .ref 292), (1, .int x0), (2, .int x1), (3, .int x2), (4, .int x3), (5, .int x4), (6, .int x5)]) (st1 := []) 1 rfl rfl rfl ?_
            refine zRv rfl rfl ?_
            exact k
        · replace k := ite_f h23 k
          refine kI ?_
          refine zPs (pc1 := 98) (l1 := [(8, .int (0 : Int32)), (7, .int (5 : Int32)), (0, .ref 292), (1, .int x0), (2, .int x1), (3, .int x2), (4, .int x3), (5, .int x4), (6, .int x5)]) (st1 := [.int (0 : Int32), .int (0 : Int32), .int (4 : Int32), .int x0, .ref 292]) 3 rfl rfl rfl ?_
          refine zCv (mj := 111) (k := 292) (n := 4) rfl rfl rfl rfl (by decide) rfl rfl rfl rfl rfl rfl ?_
          refine c_111n4 ?_
          refine kI ?_
          refine zZ (z' := (up2 l 292 41 (1 : Int32))) rfl ?_
          refine zPs (pc1 := 142) (l1 := [(8, .int (0 : Int32)), (7, .int (5 : Int32)), (0, .ref 292), (1, .int x0), (2, .int x1), (3, .int x2), (4, .int x3), (5, .int x4), (6, .int x5)]) (st1 := []) 1 rfl rfl rfl ?_
          refine zRv rfl rfl ?_
          exact k
      · replace k := ite_f h21 k
        refine kI ?_
        refine zPs (pc1 := 98) (l1 := [(8, .int (0 : Int32)), (7, .int (5 : Int32)), (0, .ref 292), (1, .int x0), (2, .int x1), (3, .int x2), (4, .int x3), (5, .int x4), (6, .int x5)]) (st1 := [.int (0 : Int32), .int (0 : Int32), .int (4 : Int32), .int x0, .ref 292]) 3 rfl rfl rfl ?_
        refine zCv (mj := 111) (k := 292) (n := 4) rfl rfl rfl rfl (by decide) rfl rfl rfl rfl rfl rfl ?_
        refine c_111n4 ?_
        refine kI ?_
        refine zZ (z' := (up2 l 292 41 (1 : Int32))) rfl ?_
        refine zPs (pc1 := 142) (l1 := [(8, .int (0 : Int32)), (7, .int (5 : Int32)), (0, .ref 292), (1, .int x0), (2, .int x1), (3, .int x2), (4, .int x3), (5, .int x4), (6, .int x5)]) (st1 := []) 1 rfl rfl rfl ?_
        refine zRv rfl rfl ?_
        exact k
  · replace k := ite_f h1 k
    refine zPs (pc1 := 7) (l1 := [(0, .ref 292), (1, .int x0), (2, .int x1), (3, .int x2), (4, .int x3), (5, .int x4), (6, .int x5)]) (st1 := [.int (4 : Int32), .int x1]) 2 rfl rfl rfl ?_
    refine zCn rfl (fun h25 => ?_) (fun h25 => ?_)
    · replace k := ite_t h25 k
      refine zPs (pc1 := 16) (l1 := [(0, .ref 292), (1, .int x0), (2, .int x1), (3, .int x2), (4, .int x3), (5, .int x4), (6, .int x5)]) (st1 := [.int (3 : Int32), .int x1]) 2 rfl rfl rfl ?_
      refine zCn rfl (fun h26 => ?_) (fun h26 => ?_)
      · replace k := ite_t h26 k
        refine zLdc (v := (999999 : Int32)) rfl rfl ?_
        refine zPs (pc1 := 31) (l1 := [(7, .int (999999 : Int32)), (0, .ref 292), (1, .int x0), (2, .int x1), (3, .int x2), (4, .int x3), (5, .int x4), (6, .int x5)]) (st1 := [.int (4 : Int32), .int (0 : Int32), .int x1]) 4 rfl rfl rfl ?_
        refine zCs (mj := 107) rfl rfl rfl rfl rfl rfl rfl rfl ?_
        refine d_107 (fun h27 => ?_) (fun h27 => ?_)
        · replace k := ite_t h27 k
          have h28 := rng_le (b := 4) (by decide) (Int32.le_trans (by decide) h27.1) h27.2
          refine kI ?_
          refine zPs (pc1 := 41) (l1 := [(7, .int (999999 : Int32)), (0, .ref 292), (1, .int x0), (2, .int x1), (3, .int x2), (4, .int x3), (5, .int x4), (6, .int x5)]) (st1 := [.int (999999 : Int32), .int (0 : Int32), .int x2]) 4 rfl rfl rfl ?_
          refine zCs (mj := 107) rfl rfl rfl rfl rfl rfl rfl rfl ?_
          refine d_107 (fun h29 => ?_) (fun h29 => ?_)
          · replace k := ite_t h29 k
            have h30 := rng_le (b := 999999) (by decide) (Int32.le_trans (by decide) h29.1) h29.2
            refine kI ?_
            refine zPs (pc1 := 52) (l1 := [(7, .int (999999 : Int32)), (0, .ref 292), (1, .int x0), (2, .int x1), (3, .int x2), (4, .int x3), (5, .int x4), (6, .int x5)]) (st1 := [.int (60 : Int32), .int (0 : Int32), .int x3]) 4 rfl rfl rfl ?_
            refine zCs (mj := 107) rfl rfl rfl rfl rfl rfl rfl rfl ?_
            refine d_107 (fun h31 => ?_) (fun h31 => ?_)
            · replace k := ite_t h31 k
              have h32 := rng_le (b := 60) (by decide) (Int32.le_trans (by decide) h31.1) h31.2
              refine kI ?_
              refine zPs (pc1 := 69) (l1 := [(8, .int (1 : Int32)), (7, .int (999999 : Int32)), (0, .ref 292), (1, .int x0), (2, .int x1), (3, .int x2), (4, .int x3), (5, .int x4), (6, .int x5)]) (st1 := [.int x0, .int (4 : Int32), .int x0, .ref 292]) 8 rfl rfl rfl ?_
              refine zCs (mj := 108) rfl rfl rfl rfl rfl rfl rfl rfl ?_
              refine d_108 (fun h33 => ?_) (fun h33 => ?_)
              · replace k := ite_t h33 k
                have h34 := isN_lt h33
                refine kI ?_
                refine zPs (pc1 := 77) (l1 := [(8, .int (1 : Int32)), (7, .int (999999 : Int32)), (0, .ref 292), (1, .int x0), (2, .int x1), (3, .int x2), (4, .int x3), (5, .int x4), (6, .int x5)]) (st1 := [.int x4, .int (4 : Int32), .int x0, .ref 292]) 2 rfl rfl rfl ?_
                refine zCs (mj := 109) rfl rfl rfl rfl rfl rfl rfl rfl ?_
                refine c_109 (fun h35 => ?_) (fun h35 => ?_)
                · replace k := ite_t h35 k
                  refine kI ?_
                  refine zPs (pc1 := 85) (l1 := [(8, .int (1 : Int32)), (7, .int (999999 : Int32)), (0, .ref 292), (1, .int x0), (2, .int x1), (3, .int x2), (4, .int x3), (5, .int x4), (6, .int x5)]) (st1 := [.int x5, .int (4 : Int32), .int x0, .ref 292]) 2 rfl rfl rfl ?_
                  refine zCs (mj := 109) rfl rfl rfl rfl rfl rfl rfl rfl ?_
                  refine c_109 (fun h36 => ?_) (fun h36 => ?_)
                  · replace k := ite_t h36 k
                    refine kI ?_
                    refine zPs (pc1 := 98) (l1 := [(8, .int (1 : Int32)), (7, .int (999999 : Int32)), (0, .ref 292), (1, .int x0), (2, .int x1), (3, .int x2), (4, .int x3), (5, .int x4), (6, .int x5)]) (st1 := [.int (1 : Int32), .int (1 : Int32), .int (4 : Int32), .int x0, .ref 292]) 4 rfl rfl rfl ?_
                    refine zTo (ml' := [(8, .int (1 : Int32)), (7, .int (999999 : Int32)), (0, .ref 292), (1, .int x0), (2, .int x1), (3, .int x2), (4, .int x3), (5, .int x4), (6, .int x5)]) (st' := [.int (1 : Int32), .int (1 : Int32), .int (4 : Int32), .int (i32 x0.toNatClampNeg), .ref 292]) rfl (by rw [h34.2]) ?_
                    refine zCv (mj := 111) (k := 292) (n := 4) rfl rfl rfl rfl (by decide) rfl rfl rfl rfl rfl rfl ?_
                    refine c_111o4 hl hCI.1 h34.1 (fun h37 => ?_) (fun h37 => ?_)
                    · replace k := ite_t h37 k
                      refine kI ?_
                      refine zZ (z' := (up2 (up2 (up2 (up2 (up2 (up2 (up2 l 292 41 (0 : Int32)) 296 x0.toNatClampNeg (4 : Int32)) 306 x0.toNatClampNeg (0 : Int32)) 303 x0.toNatClampNeg (10 : Int32)) 304 x0.toNatClampNeg (3 : Int32)) 305 x0.toNatClampNeg (2 : Int32)) 302 x0.toNatClampNeg (-1 : Int32))) rfl ?_
                      refine zPs (pc1 := 105) (l1 := [(8, .int (1 : Int32)), (7, .int (999999 : Int32)), (0, .ref 292), (1, .int x0), (2, .int x1), (3, .int x2), (4, .int x3), (5, .int x4), (6, .int x5)]) (st1 := [.ref 292]) 2 rfl rfl rfl ?_
                      refine zGetR (r := 297) rfl rfl ⟨by decide, rfl, by decide, rfl⟩ ?_
                      refine zPs (pc1 := 110) (l1 := [(8, .int (1 : Int32)), (7, .int (999999 : Int32)), (0, .ref 292), (1, .int x0), (2, .int x1), (3, .int x2), (4, .int x3), (5, .int x4), (6, .int x5)]) (st1 := [.int x2, .int x0, .ref 297]) 2 rfl rfl rfl ?_
                      refine zIasE (n := x0.toNatClampNeg) (F := 297) (I := x0.toNatClampNeg) h34.2 rfl (icM (k := 297) (L := 30) rfl h34.1) ?_
                      refine zPs (pc1 := 112) (l1 := [(8, .int (1 : Int32)), (7, .int (999999 : Int32)), (0, .ref 292), (1, .int x0), (2, .int x1), (3, .int x2), (4, .int x3), (5, .int x4), (6, .int x5)]) (st1 := [.ref 292]) 1 rfl rfl rfl ?_
                      refine zGetR (r := 298) rfl rfl ⟨by decide, rfl, by decide, rfl⟩ ?_
                      refine zPs (pc1 := 118) (l1 := [(8, .int (1 : Int32)), (7, .int (999999 : Int32)), (0, .ref 292), (1, .int x0), (2, .int x1), (3, .int x2), (4, .int x3), (5, .int x4), (6, .int x5)]) (st1 := [.int x3, .int x0, .ref 298]) 2 rfl rfl rfl ?_
                      refine zIasE (n := x0.toNatClampNeg) (F := 298) (I := x0.toNatClampNeg) h34.2 rfl (icM (k := 298) (L := 30) rfl h34.1) ?_
                      refine zPs (pc1 := 120) (l1 := [(8, .int (1 : Int32)), (7, .int (999999 : Int32)), (0, .ref 292), (1, .int x0), (2, .int x1), (3, .int x2), (4, .int x3), (5, .int x4), (6, .int x5)]) (st1 := [.ref 292]) 1 rfl rfl rfl ?_
                      refine zGetR (r := 299) rfl rfl ⟨by decide, rfl, by decide, rfl⟩ ?_
                      refine zPs (pc1 := 125) (l1 := [(8, .int (1 : Int32)), (7, .int (999999 : Int32)), (0, .ref 292), (1, .int x0), (2, .int x1), (3, .int x2), (4, .int x3), (5, .int x4), (6, .int x5)]) (st1 := [.int x1, .int x0, .ref 299]) 2 rfl rfl rfl ?_
                      refine zIasE (n := x0.toNatClampNeg) (F := 299) (I := x0.toNatClampNeg) h34.2 rfl (icM (k := 299) (L := 30) rfl h34.1) ?_
                      refine zPs (pc1 := 127) (l1 := [(8, .int (1 : Int32)), (7, .int (999999 : Int32)), (0, .ref 292), (1, .int x0), (2, .int x1), (3, .int x2), (4, .int x3), (5, .int x4), (6, .int x5)]) (st1 := [.ref 292]) 1 rfl rfl rfl ?_
                      refine zGetR (r := 301) rfl rfl ⟨by decide, rfl, by decide, rfl⟩ ?_
                      refine zPs (pc1 := 133) (l1 := [(8, .int (1 : Int32)), (7, .int (999999 : Int32)), (0, .ref 292), (1, .int x0), (2, .int x1), (3, .int x2), (4, .int x3), (5, .int x4), (6, .int x5)]) (st1 := [.int x4, .int x0, .ref 301]) 2 rfl rfl rfl ?_
                      refine zIasE (n := x0.toNatClampNeg) (F := 301) (I := x0.toNatClampNeg) h34.2 rfl (icM (k := 301) (L := 30) rfl h34.1) ?_
                      refine zPs (pc1 := 135) (l1 := [(8, .int (1 : Int32)), (7, .int (999999 : Int32)), (0, .ref 292), (1, .int x0), (2, .int x1), (3, .int x2), (4, .int x3), (5, .int x4), (6, .int x5)]) (st1 := [.ref 292]) 1 rfl rfl rfl ?_
                      refine zGetR (r := 302) rfl rfl ⟨by decide, rfl, by decide, rfl⟩ ?_
                      refine zPs (pc1 := 141) (l1 := [(8, .int (1 : Int32)), (7, .int (999999 : Int32)), (0, .ref 292), (1, .int x0), (2, .int x1), (3, .int x2), (4, .int x3), (5, .int x4), (6, .int x5)]) (st1 := [.int x5, .int x0, .ref 302]) 2 rfl rfl rfl ?_
                      refine zIasE (n := x0.toNatClampNeg) (F := 302) (I := x0.toNatClampNeg) h34.2 rfl (icM (k := 302) (L := 30) rfl h34.1) ?_
                      refine zRv rfl rfl ?_
                      exact k
                    · replace k := ite_f h37 k
                      refine kI ?_
                      refine zZ (z' := (up2 l 292 41 (3 : Int32))) rfl ?_
                      refine zPs (pc1 := 142) (l1 := [(8, .int (1 : Int32)), (7, .int (999999 : Int32)), (0, .ref 292), (1, .int x0), (2, .int x1), (3, .int x2), (4, .int x3), (5, .int x4), (6, .int x5)]) (st1 := []) 1 rfl rfl rfl ?_
                      refine zRv rfl rfl ?_
                      exact k
                  · replace k := ite_f h36 k
                    refine kI ?_
                    refine zPs (pc1 := 98) (l1 := [(8, .int (1 : Int32)), (7, .int (999999 : Int32)), (0, .ref 292), (1, .int x0), (2, .int x1), (3, .int x2), (4, .int x3), (5, .int x4), (6, .int x5)]) (st1 := [.int (1 : Int32), .int (0 : Int32), .int (4 : Int32), .int x0, .ref 292]) 3 rfl rfl rfl ?_
                    refine zCv (mj := 111) (k := 292) (n := 4) rfl rfl rfl rfl (by decide) rfl rfl rfl rfl rfl rfl ?_
                    refine c_111n4 ?_
                    refine kI ?_
                    refine zZ (z' := (up2 l 292 41 (1 : Int32))) rfl ?_
                    refine zPs (pc1 := 142) (l1 := [(8, .int (1 : Int32)), (7, .int (999999 : Int32)), (0, .ref 292), (1, .int x0), (2, .int x1), (3, .int x2), (4, .int x3), (5, .int x4), (6, .int x5)]) (st1 := []) 1 rfl rfl rfl ?_
                    refine zRv rfl rfl ?_
                    exact k
                · replace k := ite_f h35 k
                  refine kI ?_
                  refine zPs (pc1 := 98) (l1 := [(8, .int (1 : Int32)), (7, .int (999999 : Int32)), (0, .ref 292), (1, .int x0), (2, .int x1), (3, .int x2), (4, .int x3), (5, .int x4), (6, .int x5)]) (st1 := [.int (1 : Int32), .int (0 : Int32), .int (4 : Int32), .int x0, .ref 292]) 3 rfl rfl rfl ?_
                  refine zCv (mj := 111) (k := 292) (n := 4) rfl rfl rfl rfl (by decide) rfl rfl rfl rfl rfl rfl ?_
                  refine c_111n4 ?_
                  refine kI ?_
                  refine zZ (z' := (up2 l 292 41 (1 : Int32))) rfl ?_
                  refine zPs (pc1 := 142) (l1 := [(8, .int (1 : Int32)), (7, .int (999999 : Int32)), (0, .ref 292), (1, .int x0), (2, .int x1), (3, .int x2), (4, .int x3), (5, .int x4), (6, .int x5)]) (st1 := []) 1 rfl rfl rfl ?_
                  refine zRv rfl rfl ?_
                  exact k
              · replace k := ite_f h33 k
                refine kI ?_
                refine zPs (pc1 := 98) (l1 := [(8, .int (1 : Int32)), (7, .int (999999 : Int32)), (0, .ref 292), (1, .int x0), (2, .int x1), (3, .int x2), (4, .int x3), (5, .int x4), (6, .int x5)]) (st1 := [.int (1 : Int32), .int (0 : Int32), .int (4 : Int32), .int x0, .ref 292]) 3 rfl rfl rfl ?_
                refine zCv (mj := 111) (k := 292) (n := 4) rfl rfl rfl rfl (by decide) rfl rfl rfl rfl rfl rfl ?_
                refine c_111n4 ?_
                refine kI ?_
                refine zZ (z' := (up2 l 292 41 (1 : Int32))) rfl ?_
                refine zPs (pc1 := 142) (l1 := [(8, .int (1 : Int32)), (7, .int (999999 : Int32)), (0, .ref 292), (1, .int x0), (2, .int x1), (3, .int x2), (4, .int x3), (5, .int x4), (6, .int x5)]) (st1 := []) 1 rfl rfl rfl ?_
                refine zRv rfl rfl ?_
                exact k
            · replace k := ite_f h31 k
              refine kI ?_
              refine zPs (pc1 := 69) (l1 := [(8, .int (0 : Int32)), (7, .int (999999 : Int32)), (0, .ref 292), (1, .int x0), (2, .int x1), (3, .int x2), (4, .int x3), (5, .int x4), (6, .int x5)]) (st1 := [.int x0, .int (4 : Int32), .int x0, .ref 292]) 7 rfl rfl rfl ?_
              refine zCs (mj := 108) rfl rfl rfl rfl rfl rfl rfl rfl ?_
              refine d_108 (fun h38 => ?_) (fun h38 => ?_)
              · replace k := ite_t h38 k
                have h39 := isN_lt h38
                refine kI ?_
                refine zPs (pc1 := 77) (l1 := [(8, .int (0 : Int32)), (7, .int (999999 : Int32)), (0, .ref 292), (1, .int x0), (2, .int x1), (3, .int x2), (4, .int x3), (5, .int x4), (6, .int x5)]) (st1 := [.int x4, .int (4 : Int32), .int x0, .ref 292]) 2 rfl rfl rfl ?_
                refine zCs (mj := 109) rfl rfl rfl rfl rfl rfl rfl rfl ?_
                refine c_109 (fun h40 => ?_) (fun h40 => ?_)
                · replace k := ite_t h40 k
                  refine kI ?_
                  refine zPs (pc1 := 85) (l1 := [(8, .int (0 : Int32)), (7, .int (999999 : Int32)), (0, .ref 292), (1, .int x0), (2, .int x1), (3, .int x2), (4, .int x3), (5, .int x4), (6, .int x5)]) (st1 := [.int x5, .int (4 : Int32), .int x0, .ref 292]) 2 rfl rfl rfl ?_
                  refine zCs (mj := 109) rfl rfl rfl rfl rfl rfl rfl rfl ?_
                  refine c_109 (fun h41 => ?_) (fun h41 => ?_)
                  · replace k := ite_t h41 k
                    refine kI ?_
                    refine zPs (pc1 := 98) (l1 := [(8, .int (0 : Int32)), (7, .int (999999 : Int32)), (0, .ref 292), (1, .int x0), (2, .int x1), (3, .int x2), (4, .int x3), (5, .int x4), (6, .int x5)]) (st1 := [.int (0 : Int32), .int (1 : Int32), .int (4 : Int32), .int x0, .ref 292]) 4 rfl rfl rfl ?_
                    refine zCv (mj := 111) (k := 292) (n := 4) rfl rfl rfl rfl (by decide) rfl rfl rfl rfl rfl rfl ?_
                    refine c_111b4 ?_
                    refine kI ?_
                    refine zZ (z' := (up2 l 292 41 (2 : Int32))) rfl ?_
                    refine zPs (pc1 := 142) (l1 := [(8, .int (0 : Int32)), (7, .int (999999 : Int32)), (0, .ref 292), (1, .int x0), (2, .int x1), (3, .int x2), (4, .int x3), (5, .int x4), (6, .int x5)]) (st1 := []) 1 rfl rfl rfl ?_
                    refine zRv rfl rfl ?_
                    exact k
                  · replace k := ite_f h41 k
                    refine kI ?_
                    refine zPs (pc1 := 98) (l1 := [(8, .int (0 : Int32)), (7, .int (999999 : Int32)), (0, .ref 292), (1, .int x0), (2, .int x1), (3, .int x2), (4, .int x3), (5, .int x4), (6, .int x5)]) (st1 := [.int (0 : Int32), .int (0 : Int32), .int (4 : Int32), .int x0, .ref 292]) 3 rfl rfl rfl ?_
                    refine zCv (mj := 111) (k := 292) (n := 4) rfl rfl rfl rfl (by decide) rfl rfl rfl rfl rfl rfl ?_
                    refine c_111n4 ?_
                    refine kI ?_
                    refine zZ (z' := (up2 l 292 41 (1 : Int32))) rfl ?_
                    refine zPs (pc1 := 142) (l1 := [(8, .int (0 : Int32)), (7, .int (999999 : Int32)), (0, .ref 292), (1, .int x0), (2, .int x1), (3, .int x2), (4, .int x3), (5, .int x4), (6, .int x5)]) (st1 := []) 1 rfl rfl rfl ?_
                    refine zRv rfl rfl ?_
                    exact k
                · replace k := ite_f h40 k
                  refine kI ?_
                  refine zPs (pc1 := 98) (l1 := [(8, .int (0 : Int32)), (7, .int (999999 : Int32)), (0, .ref 292), (1, .int x0), (2, .int x1), (3, .int x2), (4, .int x3), (5, .int x4), (6, .int x5)]) (st1 := [.int (0 : Int32), .int (0 : Int32), .int (4 : Int32), .int x0, .ref 292]) 3 rfl rfl rfl ?_
                  refine zCv (mj := 111) (k := 292) (n := 4) rfl rfl rfl rfl (by decide) rfl rfl rfl rfl rfl rfl ?_
                  refine c_111n4 ?_
                  refine kI ?_
                  refine zZ (z' := (up2 l 292 41 (1 : Int32))) rfl ?_
                  refine zPs (pc1 := 142) (l1 := [(8, .int (0 : Int32)), (7, .int (999999 : Int32)), (0, .ref 292), (1, .int x0), (2, .int x1), (3, .int x2), (4, .int x3), (5, .int x4), (6, .int x5)]) (st1 := []) 1 rfl rfl rfl ?_
                  refine zRv rfl rfl ?_
                  exact k
              · replace k := ite_f h38 k
                refine kI ?_
                refine zPs (pc1 := 98) (l1 := [(8, .int (0 : Int32)), (7, .int (999999 : Int32)), (0, .ref 292), (1, .int x0), (2, .int x1), (3, .int x2), (4, .int x3), (5, .int x4), (6, .int x5)]) (st1 := [.int (0 : Int32), .int (0 : Int32), .int (4 : Int32), .int x0, .ref 292]) 3 rfl rfl rfl ?_
                refine zCv (mj := 111) (k := 292) (n := 4) rfl rfl rfl rfl (by decide) rfl rfl rfl rfl rfl rfl ?_
                refine c_111n4 ?_
                refine kI ?_
                refine zZ (z' := (up2 l 292 41 (1 : Int32))) rfl ?_
                refine zPs (pc1 := 142) (l1 := [(8, .int (0 : Int32)), (7, .int (999999 : Int32)), (0, .ref 292), (1, .int x0), (2, .int x1), (3, .int x2), (4, .int x3), (5, .int x4), (6, .int x5)]) (st1 := []) 1 rfl rfl rfl ?_
                refine zRv rfl rfl ?_
                exact k
          · replace k := ite_f h29 k
            refine kI ?_
            refine zPs (pc1 := 69) (l1 := [(8, .int (0 : Int32)), (7, .int (999999 : Int32)), (0, .ref 292), (1, .int x0), (2, .int x1), (3, .int x2), (4, .int x3), (5, .int x4), (6, .int x5)]) (st1 := [.int x0, .int (4 : Int32), .int x0, .ref 292]) 7 rfl rfl rfl ?_
            refine zCs (mj := 108) rfl rfl rfl rfl rfl rfl rfl rfl ?_
            refine d_108 (fun h42 => ?_) (fun h42 => ?_)
            · replace k := ite_t h42 k
              have h43 := isN_lt h42
              refine kI ?_
              refine zPs (pc1 := 77) (l1 := [(8, .int (0 : Int32)), (7, .int (999999 : Int32)), (0, .ref 292), (1, .int x0), (2, .int x1), (3, .int x2), (4, .int x3), (5, .int x4), (6, .int x5)]) (st1 := [.int x4, .int (4 : Int32), .int x0, .ref 292]) 2 rfl rfl rfl ?_
              refine zCs (mj := 109) rfl rfl rfl rfl rfl rfl rfl rfl ?_
              refine c_109 (fun h44 => ?_) (fun h44 => ?_)
              · replace k := ite_t h44 k
                refine kI ?_
                refine zPs (pc1 := 85) (l1 := [(8, .int (0 : Int32)), (7, .int (999999 : Int32)), (0, .ref 292), (1, .int x0), (2, .int x1), (3, .int x2), (4, .int x3), (5, .int x4), (6, .int x5)]) (st1 := [.int x5, .int (4 : Int32), .int x0, .ref 292]) 2 rfl rfl rfl ?_
                refine zCs (mj := 109) rfl rfl rfl rfl rfl rfl rfl rfl ?_
                refine c_109 (fun h45 => ?_) (fun h45 => ?_)
                · replace k := ite_t h45 k
                  refine kI ?_
                  refine zPs (pc1 := 98) (l1 := [(8, .int (0 : Int32)), (7, .int (999999 : Int32)), (0, .ref 292), (1, .int x0), (2, .int x1), (3, .int x2), (4, .int x3), (5, .int x4), (6, .int x5)]) (st1 := [.int (0 : Int32), .int (1 : Int32), .int (4 : Int32), .int x0, .ref 292]) 4 rfl rfl rfl ?_
                  refine zCv (mj := 111) (k := 292) (n := 4) rfl rfl rfl rfl (by decide) rfl rfl rfl rfl rfl rfl ?_
                  refine c_111b4 ?_
                  refine kI ?_
                  refine zZ (z' := (up2 l 292 41 (2 : Int32))) rfl ?_
                  refine zPs (pc1 := 142) (l1 := [(8, .int (0 : Int32)), (7, .int (999999 : Int32)), (0, .ref 292), (1, .int x0), (2, .int x1), (3, .int x2), (4, .int x3), (5, .int x4), (6, .int x5)]) (st1 := []) 1 rfl rfl rfl ?_
                  refine zRv rfl rfl ?_
                  exact k
                · replace k := ite_f h45 k
                  refine kI ?_
                  refine zPs (pc1 := 98) (l1 := [(8, .int (0 : Int32)), (7, .int (999999 : Int32)), (0, .ref 292), (1, .int x0), (2, .int x1), (3, .int x2), (4, .int x3), (5, .int x4), (6, .int x5)]) (st1 := [.int (0 : Int32), .int (0 : Int32), .int (4 : Int32), .int x0, .ref 292]) 3 rfl rfl rfl ?_
                  refine zCv (mj := 111) (k := 292) (n := 4) rfl rfl rfl rfl (by decide) rfl rfl rfl rfl rfl rfl ?_
                  refine c_111n4 ?_
                  refine kI ?_
                  refine zZ (z' := (up2 l 292 41 (1 : Int32))) rfl ?_
                  refine zPs (pc1 := 142) (l1 := [(8, .int (0 : Int32)), (7, .int (999999 : Int32)), (0, .ref 292), (1, .int x0), (2, .int x1), (3, .int x2), (4, .int x3), (5, .int x4), (6, .int x5)]) (st1 := []) 1 rfl rfl rfl ?_
                  refine zRv rfl rfl ?_
                  exact k
              · replace k := ite_f h44 k
                refine kI ?_
                refine zPs (pc1 := 98) (l1 := [(8, .int (0 : Int32)), (7, .int (999999 : Int32)), (0, .ref 292), (1, .int x0), (2, .int x1), (3, .int x2), (4, .int x3), (5, .int x4), (6, .int x5)]) (st1 := [.int (0 : Int32), .int (0 : Int32), .int (4 : Int32), .int x0, .ref 292]) 3 rfl rfl rfl ?_
                refine zCv (mj := 111) (k := 292) (n := 4) rfl rfl rfl rfl (by decide) rfl rfl rfl rfl rfl rfl ?_
                refine c_111n4 ?_
                refine kI ?_
                refine zZ (z' := (up2 l 292 41 (1 : Int32))) rfl ?_
                refine zPs (pc1 := 142) (l1 := [(8, .int (0 : Int32)), (7, .int (999999 : Int32)), (0, .ref 292), (1, .int x0), (2, .int x1), (3, .int x2), (4, .int x3), (5, .int x4), (6, .int x5)]) (st1 := []) 1 rfl rfl rfl ?_
                refine zRv rfl rfl ?_
                exact k
            · replace k := ite_f h42 k
              refine kI ?_
              refine zPs (pc1 := 98) (l1 := [(8, .int (0 : Int32)), (7, .int (999999 : Int32)), (0, .ref 292), (1, .int x0), (2, .int x1), (3, .int x2), (4, .int x3), (5, .int x4), (6, .int x5)]) (st1 := [.int (0 : Int32), .int (0 : Int32), .int (4 : Int32), .int x0, .ref 292]) 3 rfl rfl rfl ?_
              refine zCv (mj := 111) (k := 292) (n := 4) rfl rfl rfl rfl (by decide) rfl rfl rfl rfl rfl rfl ?_
              refine c_111n4 ?_
              refine kI ?_
              refine zZ (z' := (up2 l 292 41 (1 : Int32))) rfl ?_
              refine zPs (pc1 := 142) (l1 := [(8, .int (0 : Int32)), (7, .int (999999 : Int32)), (0, .ref 292), (1, .int x0), (2, .int x1), (3, .int x2), (4, .int x3), (5, .int x4), (6, .int x5)]) (st1 := []) 1 rfl rfl rfl ?_
              refine zRv rfl rfl ?_
              exact k
        · replace k := ite_f h27 k
          refine kI ?_
          refine zPs (pc1 := 69) (l1 := [(8, .int (0 : Int32)), (7, .int (999999 : Int32)), (0, .ref 292), (1, .int x0), (2, .int x1), (3, .int x2), (4, .int x3), (5, .int x4), (6, .int x5)]) (st1 := [.int x0, .int (4 : Int32), .int x0, .ref 292]) 7 rfl rfl rfl ?_
          refine zCs (mj := 108) rfl rfl rfl rfl rfl rfl rfl rfl ?_
          refine d_108 (fun h46 => ?_) (fun h46 => ?_)
          · replace k := ite_t h46 k
            have h47 := isN_lt h46
            refine kI ?_
            refine zPs (pc1 := 77) (l1 := [(8, .int (0 : Int32)), (7, .int (999999 : Int32)), (0, .ref 292), (1, .int x0), (2, .int x1), (3, .int x2), (4, .int x3), (5, .int x4), (6, .int x5)]) (st1 := [.int x4, .int (4 : Int32), .int x0, .ref 292]) 2 rfl rfl rfl ?_
            refine zCs (mj := 109) rfl rfl rfl rfl rfl rfl rfl rfl ?_
            refine c_109 (fun h48 => ?_) (fun h48 => ?_)
            · replace k := ite_t h48 k
              refine kI ?_
              refine zPs (pc1 := 85) (l1 := [(8, .int (0 : Int32)), (7, .int (999999 : Int32)), (0, .ref 292), (1, .int x0), (2, .int x1), (3, .int x2), (4, .int x3), (5, .int x4), (6, .int x5)]) (st1 := [.int x5, .int (4 : Int32), .int x0, .ref 292]) 2 rfl rfl rfl ?_
              refine zCs (mj := 109) rfl rfl rfl rfl rfl rfl rfl rfl ?_
              refine c_109 (fun h49 => ?_) (fun h49 => ?_)
              · replace k := ite_t h49 k
                refine kI ?_
                refine zPs (pc1 := 98) (l1 := [(8, .int (0 : Int32)), (7, .int (999999 : Int32)), (0, .ref 292), (1, .int x0), (2, .int x1), (3, .int x2), (4, .int x3), (5, .int x4), (6, .int x5)]) (st1 := [.int (0 : Int32), .int (1 : Int32), .int (4 : Int32), .int x0, .ref 292]) 4 rfl rfl rfl ?_
                refine zCv (mj := 111) (k := 292) (n := 4) rfl rfl rfl rfl (by decide) rfl rfl rfl rfl rfl rfl ?_
                refine c_111b4 ?_
                refine kI ?_
                refine zZ (z' := (up2 l 292 41 (2 : Int32))) rfl ?_
                refine zPs (pc1 := 142) (l1 := [(8, .int (0 : Int32)), (7, .int (999999 : Int32)), (0, .ref 292), (1, .int x0), (2, .int x1), (3, .int x2), (4, .int x3), (5, .int x4), (6, .int x5)]) (st1 := []) 1 rfl rfl rfl ?_
                refine zRv rfl rfl ?_
                exact k
              · replace k := ite_f h49 k
                refine kI ?_
                refine zPs (pc1 := 98) (l1 := [(8, .int (0 : Int32)), (7, .int (999999 : Int32)), (0, .ref 292), (1, .int x0), (2, .int x1), (3, .int x2), (4, .int x3), (5, .int x4), (6, .int x5)]) (st1 := [.int (0 : Int32), .int (0 : Int32), .int (4 : Int32), .int x0, .ref 292]) 3 rfl rfl rfl ?_
                refine zCv (mj := 111) (k := 292) (n := 4) rfl rfl rfl rfl (by decide) rfl rfl rfl rfl rfl rfl ?_
                refine c_111n4 ?_
                refine kI ?_
                refine zZ (z' := (up2 l 292 41 (1 : Int32))) rfl ?_
                refine zPs (pc1 := 142) (l1 := [(8, .int (0 : Int32)), (7, .int (999999 : Int32)), (0, .ref 292), (1, .int x0), (2, .int x1), (3, .int x2), (4, .int x3), (5, .int x4), (6, .int x5)]) (st1 := []) 1 rfl rfl rfl ?_
                refine zRv rfl rfl ?_
                exact k
            · replace k := ite_f h48 k
              refine kI ?_
              refine zPs (pc1 := 98) (l1 := [(8, .int (0 : Int32)), (7, .int (999999 : Int32)), (0, .ref 292), (1, .int x0), (2, .int x1), (3, .int x2), (4, .int x3), (5, .int x4), (6, .int x5)]) (st1 := [.int (0 : Int32), .int (0 : Int32), .int (4 : Int32), .int x0, .ref 292]) 3 rfl rfl rfl ?_
              refine zCv (mj := 111) (k := 292) (n := 4) rfl rfl rfl rfl (by decide) rfl rfl rfl rfl rfl rfl ?_
              refine c_111n4 ?_
              refine kI ?_
              refine zZ (z' := (up2 l 292 41 (1 : Int32))) rfl ?_
              refine zPs (pc1 := 142) (l1 := [(8, .int (0 : Int32)), (7, .int (999999 : Int32)), (0, .ref 292), (1, .int x0), (2, .int x1), (3, .int x2), (4, .int x3), (5, .int x4), (6, .int x5)]) (st1 := []) 1 rfl rfl rfl ?_
              refine zRv rfl rfl ?_
              exact k
          · replace k := ite_f h46 k
            refine kI ?_
            refine zPs (pc1 := 98) (l1 := [(8, .int (0 : Int32)), (7, .int (999999 : Int32)), (0, .ref 292), (1, .int x0), (2, .int x1), (3, .int x2), (4, .int x3), (5, .int x4), (6, .int x5)]) (st1 := [.int (0 : Int32), .int (0 : Int32), .int (4 : Int32), .int x0, .ref 292]) 3 rfl rfl rfl ?_
            refine zCv (mj := 111) (k := 292) (n := 4) rfl rfl rfl rfl (by decide) rfl rfl rfl rfl rfl rfl ?_
            refine c_111n4 ?_
            refine kI ?_
            refine zZ (z' := (up2 l 292 41 (1 : Int32))) rfl ?_
            refine zPs (pc1 := 142) (l1 := [(8, .int (0 : Int32)), (7, .int (999999 : Int32)), (0, .ref 292), (1, .int x0), (2, .int x1), (3, .int x2), (4, .int x3), (5, .int x4), (6, .int x5)]) (st1 := []) 1 rfl rfl rfl ?_
            refine zRv rfl rfl ?_
            exact k
      · replace k := ite_f (not_not_intro h26) k
        refine zPs (pc1 := 31) (l1 := [(7, .int (6 : Int32)), (0, .ref 292), (1, .int x0), (2, .int x1), (3, .int x2), (4, .int x3), (5, .int x4), (6, .int x5)]) (st1 := [.int (4 : Int32), .int (0 : Int32), .int x1]) 6 rfl rfl rfl ?_
        refine zCs (mj := 107) rfl rfl rfl rfl rfl rfl rfl rfl ?_
        refine d_107 (fun h50 => ?_) (fun h50 => ?_)
        · replace k := ite_t h50 k
          have h51 := rng_le (b := 4) (by decide) (Int32.le_trans (by decide) h50.1) h50.2
          refine kI ?_
          refine zPs (pc1 := 41) (l1 := [(7, .int (6 : Int32)), (0, .ref 292), (1, .int x0), (2, .int x1), (3, .int x2), (4, .int x3), (5, .int x4), (6, .int x5)]) (st1 := [.int (6 : Int32), .int (0 : Int32), .int x2]) 4 rfl rfl rfl ?_
          refine zCs (mj := 107) rfl rfl rfl rfl rfl rfl rfl rfl ?_
          refine d_107 (fun h52 => ?_) (fun h52 => ?_)
          · replace k := ite_t h52 k
            have h53 := rng_le (b := 6) (by decide) (Int32.le_trans (by decide) h52.1) h52.2
            refine kI ?_
            refine zPs (pc1 := 52) (l1 := [(7, .int (6 : Int32)), (0, .ref 292), (1, .int x0), (2, .int x1), (3, .int x2), (4, .int x3), (5, .int x4), (6, .int x5)]) (st1 := [.int (60 : Int32), .int (0 : Int32), .int x3]) 4 rfl rfl rfl ?_
            refine zCs (mj := 107) rfl rfl rfl rfl rfl rfl rfl rfl ?_
            refine d_107 (fun h54 => ?_) (fun h54 => ?_)
            · replace k := ite_t h54 k
              have h55 := rng_le (b := 60) (by decide) (Int32.le_trans (by decide) h54.1) h54.2
              refine kI ?_
              refine zPs (pc1 := 69) (l1 := [(8, .int (1 : Int32)), (7, .int (6 : Int32)), (0, .ref 292), (1, .int x0), (2, .int x1), (3, .int x2), (4, .int x3), (5, .int x4), (6, .int x5)]) (st1 := [.int x0, .int (4 : Int32), .int x0, .ref 292]) 8 rfl rfl rfl ?_
              refine zCs (mj := 108) rfl rfl rfl rfl rfl rfl rfl rfl ?_
              refine d_108 (fun h56 => ?_) (fun h56 => ?_)
              · replace k := ite_t h56 k
                have h57 := isN_lt h56
                refine kI ?_
                refine zPs (pc1 := 77) (l1 := [(8, .int (1 : Int32)), (7, .int (6 : Int32)), (0, .ref 292), (1, .int x0), (2, .int x1), (3, .int x2), (4, .int x3), (5, .int x4), (6, .int x5)]) (st1 := [.int x4, .int (4 : Int32), .int x0, .ref 292]) 2 rfl rfl rfl ?_
                refine zCs (mj := 109) rfl rfl rfl rfl rfl rfl rfl rfl ?_
                refine c_109 (fun h58 => ?_) (fun h58 => ?_)
                · replace k := ite_t h58 k
                  refine kI ?_
                  refine zPs (pc1 := 85) (l1 := [(8, .int (1 : Int32)), (7, .int (6 : Int32)), (0, .ref 292), (1, .int x0), (2, .int x1), (3, .int x2), (4, .int x3), (5, .int x4), (6, .int x5)]) (st1 := [.int x5, .int (4 : Int32), .int x0, .ref 292]) 2 rfl rfl rfl ?_
                  refine zCs (mj := 109) rfl rfl rfl rfl rfl rfl rfl rfl ?_
                  refine c_109 (fun h59 => ?_) (fun h59 => ?_)
                  · replace k := ite_t h59 k
                    refine kI ?_
                    refine zPs (pc1 := 98) (l1 := [(8, .int (1 : Int32)), (7, .int (6 : Int32)), (0, .ref 292), (1, .int x0), (2, .int x1), (3, .int x2), (4, .int x3), (5, .int x4), (6, .int x5)]) (st1 := [.int (1 : Int32), .int (1 : Int32), .int (4 : Int32), .int x0, .ref 292]) 4 rfl rfl rfl ?_
                    refine zTo (ml' := [(8, .int (1 : Int32)), (7, .int (6 : Int32)), (0, .ref 292), (1, .int x0), (2, .int x1), (3, .int x2), (4, .int x3), (5, .int x4), (6, .int x5)]) (st' := [.int (1 : Int32), .int (1 : Int32), .int (4 : Int32), .int (i32 x0.toNatClampNeg), .ref 292]) rfl (by rw [h57.2]) ?_
                    refine zCv (mj := 111) (k := 292) (n := 4) rfl rfl rfl rfl (by decide) rfl rfl rfl rfl rfl rfl ?_
                    refine c_111o4 hl hCI.1 h57.1 (fun h60 => ?_) (fun h60 => ?_)
                    · replace k := ite_t h60 k
                      refine kI ?_
                      refine zZ (z' := (up2 (up2 (up2 (up2 (up2 (up2 (up2 l 292 41 (0 : Int32)) 296 x0.toNatClampNeg (4 : Int32)) 306 x0.toNatClampNeg (0 : Int32)) 303 x0.toNatClampNeg (10 : Int32)) 304 x0.toNatClampNeg (3 : Int32)) 305 x0.toNatClampNeg (2 : Int32)) 302 x0.toNatClampNeg (-1 : Int32))) rfl ?_
                      refine zPs (pc1 := 105) (l1 := [(8, .int (1 : Int32)), (7, .int (6 : Int32)), (0, .ref 292), (1, .int x0), (2, .int x1), (3, .int x2), (4, .int x3), (5, .int x4), (6, .int x5)]) (st1 := [.ref 292]) 2 rfl rfl rfl ?_
                      refine zGetR (r := 297) rfl rfl ⟨by decide, rfl, by decide, rfl⟩ ?_
                      refine zPs (pc1 := 110) (l1 := [(8, .int (1 : Int32)), (7, .int (6 : Int32)), (0, .ref 292), (1, .int x0), (2, .int x1), (3, .int x2), (4, .int x3), (5, .int x4), (6, .int x5)]) (st1 := [.int x2, .int x0, .ref 297]) 2 rfl rfl rfl ?_
                      refine zIasE (n := x0.toNatClampNeg) (F := 297) (I := x0.toNatClampNeg) h57.2 rfl (icM (k := 297) (L := 30) rfl h57.1) ?_
                      refine zPs (pc1 := 112) (l1 := [(8, .int (1 : Int32)), (7, .int (6 : Int32)), (0, .ref 292), (1, .int x0), (2, .int x1), (3, .int x2), (4, .int x3), (5, .int x4), (6, .int x5)]) (st1 := [.ref 292]) 1 rfl rfl rfl ?_
                      refine zGetR (r := 298) rfl rfl ⟨by decide, rfl, by decide, rfl⟩ ?_
                      refine zPs (pc1 := 118) (l1 := [(8, .int (1 : Int32)), (7, .int (6 : Int32)), (0, .ref 292), (1, .int x0), (2, .int x1), (3, .int x2), (4, .int x3), (5, .int x4), (6, .int x5)]) (st1 := [.int x3, .int x0, .ref 298]) 2 rfl rfl rfl ?_
                      refine zIasE (n := x0.toNatClampNeg) (F := 298) (I := x0.toNatClampNeg) h57.2 rfl (icM (k := 298) (L := 30) rfl h57.1) ?_
                      refine zPs (pc1 := 120) (l1 := [(8, .int (1 : Int32)), (7, .int (6 : Int32)), (0, .ref 292), (1, .int x0), (2, .int x1), (3, .int x2), (4, .int x3), (5, .int x4), (6, .int x5)]) (st1 := [.ref 292]) 1 rfl rfl rfl ?_
                      refine zGetR (r := 299) rfl rfl ⟨by decide, rfl, by decide, rfl⟩ ?_
                      refine zPs (pc1 := 125) (l1 := [(8, .int (1 : Int32)), (7, .int (6 : Int32)), (0, .ref 292), (1, .int x0), (2, .int x1), (3, .int x2), (4, .int x3), (5, .int x4), (6, .int x5)]) (st1 := [.int x1, .int x0, .ref 299]) 2 rfl rfl rfl ?_
                      refine zIasE (n := x0.toNatClampNeg) (F := 299) (I := x0.toNatClampNeg) h57.2 rfl (icM (k := 299) (L := 30) rfl h57.1) ?_
                      refine zPs (pc1 := 127) (l1 := [(8, .int (1 : Int32)), (7, .int (6 : Int32)), (0, .ref 292), (1, .int x0), (2, .int x1), (3, .int x2), (4, .int x3), (5, .int x4), (6, .int x5)]) (st1 := [.ref 292]) 1 rfl rfl rfl ?_
                      refine zGetR (r := 301) rfl rfl ⟨by decide, rfl, by decide, rfl⟩ ?_
                      refine zPs (pc1 := 133) (l1 := [(8, .int (1 : Int32)), (7, .int (6 : Int32)), (0, .ref 292), (1, .int x0), (2, .int x1), (3, .int x2), (4, .int x3), (5, .int x4), (6, .int x5)]) (st1 := [.int x4, .int x0, .ref 301]) 2 rfl rfl rfl ?_
                      refine zIasE (n := x0.toNatClampNeg) (F := 301) (I := x0.toNatClampNeg) h57.2 rfl (icM (k := 301) (L := 30) rfl h57.1) ?_
                      refine zPs (pc1 := 135) (l1 := [(8, .int (1 : Int32)), (7, .int (6 : Int32)), (0, .ref 292), (1, .int x0), (2, .int x1), (3, .int x2), (4, .int x3), (5, .int x4), (6, .int x5)]) (st1 := [.ref 292]) 1 rfl rfl rfl ?_
                      refine zGetR (r := 302) rfl rfl ⟨by decide, rfl, by decide, rfl⟩ ?_
                      refine zPs (pc1 := 141) (l1 := [(8, .int (1 : Int32)), (7, .int (6 : Int32)), (0, .ref 292), (1, .int x0), (2, .int x1), (3, .int x2), (4, .int x3), (5, .int x4), (6, .int x5)]) (st1 := [.int x5, .int x0, .ref 302]) 2 rfl rfl rfl ?_
                      refine zIasE (n := x0.toNatClampNeg) (F := 302) (I := x0.toNatClampNeg) h57.2 rfl (icM (k := 302) (L := 30) rfl h57.1) ?_
                      refine zRv rfl rfl ?_
                      exact k
                    · replace k := ite_f h60 k
                      refine kI ?_
                      refine zZ (z' := (up2 l 292 41 (3 : Int32))) rfl ?_
                      refine zPs (pc1 := 142) (l1 := [(8, .int (1 : Int32)), (7, .int (6 : Int32)), (0, .ref 292), (1, .int x0), (2, .int x1), (3, .int x2), (4, .int x3), (5, .int x4), (6, .int x5)]) (st1 := []) 1 rfl rfl rfl ?_
                      refine zRv rfl rfl ?_
                      exact k
                  · replace k := ite_f h59 k
                    refine kI ?_
                    refine zPs (pc1 := 98) (l1 := [(8, .int (1 : Int32)), (7, .int (6 : Int32)), (0, .ref 292), (1, .int x0), (2, .int x1), (3, .int x2), (4, .int x3), (5, .int x4), (6, .int x5)]) (st1 := [.int (1 : Int32), .int (0 : Int32), .int (4 : Int32), .int x0, .ref 292]) 3 rfl rfl rfl ?_
                    refine zCv (mj := 111) (k := 292) (n := 4) rfl rfl rfl rfl (by decide) rfl rfl rfl rfl rfl rfl ?_
                    refine c_111n4 ?_
                    refine kI ?_
                    refine zZ (z' := (up2 l 292 41 (1 : Int32))) rfl ?_
                    refine zPs (pc1 := 142) (l1 := [(8, .int (1 : Int32)), (7, .int (6 : Int32)), (0, .ref 292), (1, .int x0), (2, .int x1), (3, .int x2), (4, .int x3), (5, .int x4), (6, .int x5)]) (st1 := []) 1 rfl rfl rfl ?_
                    refine zRv rfl rfl ?_
                    exact k
                · replace k := ite_f h58 k
                  refine kI ?_
                  refine zPs (pc1 := 98) (l1 := [(8, .int (1 : Int32)), (7, .int (6 : Int32)), (0, .ref 292), (1, .int x0), (2, .int x1), (3, .int x2), (4, .int x3), (5, .int x4), (6, .int x5)]) (st1 := [.int (1 : Int32), .int (0 : Int32), .int (4 : Int32), .int x0, .ref 292]) 3 rfl rfl rfl ?_
                  refine zCv (mj := 111) (k := 292) (n := 4) rfl rfl rfl rfl (by decide) rfl rfl rfl rfl rfl rfl ?_
                  refine c_111n4 ?_
                  refine kI ?_
                  refine zZ (z' := (up2 l 292 41 (1 : Int32))) rfl ?_
                  refine zPs (pc1 := 142) (l1 := [(8, .int (1 : Int32)), (7, .int (6 : Int32)), (0, .ref 292), (1, .int x0), (2, .int x1), (3, .int x2), (4, .int x3), (5, .int x4), (6, .int x5)]) (st1 := []) 1 rfl rfl rfl ?_
                  refine zRv rfl rfl ?_
                  exact k
              · replace k := ite_f h56 k
                refine kI ?_
                refine zPs (pc1 := 98) (l1 := [(8, .int (1 : Int32)), (7, .int (6 : Int32)), (0, .ref 292), (1, .int x0), (2, .int x1), (3, .int x2), (4, .int x3), (5, .int x4), (6, .int x5)]) (st1 := [.int (1 : Int32), .int (0 : Int32), .int (4 : Int32), .int x0, .ref 292]) 3 rfl rfl rfl ?_
                refine zCv (mj := 111) (k := 292) (n := 4) rfl rfl rfl rfl (by decide) rfl rfl rfl rfl rfl rfl ?_
                refine c_111n4 ?_
                refine kI ?_
                refine zZ (z' := (up2 l 292 41 (1 : Int32))) rfl ?_
                refine zPs (pc1 := 142) (l1 := [(8, .int (1 : Int32)), (7, .int (6 : Int32)), (0, .ref 292), (1, .int x0), (2, .int x1), (3, .int x2), (4, .int x3), (5, .int x4), (6, .int x5)]) (st1 := []) 1 rfl rfl rfl ?_
                refine zRv rfl rfl ?_
                exact k
            · replace k := ite_f h54 k
              refine kI ?_
              refine zPs (pc1 := 69) (l1 := [(8, .int (0 : Int32)), (7, .int (6 : Int32)), (0, .ref 292), (1, .int x0), (2, .int x1), (3, .int x2), (4, .int x3), (5, .int x4), (6, .int x5)]) (st1 := [.int x0, .int (4 : Int32), .int x0, .ref 292]) 7 rfl rfl rfl ?_
              refine zCs (mj := 108) rfl rfl rfl rfl rfl rfl rfl rfl ?_
              refine d_108 (fun h61 => ?_) (fun h61 => ?_)
              · replace k := ite_t h61 k
                have h62 := isN_lt h61
                refine kI ?_
                refine zPs (pc1 := 77) (l1 := [(8, .int (0 : Int32)), (7, .int (6 : Int32)), (0, .ref 292), (1, .int x0), (2, .int x1), (3, .int x2), (4, .int x3), (5, .int x4), (6, .int x5)]) (st1 := [.int x4, .int (4 : Int32), .int x0, .ref 292]) 2 rfl rfl rfl ?_
                refine zCs (mj := 109) rfl rfl rfl rfl rfl rfl rfl rfl ?_
                refine c_109 (fun h63 => ?_) (fun h63 => ?_)
                · replace k := ite_t h63 k
                  refine kI ?_
                  refine zPs (pc1 := 85) (l1 := [(8, .int (0 : Int32)), (7, .int (6 : Int32)), (0, .ref 292), (1, .int x0), (2, .int x1), (3, .int x2), (4, .int x3), (5, .int x4), (6, .int x5)]) (st1 := [.int x5, .int (4 : Int32), .int x0, .ref 292]) 2 rfl rfl rfl ?_
                  refine zCs (mj := 109) rfl rfl rfl rfl rfl rfl rfl rfl ?_
                  refine c_109 (fun h64 => ?_) (fun h64 => ?_)
                  · replace k := ite_t h64 k
                    refine kI ?_
                    refine zPs (pc1 := 98) (l1 := [(8, .int (0 : Int32)), (7, .int (6 : Int32)), (0, .ref 292), (1, .int x0), (2, .int x1), (3, .int x2), (4, .int x3), (5, .int x4), (6, .int x5)]) (st1 := [.int (0 : Int32), .int (1 : Int32), .int (4 : Int32), .int x0, .ref 292]) 4 rfl rfl rfl ?_
                    refine zCv (mj := 111) (k := 292) (n := 4) rfl rfl rfl rfl (by decide) rfl rfl rfl rfl rfl rfl ?_
                    refine c_111b4 ?_
                    refine kI ?_
                    refine zZ (z' := (up2 l 292 41 (2 : Int32))) rfl ?_
                    refine zPs (pc1 := 142) (l1 := [(8, .int (0 : Int32)), (7, .int (6 : Int32)), (0, .ref 292), (1, .int x0), (2, .int x1), (3, .int x2), (4, .int x3), (5, .int x4), (6, .int x5)]) (st1 := []) 1 rfl rfl rfl ?_
                    refine zRv rfl rfl ?_
                    exact k
                  · replace k := ite_f h64 k
                    refine kI ?_
                    refine zPs (pc1 := 98) (l1 := [(8, .int (0 : Int32)), (7, .int (6 : Int32)), (0, .ref 292), (1, .int x0), (2, .int x1), (3, .int x2), (4, .int x3), (5, .int x4), (6, .int x5)]) (st1 := [.int (0 : Int32), .int (0 : Int32), .int (4 : Int32), .int x0, .ref 292]) 3 rfl rfl rfl ?_
                    refine zCv (mj := 111) (k := 292) (n := 4) rfl rfl rfl rfl (by decide) rfl rfl rfl rfl rfl rfl ?_
                    refine c_111n4 ?_
                    refine kI ?_
                    refine zZ (z' := (up2 l 292 41 (1 : Int32))) rfl ?_
                    refine zPs (pc1 := 142) (l1 := [(8, .int (0 : Int32)), (7, .int (6 : Int32)), (0, .ref 292), (1, .int x0), (2, .int x1), (3, .int x2), (4, .int x3), (5, .int x4), (6, .int x5)]) (st1 := []) 1 rfl rfl rfl ?_
                    refine zRv rfl rfl ?_
                    exact k
                · replace k := ite_f h63 k
                  refine kI ?_
                  refine zPs (pc1 := 98) (l1 := [(8, .int (0 : Int32)), (7, .int (6 : Int32)), (0, .ref 292), (1, .int x0), (2, .int x1), (3, .int x2), (4, .int x3), (5, .int x4), (6, .int x5)]) (st1 := [.int (0 : Int32), .int (0 : Int32), .int (4 : Int32), .int x0, .ref 292]) 3 rfl rfl rfl ?_
                  refine zCv (mj := 111) (k := 292) (n := 4) rfl rfl rfl rfl (by decide) rfl rfl rfl rfl rfl rfl ?_
                  refine c_111n4 ?_
                  refine kI ?_
                  refine zZ (z' := (up2 l 292 41 (1 : Int32))) rfl ?_
                  refine zPs (pc1 := 142) (l1 := [(8, .int (0 : Int32)), (7, .int (6 : Int32)), (0, .ref 292), (1, .int x0), (2, .int x1), (3, .int x2), (4, .int x3), (5, .int x4), (6, .int x5)]) (st1 := []) 1 rfl rfl rfl ?_
                  refine zRv rfl rfl ?_
                  exact k
              · replace k := ite_f h61 k
                refine kI ?_
                refine zPs (pc1 := 98) (l1 := [(8, .int (0 : Int32)), (7, .int (6 : Int32)), (0, .ref 292), (1, .int x0), (2, .int x1), (3, .int x2), (4, .int x3), (5, .int x4), (6, .int x5)]) (st1 := [.int (0 : Int32), .int (0 : Int32), .int (4 : Int32), .int x0, .ref 292]) 3 rfl rfl rfl ?_
                refine zCv (mj := 111) (k := 292) (n := 4) rfl rfl rfl rfl (by decide) rfl rfl rfl rfl rfl rfl ?_
                refine c_111n4 ?_
                refine kI ?_
                refine zZ (z' := (up2 l 292 41 (1 : Int32))) rfl ?_
                refine zPs (pc1 := 142) (l1 := [(8, .int (0 : Int32)), (7, .int (6 : Int32)), (0, .ref 292), (1, .int x0), (2, .int x1), (3, .int x2), (4, .int x3), (5, .int x4), (6, .int x5)]) (st1 := []) 1 rfl rfl rfl ?_
                refine zRv rfl rfl ?_
                exact k
          · replace k := ite_f h52 k
            refine kI ?_
            refine zPs (pc1 := 69) (l1 := [(8, .int (0 : Int32)), (7, .int (6 : Int32)), (0, .ref 292), (1, .int x0), (2, .int x1), (3, .int x2), (4, .int x3), (5, .int x4), (6, .int x5)]) (st1 := [.int x0, .int (4 : Int32), .int x0, .ref 292]) 7 rfl rfl rfl ?_
            refine zCs (mj := 108) rfl rfl rfl rfl rfl rfl rfl rfl ?_
            refine d_108 (fun h65 => ?_) (fun h65 => ?_)
            · replace k := ite_t h65 k
              have h66 := isN_lt h65
              refine kI ?_
              refine zPs (pc1 := 77) (l1 := [(8, .int (0 : Int32)), (7, .int (6 : Int32)), (0, .ref 292), (1, .int x0), (2, .int x1), (3, .int x2), (4, .int x3), (5, .int x4), (6, .int x5)]) (st1 := [.int x4, .int (4 : Int32), .int x0, .ref 292]) 2 rfl rfl rfl ?_
              refine zCs (mj := 109) rfl rfl rfl rfl rfl rfl rfl rfl ?_
              refine c_109 (fun h67 => ?_) (fun h67 => ?_)
              · replace k := ite_t h67 k
                refine kI ?_
                refine zPs (pc1 := 85) (l1 := [(8, .int (0 : Int32)), (7, .int (6 : Int32)), (0, .ref 292), (1, .int x0), (2, .int x1), (3, .int x2), (4, .int x3), (5, .int x4), (6, .int x5)]) (st1 := [.int x5, .int (4 : Int32), .int x0, .ref 292]) 2 rfl rfl rfl ?_
                refine zCs (mj := 109) rfl rfl rfl rfl rfl rfl rfl rfl ?_
                refine c_109 (fun h68 => ?_) (fun h68 => ?_)
                · replace k := ite_t h68 k
                  refine kI ?_
                  refine zPs (pc1 := 98) (l1 := [(8, .int (0 : Int32)), (7, .int (6 : Int32)), (0, .ref 292), (1, .int x0), (2, .int x1), (3, .int x2), (4, .int x3), (5, .int x4), (6, .int x5)]) (st1 := [.int (0 : Int32), .int (1 : Int32), .int (4 : Int32), .int x0, .ref 292]) 4 rfl rfl rfl ?_
                  refine zCv (mj := 111) (k := 292) (n := 4) rfl rfl rfl rfl (by decide) rfl rfl rfl rfl rfl rfl ?_
                  refine c_111b4 ?_
                  refine kI ?_
                  refine zZ (z' := (up2 l 292 41 (2 : Int32))) rfl ?_
                  refine zPs (pc1 := 142) (l1 := [(8, .int (0 : Int32)), (7, .int (6 : Int32)), (0, .ref 292), (1, .int x0), (2, .int x1), (3, .int x2), (4, .int x3), (5, .int x4), (6, .int x5)]) (st1 := []) 1 rfl rfl rfl ?_
                  refine zRv rfl rfl ?_
                  exact k
                · replace k := ite_f h68 k
                  refine kI ?_
                  refine zPs (pc1 := 98) (l1 := [(8, .int (0 : Int32)), (7, .int (6 : Int32)), (0, .ref 292), (1, .int x0), (2, .int x1), (3, .int x2), (4, .int x3), (5, .int x4), (6, .int x5)]) (st1 := [.int (0 : Int32), .int (0 : Int32), .int (4 : Int32), .int x0, .ref 292]) 3 rfl rfl rfl ?_
                  refine zCv (mj := 111) (k := 292) (n := 4) rfl rfl rfl rfl (by decide) rfl rfl rfl rfl rfl rfl ?_
                  refine c_111n4 ?_
                  refine kI ?_
                  refine zZ (z' := (up2 l 292 41 (1 : Int32))) rfl ?_
                  refine zPs (pc1 := 142) (l1 := [(8, .int (0 : Int32)), (7, .int (6 : Int32)), (0, .ref 292), (1, .int x0), (2, .int x1), (3, .int x2), (4, .int x3), (5, .int x4), (6, .int x5)]) (st1 := []) 1 rfl rfl rfl ?_
                  refine zRv rfl rfl ?_
                  exact k
              · replace k := ite_f h67 k
                refine kI ?_
                refine zPs (pc1 := 98) (l1 := [(8, .int (0 : Int32)), (7, .int (6 : Int32)), (0, .ref 292), (1, .int x0), (2, .int x1), (3, .int x2), (4, .int x3), (5, .int x4), (6, .int x5)]) (st1 := [.int (0 : Int32), .int (0 : Int32), .int (4 : Int32), .int x0, .ref 292]) 3 rfl rfl rfl ?_
                refine zCv (mj := 111) (k := 292) (n := 4) rfl rfl rfl rfl (by decide) rfl rfl rfl rfl rfl rfl ?_
                refine c_111n4 ?_
                refine kI ?_
                refine zZ (z' := (up2 l 292 41 (1 : Int32))) rfl ?_
                refine zPs (pc1 := 142) (l1 := [(8, .int (0 : Int32)), (7, .int (6 : Int32)), (0, .ref 292), (1, .int x0), (2, .int x1), (3, .int x2), (4, .int x3), (5, .int x4), (6, .int x5)]) (st1 := []) 1 rfl rfl rfl ?_
                refine zRv rfl rfl ?_
                exact k
            · replace k := ite_f h65 k
              refine kI ?_
              refine zPs (pc1 := 98) (l1 := [(8, .int (0 : Int32)), (7, .int (6 : Int32)), (0, .ref 292), (1, .int x0), (2, .int x1), (3, .int x2), (4, .int x3), (5, .int x4), (6, .int x5)]) (st1 := [.int (0 : Int32), .int (0 : Int32), .int (4 : Int32), .int x0, .ref 292]) 3 rfl rfl rfl ?_
              refine zCv (mj := 111) (k := 292) (n := 4) rfl rfl rfl rfl (by decide) rfl rfl rfl rfl rfl rfl ?_
              refine c_111n4 ?_
              refine kI ?_
              refine zZ (z' := (up2 l 292 41 (1 : Int32))) rfl ?_
              refine zPs (pc1 := 142) (l1 := [(8, .int (0 : Int32)), (7, .int (6 : Int32)), (0, .ref 292), (1, .int x0), (2, .int x1), (3, .int x2), (4, .int x3), (5, .int x4), (6, .int x5)]) (st1 := []) 1 rfl rfl rfl ?_
              refine zRv rfl rfl ?_
              exact k
        · replace k := ite_f h50 k
          refine kI ?_
          refine zPs (pc1 := 69) (l1 := [(8, .int (0 : Int32)), (7, .int (6 : Int32)), (0, .ref 292), (1, .int x0), (2, .int x1), (3, .int x2), (4, .int x3), (5, .int x4), (6, .int x5)]) (st1 := [.int x0, .int (4 : Int32), .int x0, .ref 292]) 7 rfl rfl rfl ?_
          refine zCs (mj := 108) rfl rfl rfl rfl rfl rfl rfl rfl ?_
          refine d_108 (fun h69 => ?_) (fun h69 => ?_)
          · replace k := ite_t h69 k
            have h70 := isN_lt h69
            refine kI ?_
            refine zPs (pc1 := 77) (l1 := [(8, .int (0 : Int32)), (7, .int (6 : Int32)), (0, .ref 292), (1, .int x0), (2, .int x1), (3, .int x2), (4, .int x3), (5, .int x4), (6, .int x5)]) (st1 := [.int x4, .int (4 : Int32), .int x0, .ref 292]) 2 rfl rfl rfl ?_
            refine zCs (mj := 109) rfl rfl rfl rfl rfl rfl rfl rfl ?_
            refine c_109 (fun h71 => ?_) (fun h71 => ?_)
            · replace k := ite_t h71 k
              refine kI ?_
              refine zPs (pc1 := 85) (l1 := [(8, .int (0 : Int32)), (7, .int (6 : Int32)), (0, .ref 292), (1, .int x0), (2, .int x1), (3, .int x2), (4, .int x3), (5, .int x4), (6, .int x5)]) (st1 := [.int x5, .int (4 : Int32), .int x0, .ref 292]) 2 rfl rfl rfl ?_
              refine zCs (mj := 109) rfl rfl rfl rfl rfl rfl rfl rfl ?_
              refine c_109 (fun h72 => ?_) (fun h72 => ?_)
              · replace k := ite_t h72 k
                refine kI ?_
                refine zPs (pc1 := 98) (l1 := [(8, .int (0 : Int32)), (7, .int (6 : Int32)), (0, .ref 292), (1, .int x0), (2, .int x1), (3, .int x2), (4, .int x3), (5, .int x4), (6, .int x5)]) (st1 := [.int (0 : Int32), .int (1 : Int32), .int (4 : Int32), .int x0, .ref 292]) 4 rfl rfl rfl ?_
                refine zCv (mj := 111) (k := 292) (n := 4) rfl rfl rfl rfl (by decide) rfl rfl rfl rfl rfl rfl ?_
                refine c_111b4 ?_
                refine kI ?_
                refine zZ (z' := (up2 l 292 41 (2 : Int32))) rfl ?_
                refine zPs (pc1 := 142) (l1 := [(8, .int (0 : Int32)), (7, .int (6 : Int32)), (0, .ref 292), (1, .int x0), (2, .int x1), (3, .int x2), (4, .int x3), (5, .int x4), (6, .int x5)]) (st1 := []) 1 rfl rfl rfl ?_
                refine zRv rfl rfl ?_
                exact k
              · replace k := ite_f h72 k
                refine kI ?_
                refine zPs (pc1 := 98) (l1 := [(8, .int (0 : Int32)), (7, .int (6 : Int32)), (0, .ref 292), (1, .int x0), (2, .int x1), (3, .int x2), (4, .int x3), (5, .int x4), (6, .int x5)]) (st1 := [.int (0 : Int32), .int (0 : Int32), .int (4 : Int32), .int x0, .ref 292]) 3 rfl rfl rfl ?_
                refine zCv (mj := 111) (k := 292) (n := 4) rfl rfl rfl rfl (by decide) rfl rfl rfl rfl rfl rfl ?_
                refine c_111n4 ?_
                refine kI ?_
                refine zZ (z' := (up2 l 292 41 (1 : Int32))) rfl ?_
                refine zPs (pc1 := 142) (l1 := [(8, .int (0 : Int32)), (7, .int (6 : Int32)), (0, .ref 292), (1, .int x0), (2, .int x1), (3, .int x2), (4, .int x3), (5, .int x4), (6, .int x5)]) (st1 := []) 1 rfl rfl rfl ?_
                refine zRv rfl rfl ?_
                exact k
            · replace k := ite_f h71 k
              refine kI ?_
              refine zPs (pc1 := 98) (l1 := [(8, .int (0 : Int32)), (7, .int (6 : Int32)), (0, .ref 292), (1, .int x0), (2, .int x1), (3, .int x2), (4, .int x3), (5, .int x4), (6, .int x5)]) (st1 := [.int (0 : Int32), .int (0 : Int32), .int (4 : Int32), .int x0, .ref 292]) 3 rfl rfl rfl ?_
              refine zCv (mj := 111) (k := 292) (n := 4) rfl rfl rfl rfl (by decide) rfl rfl rfl rfl rfl rfl ?_
              refine c_111n4 ?_
              refine kI ?_
              refine zZ (z' := (up2 l 292 41 (1 : Int32))) rfl ?_
              refine zPs (pc1 := 142) (l1 := [(8, .int (0 : Int32)), (7, .int (6 : Int32)), (0, .ref 292), (1, .int x0), (2, .int x1), (3, .int x2), (4, .int x3), (5, .int x4), (6, .int x5)]) (st1 := []) 1 rfl rfl rfl ?_
              refine zRv rfl rfl ?_
              exact k
          · replace k := ite_f h69 k
            refine kI ?_
            refine zPs (pc1 := 98) (l1 := [(8, .int (0 : Int32)), (7, .int (6 : Int32)), (0, .ref 292), (1, .int x0), (2, .int x1), (3, .int x2), (4, .int x3), (5, .int x4), (6, .int x5)]) (st1 := [.int (0 : Int32), .int (0 : Int32), .int (4 : Int32), .int x0, .ref 292]) 3 rfl rfl rfl ?_
            refine zCv (mj := 111) (k := 292) (n := 4) rfl rfl rfl rfl (by decide) rfl rfl rfl rfl rfl rfl ?_
            refine c_111n4 ?_
            refine kI ?_
            refine zZ (z' := (up2 l 292 41 (1 : Int32))) rfl ?_
            refine zPs (pc1 := 142) (l1 := [(8, .int (0 : Int32)), (7, .int (6 : Int32)), (0, .ref 292), (1, .int x0), (2, .int x1), (3, .int x2), (4, .int x3), (5, .int x4), (6, .int x5)]) (st1 := []) 1 rfl rfl rfl ?_
            refine zRv rfl rfl ?_
            exact k
    · replace k := ite_f (not_not_intro h25) k
      refine zPs (pc1 := 31) (l1 := [(7, .int (5 : Int32)), (0, .ref 292), (1, .int x0), (2, .int x1), (3, .int x2), (4, .int x3), (5, .int x4), (6, .int x5)]) (st1 := [.int (4 : Int32), .int (0 : Int32), .int x1]) 6 rfl rfl rfl ?_
      refine zCs (mj := 107) rfl rfl rfl rfl rfl rfl rfl rfl ?_
      refine d_107 (fun h73 => ?_) (fun h73 => ?_)
      · replace k := ite_t h73 k
        have h74 := rng_le (b := 4) (by decide) (Int32.le_trans (by decide) h73.1) h73.2
        refine kI ?_
        refine zPs (pc1 := 41) (l1 := [(7, .int (5 : Int32)), (0, .ref 292), (1, .int x0), (2, .int x1), (3, .int x2), (4, .int x3), (5, .int x4), (6, .int x5)]) (st1 := [.int (5 : Int32), .int (0 : Int32), .int x2]) 4 rfl rfl rfl ?_
        refine zCs (mj := 107) rfl rfl rfl rfl rfl rfl rfl rfl ?_
        refine d_107 (fun h75 => ?_) (fun h75 => ?_)
        · replace k := ite_t h75 k
          have h76 := rng_le (b := 5) (by decide) (Int32.le_trans (by decide) h75.1) h75.2
          refine kI ?_
          refine zPs (pc1 := 52) (l1 := [(7, .int (5 : Int32)), (0, .ref 292), (1, .int x0), (2, .int x1), (3, .int x2), (4, .int x3), (5, .int x4), (6, .int x5)]) (st1 := [.int (60 : Int32), .int (0 : Int32), .int x3]) 4 rfl rfl rfl ?_
          refine zCs (mj := 107) rfl rfl rfl rfl rfl rfl rfl rfl ?_
          refine d_107 (fun h77 => ?_) (fun h77 => ?_)
          · replace k := ite_t h77 k
            have h78 := rng_le (b := 60) (by decide) (Int32.le_trans (by decide) h77.1) h77.2
            refine kI ?_
            refine zPs (pc1 := 69) (l1 := [(8, .int (1 : Int32)), (7, .int (5 : Int32)), (0, .ref 292), (1, .int x0), (2, .int x1), (3, .int x2), (4, .int x3), (5, .int x4), (6, .int x5)]) (st1 := [.int x0, .int (4 : Int32), .int x0, .ref 292]) 8 rfl rfl rfl ?_
            refine zCs (mj := 108) rfl rfl rfl rfl rfl rfl rfl rfl ?_
            refine d_108 (fun h79 => ?_) (fun h79 => ?_)
            · replace k := ite_t h79 k
              have h80 := isN_lt h79
              refine kI ?_
              refine zPs (pc1 := 77) (l1 := [(8, .int (1 : Int32)), (7, .int (5 : Int32)), (0, .ref 292), (1, .int x0), (2, .int x1), (3, .int x2), (4, .int x3), (5, .int x4), (6, .int x5)]) (st1 := [.int x4, .int (4 : Int32), .int x0, .ref 292]) 2 rfl rfl rfl ?_
              refine zCs (mj := 109) rfl rfl rfl rfl rfl rfl rfl rfl ?_
              refine c_109 (fun h81 => ?_) (fun h81 => ?_)
              · replace k := ite_t h81 k
                refine kI ?_
                refine zPs (pc1 := 85) (l1 := [(8, .int (1 : Int32)), (7, .int (5 : Int32)), (0, .ref 292), (1, .int x0), (2, .int x1), (3, .int x2), (4, .int x3), (5, .int x4), (6, .int x5)]) (st1 := [.int x5, .int (4 : Int32), .int x0, .ref 292]) 2 rfl rfl rfl ?_
                refine zCs (mj := 109) rfl rfl rfl rfl rfl rfl rfl rfl ?_
                refine c_109 (fun h82 => ?_) (fun h82 => ?_)
                · replace k := ite_t h82 k
                  refine kI ?_
                  refine zPs (pc1 := 98) (l1 := [(8, .int (1 : Int32)), (7, .int (5 : Int32)), (0, .ref 292), (1, .int x0), (2, .int x1), (3, .int x2), (4, .int x3), (5, .int x4), (6, .int x5)]) (st1 := [.int (1 : Int32), .int (1 : Int32), .int (4 : Int32), .int x0, .ref 292]) 4 rfl rfl rfl ?_
                  refine zTo (ml' := [(8, .int (1 : Int32)), (7, .int (5 : Int32)), (0, .ref 292), (1, .int x0), (2, .int x1), (3, .int x2), (4, .int x3), (5, .int x4), (6, .int x5)]) (st' := [.int (1 : Int32), .int (1 : Int32), .int (4 : Int32), .int (i32 x0.toNatClampNeg), .ref 292]) rfl (by rw [h80.2]) ?_
                  refine zCv (mj := 111) (k := 292) (n := 4) rfl rfl rfl rfl (by decide) rfl rfl rfl rfl rfl rfl ?_
                  refine c_111o4 hl hCI.1 h80.1 (fun h83 => ?_) (fun h83 => ?_)
                  · replace k := ite_t h83 k
                    refine kI ?_
                    refine zZ (z' := (up2 (up2 (up2 (up2 (up2 (up2 (up2 l 292 41 (0 : Int32)) 296 x0.toNatClampNeg (4 : Int32)) 306 x0.toNatClampNeg (0 : Int32)) 303 x0.toNatClampNeg (10 : Int32)) 304 x0.toNatClampNeg (3 : Int32)) 305 x0.toNatClampNeg (2 : Int32)) 302 x0.toNatClampNeg (-1 : Int32))) rfl ?_
                    refine zPs (pc1 := 105) (l1 := [(8, .int (1 : Int32)), (7, .int (5 : Int32)), (0, .ref 292), (1, .int x0), (2, .int x1), (3, .int x2), (4, .int x3), (5, .int x4), (6, .int x5)]) (st1 := [.ref 292]) 2 rfl rfl rfl ?_
                    refine zGetR (r := 297) rfl rfl ⟨by decide, rfl, by decide, rfl⟩ ?_
                    refine zPs (pc1 := 110) (l1 := [(8, .int (1 : Int32)), (7, .int (5 : Int32)), (0, .ref 292), (1, .int x0), (2, .int x1), (3, .int x2), (4, .int x3), (5, .int x4), (6, .int x5)]) (st1 := [.int x2, .int x0, .ref 297]) 2 rfl rfl rfl ?_
                    refine zIasE (n := x0.toNatClampNeg) (F := 297) (I := x0.toNatClampNeg) h80.2 rfl (icM (k := 297) (L := 30) rfl h80.1) ?_
                    refine zPs (pc1 := 112) (l1 := [(8, .int (1 : Int32)), (7, .int (5 : Int32)), (0, .ref 292), (1, .int x0), (2, .int x1), (3, .int x2), (4, .int x3), (5, .int x4), (6, .int x5)]) (st1 := [.ref 292]) 1 rfl rfl rfl ?_
                    refine zGetR (r := 298) rfl rfl ⟨by decide, rfl, by decide, rfl⟩ ?_
                    refine zPs (pc1 := 118) (l1 := [(8, .int (1 : Int32)), (7, .int (5 : Int32)), (0, .ref 292), (1, .int x0), (2, .int x1), (3, .int x2), (4, .int x3), (5, .int x4), (6, .int x5)]) (st1 := [.int x3, .int x0, .ref 298]) 2 rfl rfl rfl ?_
                    refine zIasE (n := x0.toNatClampNeg) (F := 298) (I := x0.toNatClampNeg) h80.2 rfl (icM (k := 298) (L := 30) rfl h80.1) ?_
                    refine zPs (pc1 := 120) (l1 := [(8, .int (1 : Int32)), (7, .int (5 : Int32)), (0, .ref 292), (1, .int x0), (2, .int x1), (3, .int x2), (4, .int x3), (5, .int x4), (6, .int x5)]) (st1 := [.ref 292]) 1 rfl rfl rfl ?_
                    refine zGetR (r := 299) rfl rfl ⟨by decide, rfl, by decide, rfl⟩ ?_
                    refine zPs (pc1 := 125) (l1 := [(8, .int (1 : Int32)), (7, .int (5 : Int32)), (0, .ref 292), (1, .int x0), (2, .int x1), (3, .int x2), (4, .int x3), (5, .int x4), (6, .int x5)]) (st1 := [.int x1, .int x0, .ref 299]) 2 rfl rfl rfl ?_
                    refine zIasE (n := x0.toNatClampNeg) (F := 299) (I := x0.toNatClampNeg) h80.2 rfl (icM (k := 299) (L := 30) rfl h80.1) ?_
                    refine zPs (pc1 := 127) (l1 := [(8, .int (1 : Int32)), (7, .int (5 : Int32)), (0, .ref 292), (1, .int x0), (2, .int x1), (3, .int x2), (4, .int x3), (5, .int x4), (6, .int x5)]) (st1 := [.ref 292]) 1 rfl rfl rfl ?_
                    refine zGetR (r := 301) rfl rfl ⟨by decide, rfl, by decide, rfl⟩ ?_
                    refine zPs (pc1 := 133) (l1 := [(8, .int (1 : Int32)), (7, .int (5 : Int32)), (0, .ref 292), (1, .int x0), (2, .int x1), (3, .int x2), (4, .int x3), (5, .int x4), (6, .int x5)]) (st1 := [.int x4, .int x0, .ref 301]) 2 rfl rfl rfl ?_
                    refine zIasE (n := x0.toNatClampNeg) (F := 301) (I := x0.toNatClampNeg) h80.2 rfl (icM (k := 301) (L := 30) rfl h80.1) ?_
                    refine zPs (pc1 := 135) (l1 := [(8, .int (1 : Int32)), (7, .int (5 : Int32)), (0, .ref 292), (1, .int x0), (2, .int x1), (3, .int x2), (4, .int x3), (5, .int x4), (6, .int x5)]) (st1 := [.ref 292]) 1 rfl rfl rfl ?_
                    refine zGetR (r := 302) rfl rfl ⟨by decide, rfl, by decide, rfl⟩ ?_
                    refine zPs (pc1 := 141) (l1 := [(8, .int (1 : Int32)), (7, .int (5 : Int32)), (0, .ref 292), (1, .int x0), (2, .int x1), (3, .int x2), (4, .int x3), (5, .int x4), (6, .int x5)]) (st1 := [.int x5, .int x0, .ref 302]) 2 rfl rfl rfl ?_
                    refine zIasE (n := x0.toNatClampNeg) (F := 302) (I := x0.toNatClampNeg) h80.2 rfl (icM (k := 302) (L := 30) rfl h80.1) ?_
                    refine zRv rfl rfl ?_
                    exact k
                  · replace k := ite_f h83 k
                    refine kI ?_
                    refine zZ (z' := (up2 l 292 41 (3 : Int32))) rfl ?_
                    refine zPs (pc1 := 142) (l1 := [(8, .int (1 : Int32)), (7, .int (5 : Int32)), (0, .ref 292), (1, .int x0), (2, .int x1), (3, .int x2), (4, .int x3), (5, .int x4), (6, .int x5)]) (st1 := []) 1 rfl rfl rfl ?_
                    refine zRv rfl rfl ?_
                    exact k
                · replace k := ite_f h82 k
                  refine kI ?_
                  refine zPs (pc1 := 98) (l1 := [(8, .int (1 : Int32)), (7, .int (5 : Int32)), (0, .ref 292), (1, .int x0), (2, .int x1), (3, .int x2), (4, .int x3), (5, .int x4), (6, .int x5)]) (st1 := [.int (1 : Int32), .int (0 : Int32), .int (4 : Int32), .int x0, .ref 292]) 3 rfl rfl rfl ?_
                  refine zCv (mj := 111) (k := 292) (n := 4) rfl rfl rfl rfl (by decide) rfl rfl rfl rfl rfl rfl ?_
                  refine c_111n4 ?_
                  refine kI ?_
                  refine zZ (z' := (up2 l 292 41 (1 : Int32))) rfl ?_
                  refine zPs (pc1 := 142) (l1 := [(8, .int (1 : Int32)), (7, .int (5 : Int32)), (0, .ref 292), (1, .int x0), (2, .int x1), (3, .int x2), (4, .int x3), (5, .int x4), (6, .int x5)]) (st1 := []) 1 rfl rfl rfl ?_
                  refine zRv rfl rfl ?_
                  exact k
              · replace k := ite_f h81 k
                refine kI ?_
                refine zPs (pc1 := 98) (l1 := [(8, .int (1 : Int32)), (7, .int (5 : Int32)), (0, .ref 292), (1, .int x0), (2, .int x1), (3, .int x2), (4, .int x3), (5, .int x4), (6, .int x5)]) (st1 := [.int (1 : Int32), .int (0 : Int32), .int (4 : Int32), .int x0, .ref 292]) 3 rfl rfl rfl ?_
                refine zCv (mj := 111) (k := 292) (n := 4) rfl rfl rfl rfl (by decide) rfl rfl rfl rfl rfl rfl ?_
                refine c_111n4 ?_
                refine kI ?_
                refine zZ (z' := (up2 l 292 41 (1 : Int32))) rfl ?_
                refine zPs (pc1 := 142) (l1 := [(8, .int (1 : Int32)), (7, .int (5 : Int32)), (0, .ref 292), (1, .int x0), (2, .int x1), (3, .int x2), (4, .int x3), (5, .int x4), (6, .int x5)]) (st1 := []) 1 rfl rfl rfl ?_
                refine zRv rfl rfl ?_
                exact k
            · replace k := ite_f h79 k
              refine kI ?_
              refine zPs (pc1 := 98) (l1 := [(8, .int (1 : Int32)), (7, .int (5 : Int32)), (0, .ref 292), (1, .int x0), (2, .int x1), (3, .int x2), (4, .int x3), (5, .int x4), (6, .int x5)]) (st1 := [.int (1 : Int32), .int (0 : Int32), .int (4 : Int32), .int x0, .ref 292]) 3 rfl rfl rfl ?_
              refine zCv (mj := 111) (k := 292) (n := 4) rfl rfl rfl rfl (by decide) rfl rfl rfl rfl rfl rfl ?_
              refine c_111n4 ?_
              refine kI ?_
              refine zZ (z' := (up2 l 292 41 (1 : Int32))) rfl ?_
              refine zPs (pc1 := 142) (l1 := [(8, .int (1 : Int32)), (7, .int (5 : Int32)), (0, .ref 292), (1, .int x0), (2, .int x1), (3, .int x2), (4, .int x3), (5, .int x4), (6, .int x5)]) (st1 := []) 1 rfl rfl rfl ?_
              refine zRv rfl rfl ?_
              exact k
          · replace k := ite_f h77 k
            refine kI ?_
            refine zPs (pc1 := 69) (l1 := [(8, .int (0 : Int32)), (7, .int (5 : Int32)), (0, .ref 292), (1, .int x0), (2, .int x1), (3, .int x2), (4, .int x3), (5, .int x4), (6, .int x5)]) (st1 := [.int x0, .int (4 : Int32), .int x0, .ref 292]) 7 rfl rfl rfl ?_
            refine zCs (mj := 108) rfl rfl rfl rfl rfl rfl rfl rfl ?_
            refine d_108 (fun h84 => ?_) (fun h84 => ?_)
            · replace k := ite_t h84 k
              have h85 := isN_lt h84
              refine kI ?_
              refine zPs (pc1 := 77) (l1 := [(8, .int (0 : Int32)), (7, .int (5 : Int32)), (0, .ref 292), (1, .int x0), (2, .int x1), (3, .int x2), (4, .int x3), (5, .int x4), (6, .int x5)]) (st1 := [.int x4, .int (4 : Int32), .int x0, .ref 292]) 2 rfl rfl rfl ?_
              refine zCs (mj := 109) rfl rfl rfl rfl rfl rfl rfl rfl ?_
              refine c_109 (fun h86 => ?_) (fun h86 => ?_)
              · replace k := ite_t h86 k
                refine kI ?_
                refine zPs (pc1 := 85) (l1 := [(8, .int (0 : Int32)), (7, .int (5 : Int32)), (0, .ref 292), (1, .int x0), (2, .int x1), (3, .int x2), (4, .int x3), (5, .int x4), (6, .int x5)]) (st1 := [.int x5, .int (4 : Int32), .int x0, .ref 292]) 2 rfl rfl rfl ?_
                refine zCs (mj := 109) rfl rfl rfl rfl rfl rfl rfl rfl ?_
                refine c_109 (fun h87 => ?_) (fun h87 => ?_)
                · replace k := ite_t h87 k
                  refine kI ?_
                  refine zPs (pc1 := 98) (l1 := [(8, .int (0 : Int32)), (7, .int (5 : Int32)), (0, .ref 292), (1, .int x0), (2, .int x1), (3, .int x2), (4, .int x3), (5, .int x4), (6, .int x5)]) (st1 := [.int (0 : Int32), .int (1 : Int32), .int (4 : Int32), .int x0, .ref 292]) 4 rfl rfl rfl ?_
                  refine zCv (mj := 111) (k := 292) (n := 4) rfl rfl rfl rfl (by decide) rfl rfl rfl rfl rfl rfl ?_
                  refine c_111b4 ?_
                  refine kI ?_
                  refine zZ (z' := (up2 l 292 41 (2 : Int32))) rfl ?_
                  refine zPs (pc1 := 142) (l1 := [(8, .int (0 : Int32)), (7, .int (5 : Int32)), (0, .ref 292), (1, .int x0), (2, .int x1), (3, .int x2), (4, .int x3), (5, .int x4), (6, .int x5)]) (st1 := []) 1 rfl rfl rfl ?_
                  refine zRv rfl rfl ?_
                  exact k
                · replace k := ite_f h87 k
                  refine kI ?_
                  refine zPs (pc1 := 98) (l1 := [(8, .int (0 : Int32)), (7, .int (5 : Int32)), (0, .ref 292), (1, .int x0), (2, .int x1), (3, .int x2), (4, .int x3), (5, .int x4), (6, .int x5)]) (st1 := [.int (0 : Int32), .int (0 : Int32), .int (4 : Int32), .int x0, .ref 292]) 3 rfl rfl rfl ?_
                  refine zCv (mj := 111) (k := 292) (n := 4) rfl rfl rfl rfl (by decide) rfl rfl rfl rfl rfl rfl ?_
                  refine c_111n4 ?_
                  refine kI ?_
                  refine zZ (z' := (up2 l 292 41 (1 : Int32))) rfl ?_
                  refine zPs (pc1 := 142) (l1 := [(8, .int (0 : Int32)), (7, .int (5 : Int32)), (0, .ref 292), (1, .int x0), (2, .int x1), (3, .int x2), (4, .int x3), (5, .int x4), (6, .int x5)]) (st1 := []) 1 rfl rfl rfl ?_
                  refine zRv rfl rfl ?_
                  exact k
              · replace k := ite_f h86 k
                refine kI ?_
                refine zPs (pc1 := 98) (l1 := [(8, .int (0 : Int32)), (7, .int (5 : Int32)), (0, .ref 292), (1, .int x0), (2, .int x1), (3, .int x2), (4, .int x3), (5, .int x4), (6, .int x5)]) (st1 := [.int (0 : Int32), .int (0 : Int32), .int (4 : Int32), .int x0, .ref 292]) 3 rfl rfl rfl ?_
                refine zCv (mj := 111) (k := 292) (n := 4) rfl rfl rfl rfl (by decide) rfl rfl rfl rfl rfl rfl ?_
                refine c_111n4 ?_
                refine kI ?_
                refine zZ (z' := (up2 l 292 41 (1 : Int32))) rfl ?_
                refine zPs (pc1 := 142) (l1 := [(8, .int (0 : Int32)), (7, .int (5 : Int32)), (0, .ref 292), (1, .int x0), (2, .int x1), (3, .int x2), (4, .int x3), (5, .int x4), (6, .int x5)]) (st1 := []) 1 rfl rfl rfl ?_
                refine zRv rfl rfl ?_
                exact k
            · replace k := ite_f h84 k
              refine kI ?_
              refine zPs (pc1 := 98) (l1 := [(8, .int (0 : Int32)), (7, .int (5 : Int32)), (0, .ref 292), (1, .int x0), (2, .int x1), (3, .int x2), (4, .int x3), (5, .int x4), (6, .int x5)]) (st1 := [.int (0 : Int32), .int (0 : Int32), .int (4 : Int32), .int x0, .ref 292]) 3 rfl rfl rfl ?_
              refine zCv (mj := 111) (k := 292) (n := 4) rfl rfl rfl rfl (by decide) rfl rfl rfl rfl rfl rfl ?_
              refine c_111n4 ?_
              refine kI ?_
              refine zZ (z' := (up2 l 292 41 (1 : Int32))) rfl ?_
              refine zPs (pc1 := 142) (l1 := [(8, .int (0 : Int32)), (7, .int (5 : Int32)), (0, .ref 292), (1, .int x0), (2, .int x1), (3, .int x2), (4, .int x3), (5, .int x4), (6, .int x5)]) (st1 := []) 1 rfl rfl rfl ?_
              refine zRv rfl rfl ?_
              exact k
        · replace k := ite_f h75 k
          refine kI ?_
          refine zPs (pc1 := 69) (l1 := [(8, .int (0 : Int32)), (7, .int (5 : Int32)), (0, .ref 292), (1, .int x0), (2, .int x1), (3, .int x2), (4, .int x3), (5, .int x4), (6, .int x5)]) (st1 := [.int x0, .int (4 : Int32), .int x0, .ref 292]) 7 rfl rfl rfl ?_
          refine zCs (mj := 108) rfl rfl rfl rfl rfl rfl rfl rfl ?_
          refine d_108 (fun h88 => ?_) (fun h88 => ?_)
          · replace k := ite_t h88 k
            have h89 := isN_lt h88
            refine kI ?_
            refine zPs (pc1 := 77) (l1 := [(8, .int (0 : Int32)), (7, .int (5 : Int32)), (0, .ref 292), (1, .int x0), (2, .int x1), (3, .int x2), (4, .int x3), (5, .int x4), (6, .int x5)]) (st1 := [.int x4, .int (4 : Int32), .int x0, .ref 292]) 2 rfl rfl rfl ?_
            refine zCs (mj := 109) rfl rfl rfl rfl rfl rfl rfl rfl ?_
            refine c_109 (fun h90 => ?_) (fun h90 => ?_)
            · replace k := ite_t h90 k
              refine kI ?_
              refine zPs (pc1 := 85) (l1 := [(8, .int (0 : Int32)), (7, .int (5 : Int32)), (0, .ref 292), (1, .int x0), (2, .int x1), (3, .int x2), (4, .int x3), (5, .int x4), (6, .int x5)]) (st1 := [.int x5, .int (4 : Int32), .int x0, .ref 292]) 2 rfl rfl rfl ?_
              refine zCs (mj := 109) rfl rfl rfl rfl rfl rfl rfl rfl ?_
              refine c_109 (fun h91 => ?_) (fun h91 => ?_)
              · replace k := ite_t h91 k
                refine kI ?_
                refine zPs (pc1 := 98) (l1 := [(8, .int (0 : Int32)), (7, .int (5 : Int32)), (0, .ref 292), (1, .int x0), (2, .int x1), (3, .int x2), (4, .int x3), (5, .int x4), (6, .int x5)]) (st1 := [.int (0 : Int32), .int (1 : Int32), .int (4 : Int32), .int x0, .ref 292]) 4 rfl rfl rfl ?_
                refine zCv (mj := 111) (k := 292) (n := 4) rfl rfl rfl rfl (by decide) rfl rfl rfl rfl rfl rfl ?_
                refine c_111b4 ?_
                refine kI ?_
                refine zZ (z' := (up2 l 292 41 (2 : Int32))) rfl ?_
                refine zPs (pc1 := 142) (l1 := [(8, .int (0 : Int32)), (7, .int (5 : Int32)), (0, .ref 292), (1, .int x0), (2, .int x1), (3, .int x2), (4, .int x3), (5, .int x4), (6, .int x5)]) (st1 := []) 1 rfl rfl rfl ?_
                refine zRv rfl rfl ?_
                exact k
              · replace k := ite_f h91 k
                refine kI ?_
                refine zPs (pc1 := 98) (l1 := [(8, .int (0 : Int32)), (7, .int (5 : Int32)), (0, .ref 292), (1, .int x0), (2, .int x1), (3, .int x2), (4, .int x3), (5, .int x4), (6, .int x5)]) (st1 := [.int (0 : Int32), .int (0 : Int32), .int (4 : Int32), .int x0, .ref 292]) 3 rfl rfl rfl ?_
                refine zCv (mj := 111) (k := 292) (n := 4) rfl rfl rfl rfl (by decide) rfl rfl rfl rfl rfl rfl ?_
                refine c_111n4 ?_
                refine kI ?_
                refine zZ (z' := (up2 l 292 41 (1 : Int32))) rfl ?_
                refine zPs (pc1 := 142) (l1 := [(8, .int (0 : Int32)), (7, .int (5 : Int32)), (0, .ref 292), (1, .int x0), (2, .int x1), (3, .int x2), (4, .int x3), (5, .int x4), (6, .int x5)]) (st1 := []) 1 rfl rfl rfl ?_
                refine zRv rfl rfl ?_
                exact k
            · replace k := ite_f h90 k
              refine kI ?_
              refine zPs (pc1 := 98) (l1 := [(8, .int (0 : Int32)), (7, .int (5 : Int32)), (0, .ref 292), (1, .int x0), (2, .int x1), (3, .int x2), (4, .int x3), (5, .int x4), (6, .int x5)]) (st1 := [.int (0 : Int32), .int (0 : Int32), .int (4 : Int32), .int x0, .ref 292]) 3 rfl rfl rfl ?_
              refine zCv (mj := 111) (k := 292) (n := 4) rfl rfl rfl rfl (by decide) rfl rfl rfl rfl rfl rfl ?_
              refine c_111n4 ?_
              refine kI ?_
              refine zZ (z' := (up2 l 292 41 (1 : Int32))) rfl ?_
              refine zPs (pc1 := 142) (l1 := [(8, .int (0 : Int32)), (7, .int (5 : Int32)), (0, .ref 292), (1, .int x0), (2, .int x1), (3, .int x2), (4, .int x3), (5, .int x4), (6, .int x5)]) (st1 := []) 1 rfl rfl rfl ?_
              refine zRv rfl rfl ?_
              exact k
          · replace k := ite_f h88 k
            refine kI ?_
            refine zPs (pc1 := 98) (l1 := [(8, .int (0 : Int32)), (7, .int (5 : Int32)), (0, .ref 292), (1, .int x0), (2, .int x1), (3, .int x2), (4, .int x3), (5, .int x4), (6, .int x5)]) (st1 := [.int (0 : Int32), .int (0 : Int32), .int (4 : Int32), .int x0, .ref 292]) 3 rfl rfl rfl ?_
            refine zCv (mj := 111) (k := 292) (n := 4) rfl rfl rfl rfl (by decide) rfl rfl rfl rfl rfl rfl ?_
            refine c_111n4 ?_
            refine kI ?_
            refine zZ (z' := (up2 l 292 41 (1 : Int32))) rfl ?_
            refine zPs (pc1 := 142) (l1 := [(8, .int (0 : Int32)), (7, .int (5 : Int32)), (0, .ref 292), (1, .int x0), (2, .int x1), (3, .int x2), (4, .int x3), (5, .int x4), (6, .int x5)]) (st1 := []) 1 rfl rfl rfl ?_
            refine zRv rfl rfl ?_
            exact k
      · replace k := ite_f h73 k
        refine kI ?_
        refine zPs (pc1 := 69) (l1 := [(8, .int (0 : Int32)), (7, .int (5 : Int32)), (0, .ref 292), (1, .int x0), (2, .int x1), (3, .int x2), (4, .int x3), (5, .int x4), (6, .int x5)]) (st1 := [.int x0, .int (4 : Int32), .int x0, .ref 292]) 7 rfl rfl rfl ?_
        refine zCs (mj := 108) rfl rfl rfl rfl rfl rfl rfl rfl ?_
        refine d_108 (fun h92 => ?_) (fun h92 => ?_)
        · replace k := ite_t h92 k
          have h93 := isN_lt h92
          refine kI ?_
          refine zPs (pc1 := 77) (l1 := [(8, .int (0 : Int32)), (7, .int (5 : Int32)), (0, .ref 292), (1, .int x0), (2, .int x1), (3, .int x2), (4, .int x3), (5, .int x4), (6, .int x5)]) (st1 := [.int x4, .int (4 : Int32), .int x0, .ref 292]) 2 rfl rfl rfl ?_
          refine zCs (mj := 109) rfl rfl rfl rfl rfl rfl rfl rfl ?_
          refine c_109 (fun h94 => ?_) (fun h94 => ?_)
          · replace k := ite_t h94 k
            refine kI ?_
            refine zPs (pc1 := 85) (l1 := [(8, .int (0 : Int32)), (7, .int (5 : Int32)), (0, .ref 292), (1, .int x0), (2, .int x1), (3, .int x2), (4, .int x3), (5, .int x4), (6, .int x5)]) (st1 := [.int x5, .int (4 : Int32), .int x0, .ref 292]) 2 rfl rfl rfl ?_
            refine zCs (mj := 109) rfl rfl rfl rfl rfl rfl rfl rfl ?_
            refine c_109 (fun h95 => ?_) (fun h95 => ?_)
            · replace k := ite_t h95 k
              refine kI ?_
              refine zPs (pc1 := 98) (l1 := [(8, .int (0 : Int32)), (7, .int (5 : Int32)), (0, .ref 292), (1, .int x0), (2, .int x1), (3, .int x2), (4, .int x3), (5, .int x4), (6, .int x5)]) (st1 := [.int (0 : Int32), .int (1 : Int32), .int (4 : Int32), .int x0, .ref 292]) 4 rfl rfl rfl ?_
              refine zCv (mj := 111) (k := 292) (n := 4) rfl rfl rfl rfl (by decide) rfl rfl rfl rfl rfl rfl ?_
              refine c_111b4 ?_
              refine kI ?_
              refine zZ (z' := (up2 l 292 41 (2 : Int32))) rfl ?_
              refine zPs (pc1 := 142) (l1 := [(8, .int (0 : Int32)), (7, .int (5 : Int32)), (0, .ref 292), (1, .int x0), (2, .int x1), (3, .int x2), (4, .int x3), (5, .int x4), (6, .int x5)]) (st1 := []) 1 rfl rfl rfl ?_
              refine zRv rfl rfl ?_
              exact k
            · replace k := ite_f h95 k
              refine kI ?_
              refine zPs (pc1 := 98) (l1 := [(8, .int (0 : Int32)), (7, .int (5 : Int32)), (0, .ref 292), (1, .int x0), (2, .int x1), (3, .int x2), (4, .int x3), (5, .int x4), (6, .int x5)]) (st1 := [.int (0 : Int32), .int (0 : Int32), .int (4 : Int32), .int x0, .ref 292]) 3 rfl rfl rfl ?_
              refine zCv (mj := 111) (k := 292) (n := 4) rfl rfl rfl rfl (by decide) rfl rfl rfl rfl rfl rfl ?_
              refine c_111n4 ?_
              refine kI ?_
              refine zZ (z' := (up2 l 292 41 (1 : Int32))) rfl ?_
              refine zPs (pc1 := 142) (l1 := [(8, .int (0 : Int32)), (7, .int (5 : Int32)), (0, .ref 292), (1, .int x0), (2, .int x1), (3, .int x2), (4, .int x3), (5, .int x4), (6, .int x5)]) (st1 := []) 1 rfl rfl rfl ?_
              refine zRv rfl rfl ?_
              exact k
          · replace k := ite_f h94 k
            refine kI ?_
            refine zPs (pc1 := 98) (l1 := [(8, .int (0 : Int32)), (7, .int (5 : Int32)), (0, .ref 292), (1, .int x0), (2, .int x1), (3, .int x2), (4, .int x3), (5, .int x4), (6, .int x5)]) (st1 := [.int (0 : Int32), .int (0 : Int32), .int (4 : Int32), .int x0, .ref 292]) 3 rfl rfl rfl ?_
            refine zCv (mj := 111) (k := 292) (n := 4) rfl rfl rfl rfl (by decide) rfl rfl rfl rfl rfl rfl ?_
            refine c_111n4 ?_
            refine kI ?_
            refine zZ (z' := (up2 l 292 41 (1 : Int32))) rfl ?_
            refine zPs (pc1 := 142) (l1 := [(8, .int (0 : Int32)), (7, .int (5 : Int32)), (0, .ref 292), (1, .int x0), (2, .int x1), (3, .int x2), (4, .int x3), (5, .int x4), (6, .int x5)]) (st1 := []) 1 rfl rfl rfl ?_
            refine zRv rfl rfl ?_
            exact k
        · replace k := ite_f h92 k
          refine kI ?_
          refine zPs (pc1 := 98) (l1 := [(8, .int (0 : Int32)), (7, .int (5 : Int32)), (0, .ref 292), (1, .int x0), (2, .int x1), (3, .int x2), (4, .int x3), (5, .int x4), (6, .int x5)]) (st1 := [.int (0 : Int32), .int (0 : Int32), .int (4 : Int32), .int x0, .ref 292]) 3 rfl rfl rfl ?_
          refine zCv (mj := 111) (k := 292) (n := 4) rfl rfl rfl rfl (by decide) rfl rfl rfl rfl rfl rfl ?_
          refine c_111n4 ?_
          refine kI ?_
          refine zZ (z' := (up2 l 292 41 (1 : Int32))) rfl ?_
          refine zPs (pc1 := 142) (l1 := [(8, .int (0 : Int32)), (7, .int (5 : Int32)), (0, .ref 292), (1, .int x0), (2, .int x1), (3, .int x2), (4, .int x3), (5, .int x4), (6, .int x5)]) (st1 := []) 1 rfl rfl rfl ?_
          refine zRv rfl rfl ?_
          exact k
noncomputable def f_127 (n : Nat) (t : Nat) (l : Sg) : Int32 × Sg := (if openN (up2 l 292 41 (0 : Int32)) t then ((1 : Int32), (up2 l 292 41 (0 : Int32))) else ((0 : Int32), (up2 l 292 41 (0 : Int32))))
theorem e_127 {l : Sg} {P : MO → Sg → Prop} {n : Nat}  {t : Nat} (hl : n ≤ 60) (htl : t ≤ 20000) (hCI : CZ l n t)  (k : Rk (Qb P) (f_127 n t l)) : Es true 127 [.ref 292] l P := by
  unfold f_127 at k
  refine Es.of ?_
  refine zPs (pc1 := 2) (l1 := [(0, .ref 292)]) (st1 := [.int (0 : Int32), .ref 292]) 2 rfl rfl rfl ?_
  refine zPutI (F := 292) (I := 41) rfl rfl icThr rfl ?_
  refine zPs (pc1 := 6) (l1 := [(0, .ref 292)]) (st1 := [.ref 292]) 1 rfl rfl rfl ?_
  refine zCv (mj := 126) (k := 292) (n := 0) rfl rfl rfl rfl (by decide) rfl rfl rfl rfl rfl rfl ?_
  refine c_126 htl (CZ_thr hCI).2.1 (fun h1 => ?_) (fun h1 => ?_)
  · replace k := ite_t h1 k
    refine kI ?_
    refine zRz rfl rfl (Or.inr rfl) ?_
    exact k
  · replace k := ite_f h1 k
    refine kI ?_
    refine zRz rfl rfl (Or.inl rfl) ?_
    exact k
theorem d_114 {z : Sg} {P : MO → Sg → Prop} {m : Nat} {its x v : Int32} (hx : i32 m = x) (hm : m < 30) (hq : (z 306 m).toNatClampNeg ≤ 10 ∧ z 306 m = i32 (z 306 m).toNatClampNeg) (hv : oI (10 * m) (pkey z m its (z 306 m).toNatClampNeg) = v) (k : P (.inl (some (.int v))) z) : Es true 114 [.ref 292, .int x, .int its] z P := by
  subst hx
  subst hv
  refine c_114 hm hq.1 hq.2 (fun t h _ => ?_) (fun h => ?_)
  · rw [h] at k; exact k
  · rw [h] at k; exact k
theorem k10 {m q : Nat} {x y : Int32} (h1 : i32 m = x) (h2 : y = i32 q) : i32 (10 * m + q) = 10 * x + y := by
  subst h1
  subst h2
  rw [show (10 : Int32) = i32 10 from rfl, i32_mul, i32_add]
theorem k10b {q : Nat} {y : Int32} (h1 : q ≤ 10) (h2 : y = i32 q) (h3 : ¬ y = 10) : q < 10 := by
  rcases Nat.lt_or_ge q 10 with h | h
  · exact h
  · have : q = 10 := by omega
    subst this
    exact absurd h2 h3
theorem qk_up {z : Sg} {v : Int32} (h : ∀ m, m < 30 → (z 306 m).toNatClampNeg ≤ 10 ∧ z 306 m = i32 (z 306 m).toNatClampNeg) : ∀ m, m < 30 → ((up2 z 292 41 v) 306 m).toNatClampNeg ≤ 10 ∧ (up2 z 292 41 v) 306 m = i32 ((up2 z 292 41 v) 306 m).toNatClampNeg := fun m hm => by simpa [up2] using h m hm
theorem pk_thr {z : Sg} {v its : Int32} {m q : Nat} : pkey (up2 z 292 41 v) m its q = pkey z m its q := by
  induction q with
  | zero => rfl
  | succ q ih => unfold pkey; rw [ih]; simp [up2]
noncomputable def f_115 (n : Nat) (t : Nat) (x0 : Int32) (x1 : Int32) (x2 : Int32) (l : Sg) : Int32 × Sg := (if (10 : Int32) ≤ x1 ∧ x1 ≤ (19 : Int32) then (if isN x0 then (if isT x2 then (if quiet (up2 l 292 41 (0 : Int32)) n then (if ¬ l 296 x0.toNatClampNeg = (2 : Int32) then ((0 : Int32), (up2 (up2 l 292 41 (0 : Int32)) 292 41 (3 : Int32))) else (if 0 ≤ (oI (10 * x0.toNatClampNeg) (pkey l x0.toNatClampNeg x1 (l 306 x0.toNatClampNeg).toNatClampNeg)) then (l 306 x0.toNatClampNeg, (up2 (up2 (up2 (up2 l 292 41 (0 : Int32)) 292 41 (0 : Int32)) 307 ((oI (10 * x0.toNatClampNeg) (pkey l x0.toNatClampNeg x1 (l 306 x0.toNatClampNeg).toNatClampNeg)).toNatClampNeg) x1) 308 ((oI (10 * x0.toNatClampNeg) (pkey l x0.toNatClampNeg x1 (l 306 x0.toNatClampNeg).toNatClampNeg)).toNatClampNeg) x2)) else (if ¬ l 306 x0.toNatClampNeg = (10 : Int32) then ((l 306 x0.toNatClampNeg + (1 : Int32)), (up2 (up2 (up2 (up2 (up2 l 292 41 (0 : Int32)) 292 41 (0 : Int32)) 306 x0.toNatClampNeg (l 306 x0.toNatClampNeg + (1 : Int32))) 307 (10 * x0.toNatClampNeg + (l 306 x0.toNatClampNeg).toNatClampNeg) x1) 308 (10 * x0.toNatClampNeg + (l 306 x0.toNatClampNeg).toNatClampNeg) x2)) else ((0 : Int32), (up2 (up2 l 292 41 (0 : Int32)) 292 41 (3 : Int32)))))) else ((0 : Int32), (up2 (up2 l 292 41 (0 : Int32)) 292 41 (3 : Int32)))) else ((0 : Int32), (up2 l 292 41 (1 : Int32)))) else ((0 : Int32), (up2 l 292 41 (1 : Int32)))) else (if (100 : Int32) ≤ x1 ∧ x1 ≤ (199 : Int32) then (if isN x0 then (if isT x2 then (if quiet (up2 l 292 41 (0 : Int32)) n then (if ¬ l 296 x0.toNatClampNeg = (2 : Int32) then ((0 : Int32), (up2 (up2 l 292 41 (0 : Int32)) 292 41 (3 : Int32))) else (if 0 ≤ (oI (10 * x0.toNatClampNeg) (pkey l x0.toNatClampNeg x1 (l 306 x0.toNatClampNeg).toNatClampNeg)) then (l 306 x0.toNatClampNeg, (up2 (up2 (up2 (up2 l 292 41 (0 : Int32)) 292 41 (0 : Int32)) 307 ((oI (10 * x0.toNatClampNeg) (pkey l x0.toNatClampNeg x1 (l 306 x0.toNatClampNeg).toNatClampNeg)).toNatClampNeg) x1) 308 ((oI (10 * x0.toNatClampNeg) (pkey l x0.toNatClampNeg x1 (l 306 x0.toNatClampNeg).toNatClampNeg)).toNatClampNeg) x2)) else (if ¬ l 306 x0.toNatClampNeg = (10 : Int32) then ((l 306 x0.toNatClampNeg + (1 : Int32)), (up2 (up2 (up2 (up2 (up2 l 292 41 (0 : Int32)) 292 41 (0 : Int32)) 306 x0.toNatClampNeg (l 306 x0.toNatClampNeg + (1 : Int32))) 307 (10 * x0.toNatClampNeg + (l 306 x0.toNatClampNeg).toNatClampNeg) x1) 308 (10 * x0.toNatClampNeg + (l 306 x0.toNatClampNeg).toNatClampNeg) x2)) else ((0 : Int32), (up2 (up2 l 292 41 (0 : Int32)) 292 41 (3 : Int32)))))) else ((0 : Int32), (up2 (up2 l 292 41 (0 : Int32)) 292 41 (3 : Int32)))) else ((0 : Int32), (up2 l 292 41 (1 : Int32)))) else ((0 : Int32), (up2 l 292 41 (1 : Int32)))) else (if (1000 : Int32) ≤ x1 ∧ x1 ≤ (1999 : Int32) then (if isN x0 then (if isT x2 then (if quiet (up2 l 292 41 (0 : Int32)) n then (if ¬ l 296 x0.toNatClampNeg = (2 : Int32) then ((0 : Int32), (up2 (up2 l 292 41 (0 : Int32)) 292 41 (3 : Int32))) else (if 0 ≤ (oI (10 * x0.toNatClampNeg) (pkey l x0.toNatClampNeg x1 (l 306 x0.toNatClampNeg).toNatClampNeg)) then (l 306 x0.toNatClampNeg, (up2 (up2 (up2 (up2 l 292 41 (0 : Int32)) 292 41 (0 : Int32)) 307 ((oI (10 * x0.toNatClampNeg) (pkey l x0.toNatClampNeg x1 (l 306 x0.toNatClampNeg).toNatClampNeg)).toNatClampNeg) x1) 308 ((oI (10 * x0.toNatClampNeg) (pkey l x0.toNatClampNeg x1 (l 306 x0.toNatClampNeg).toNatClampNeg)).toNatClampNeg) x2)) else (if ¬ l 306 x0.toNatClampNeg = (10 : Int32) then ((l 306 x0.toNatClampNeg + (1 : Int32)), (up2 (up2 (up2 (up2 (up2 l 292 41 (0 : Int32)) 292 41 (0 : Int32)) 306 x0.toNatClampNeg (l 306 x0.toNatClampNeg + (1 : Int32))) 307 (10 * x0.toNatClampNeg + (l 306 x0.toNatClampNeg).toNatClampNeg) x1) 308 (10 * x0.toNatClampNeg + (l 306 x0.toNatClampNeg).toNatClampNeg) x2)) else ((0 : Int32), (up2 (up2 l 292 41 (0 : Int32)) 292 41 (3 : Int32)))))) else ((0 : Int32), (up2 (up2 l 292 41 (0 : Int32)) 292 41 (3 : Int32)))) else ((0 : Int32), (up2 l 292 41 (1 : Int32)))) else ((0 : Int32), (up2 l 292 41 (1 : Int32)))) else (if isN x0 then (if isT x2 then ((0 : Int32), (up2 l 292 41 (2 : Int32))) else ((0 : Int32), (up2 l 292 41 (1 : Int32)))) else ((0 : Int32), (up2 l 292 41 (1 : Int32)))))))
theorem e_115 {l : Sg} {P : MO → Sg → Prop} {n : Nat} {x0 : Int32} {x1 : Int32} {x2 : Int32} {t : Nat} (hl : n ≤ 60) (htl : t ≤ 20000) (hCI : CZ l n t)  (hq : ∀ m, m < 30 → (l 306 m).toNatClampNeg ≤ 10 ∧ l 306 m = i32 (l 306 m).toNatClampNeg) (k : Rk (Qb P) (f_115 n t x0 x1 x2 l)) : Es true 115 [.ref 292, .int x0, .int x1, .int x2] l P := by
  unfold f_115 at k
  refine Es.of ?_
  refine zPs (pc1 := 5) (l1 := [(0, .ref 292), (1, .int x0), (2, .int x1), (3, .int x2)]) (st1 := [.int (19 : Int32), .int (10 : Int32), .int x1]) 3 rfl rfl rfl ?_
  refine zCs (mj := 107) rfl rfl rfl rfl rfl rfl rfl rfl ?_
  refine d_107 (fun h1 => ?_) (fun h1 => ?_)
  · replace k := ite_t h1 k
    have h2 := rng_le (b := 19) (by decide) (Int32.le_trans (by decide) h1.1) h1.2
    refine kI ?_
    refine zPs (pc1 := 45) (l1 := [(4, .int (1 : Int32)), (0, .ref 292), (1, .int x0), (2, .int x1), (3, .int x2)]) (st1 := [.int x0, .ref 292]) 6 rfl rfl rfl ?_
    refine zCs (mj := 108) rfl rfl rfl rfl rfl rfl rfl rfl ?_
    refine d_108 (fun h3 => ?_) (fun h3 => ?_)
    · replace k := ite_t h3 k
      have h4 := isN_lt h3
      refine kI ?_
      refine zPs (pc1 := 52) (l1 := [(4, .int (1 : Int32)), (0, .ref 292), (1, .int x0), (2, .int x1), (3, .int x2)]) (st1 := [.int x2, .ref 292]) 2 rfl rfl rfl ?_
      refine zCs (mj := 109) rfl rfl rfl rfl rfl rfl rfl rfl ?_
      refine c_109 (fun h5 => ?_) (fun h5 => ?_)
      · replace k := ite_t h5 k
        refine kI ?_
        refine zPs (pc1 := 72) (l1 := [(4, .int (1 : Int32)), (0, .ref 292), (1, .int x0), (2, .int x1), (3, .int x2)]) (st1 := [.int (0 : Int32), .ref 292]) 5 rfl rfl rfl ?_
        refine zPutI (F := 292) (I := 41) rfl rfl icThr rfl ?_
        refine zPs (pc1 := 76) (l1 := [(4, .int (1 : Int32)), (0, .ref 292), (1, .int x0), (2, .int x1), (3, .int x2)]) (st1 := [.ref 292]) 1 rfl rfl rfl ?_
        refine zGetI (F := 292) (I := 41) (v := (0 : Int32)) rfl rfl icThr (by simp [up2]) ?_
        refine zPs (pc1 := 86) (l1 := [(4, .int (1 : Int32)), (0, .ref 292), (1, .int x0), (2, .int x1), (3, .int x2)]) (st1 := [.ref 292, .ref 292]) 3 rfl rfl rfl ?_
        refine zCv (mj := 110) (k := 292) (n := 0) rfl rfl rfl rfl (by decide) rfl rfl rfl rfl rfl rfl ?_
        refine c_110 hl (CZ_thr hCI).1 (fun h6 => ?_) (fun h6 => ?_)
        · replace k := ite_t h6 k
          refine kI ?_
          refine zPs (pc1 := 93) (l1 := [(4, .int (1 : Int32)), (0, .ref 292), (1, .int x0), (2, .int x1), (3, .int x2)]) (st1 := [.ref 292, .ref 292]) 2 rfl rfl rfl ?_
          refine zGetR (r := 296) rfl rfl ⟨by decide, rfl, by decide, rfl⟩ ?_
          refine zPs (pc1 := 97) (l1 := [(4, .int (1 : Int32)), (0, .ref 292), (1, .int x0), (2, .int x1), (3, .int x2)]) (st1 := [.int x0, .ref 296, .ref 292]) 1 rfl rfl rfl ?_
          refine zIalE (n := x0.toNatClampNeg) (v := l 296 x0.toNatClampNeg) h4.2 rfl (icM (k := 296) (L := 30) rfl h4.1) rfl ?_
          refine zPs (pc1 := 99) (l1 := [(4, .int (1 : Int32)), (0, .ref 292), (1, .int x0), (2, .int x1), (3, .int x2)]) (st1 := [.int (2 : Int32), .int (l 296 x0.toNatClampNeg), .ref 292]) 1 rfl rfl rfl ?_
          refine zCn rfl (fun h7 => ?_) (fun h7 => ?_)
          · replace k := ite_t h7 k
            refine zPs (pc1 := 127) (l1 := [(4, .int (1 : Int32)), (0, .ref 292), (1, .int x0), (2, .int x1), (3, .int x2)]) (st1 := [.int (3 : Int32), .ref 292]) 2 rfl rfl rfl ?_
            refine zPutI (F := 292) (I := 41) rfl rfl icThr rfl ?_
            refine zPs (pc1 := 131) (l1 := [(4, .int (1 : Int32)), (0, .ref 292), (1, .int x0), (2, .int x1), (3, .int x2)]) (st1 := [.ref 292]) 1 rfl rfl rfl ?_
            refine zGetI (F := 292) (I := 41) (v := (3 : Int32)) rfl rfl icThr (by simp [up2]) ?_
            refine zPs (pc1 := 138) (l1 := [(4, .int (1 : Int32)), (0, .ref 292), (1, .int x0), (2, .int x1), (3, .int x2)]) (st1 := [.int (0 : Int32)]) 2 rfl rfl rfl ?_
            refine zRi rfl rfl ?_
            exact k
          · replace k := ite_f (not_not_intro h7) k
            refine zPs (pc1 := 105) (l1 := [(4, .int (1 : Int32)), (0, .ref 292), (1, .int x0), (2, .int x1), (3, .int x2)]) (st1 := [.int x1, .int x0, .ref 292, .ref 292]) 3 rfl rfl rfl ?_
            refine zCv (mj := 114) (k := 292) (n := 2) rfl rfl rfl rfl (by decide) rfl rfl rfl rfl rfl rfl ?_
            refine d_114 h4.2 h4.1 ((qk_up hq) _ h4.1) (v := (oI (10 * x0.toNatClampNeg) (pkey l x0.toNatClampNeg x1 (l 306 x0.toNatClampNeg).toNatClampNeg))) (by simp [pk_thr, up2]) ?_
            refine kI ?_
            refine zIfge rfl (fun h8 => ?_) (fun h8 => ?_)
            · replace k := ite_t h8 k
              have h9 := pk_rng (b := 10 * x0.toNatClampNeg) (q := (l 306 x0.toNatClampNeg).toNatClampNeg) (by have := (hq _ h4.1).1; have := h4.1; omega) (fun k h => (pkey_lt h).1) (Int32.not_lt.mpr h8)
              refine zPs (pc1 := 127) (l1 := [(4, .int (1 : Int32)), (0, .ref 292), (1, .int x0), (2, .int x1), (3, .int x2)]) (st1 := [.int (0 : Int32), .ref 292]) 1 rfl rfl rfl ?_
              refine zPutI (F := 292) (I := 41) rfl rfl icThr rfl ?_
              refine zPs (pc1 := 131) (l1 := [(4, .int (1 : Int32)), (0, .ref 292), (1, .int x0), (2, .int x1), (3, .int x2)]) (st1 := [.ref 292]) 1 rfl rfl rfl ?_
              refine zGetI (F := 292) (I := 41) (v := (0 : Int32)) rfl rfl icThr (by simp [up2]) ?_
              refine zPs (pc1 := 142) (l1 := [(4, .int (1 : Int32)), (0, .ref 292), (1, .int x0), (2, .int x1), (3, .int x2)]) (st1 := [.int x1, .int x0, .ref 292]) 4 rfl rfl rfl ?_
              refine zCv (mj := 114) (k := 292) (n := 2) rfl rfl rfl rfl (by decide) rfl rfl rfl rfl rfl rfl ?_
              refine d_114 h4.2 h4.1 ((qk_up (qk_up hq)) _ h4.1) (v := (oI (10 * x0.toNatClampNeg) (pkey l x0.toNatClampNeg x1 (l 306 x0.toNatClampNeg).toNatClampNeg))) (by simp [pk_thr, up2]) ?_
              refine kI ?_
              refine zPs (pc1 := 149) (l1 := [(5, .int (oI (10 * x0.toNatClampNeg) (pkey l x0.toNatClampNeg x1 (l 306 x0.toNatClampNeg).toNatClampNeg))), (4, .int (1 : Int32)), (0, .ref 292), (1, .int x0), (2, .int x1), (3, .int x2)]) (st1 := [.int (oI (10 * x0.toNatClampNeg) (pkey l x0.toNatClampNeg x1 (l 306 x0.toNatClampNeg).toNatClampNeg))]) 2 rfl rfl rfl ?_
              refine zIfge rfl (fun h10 => ?_) (fun h10 => absurd h8 h10)
              refine zPs (pc1 := 176) (l1 := [(5, .int (oI (10 * x0.toNatClampNeg) (pkey l x0.toNatClampNeg x1 (l 306 x0.toNatClampNeg).toNatClampNeg))), (4, .int (1 : Int32)), (0, .ref 292), (1, .int x0), (2, .int x1), (3, .int x2)]) (st1 := [.ref 292]) 1 rfl rfl rfl ?_
              refine zGetR (r := 307) rfl rfl ⟨by decide, rfl, by decide, rfl⟩ ?_
              refine zPs (pc1 := 182) (l1 := [(5, .int (oI (10 * x0.toNatClampNeg) (pkey l x0.toNatClampNeg x1 (l 306 x0.toNatClampNeg).toNatClampNeg))), (4, .int (1 : Int32)), (0, .ref 292), (1, .int x0), (2, .int x1), (3, .int x2)]) (st1 := [.int x1, .int (oI (10 * x0.toNatClampNeg) (pkey l x0.toNatClampNeg x1 (l 306 x0.toNatClampNeg).toNatClampNeg)), .ref 307]) 2 rfl rfl rfl ?_
              refine zIasE (n := (oI (10 * x0.toNatClampNeg) (pkey l x0.toNatClampNeg x1 (l 306 x0.toNatClampNeg).toNatClampNeg)).toNatClampNeg) (F := 307) (I := (oI (10 * x0.toNatClampNeg) (pkey l x0.toNatClampNeg x1 (l 306 x0.toNatClampNeg).toNatClampNeg)).toNatClampNeg) h9.2 rfl (icM (k := 307) (L := 300) rfl h9.1) ?_
              refine zPs (pc1 := 184) (l1 := [(5, .int (oI (10 * x0.toNatClampNeg) (pkey l x0.toNatClampNeg x1 (l 306 x0.toNatClampNeg).toNatClampNeg))), (4, .int (1 : Int32)), (0, .ref 292), (1, .int x0), (2, .int x1), (3, .int x2)]) (st1 := [.ref 292]) 1 rfl rfl rfl ?_
              refine zGetR (r := 308) rfl rfl ⟨by decide, rfl, by decide, rfl⟩ ?_
              refine zPs (pc1 := 190) (l1 := [(5, .int (oI (10 * x0.toNatClampNeg) (pkey l x0.toNatClampNeg x1 (l 306 x0.toNatClampNeg).toNatClampNeg))), (4, .int (1 : Int32)), (0, .ref 292), (1, .int x0), (2, .int x1), (3, .int x2)]) (st1 := [.int x2, .int (oI (10 * x0.toNatClampNeg) (pkey l x0.toNatClampNeg x1 (l 306 x0.toNatClampNeg).toNatClampNeg)), .ref 308]) 2 rfl rfl rfl ?_
              refine zIasE (n := (oI (10 * x0.toNatClampNeg) (pkey l x0.toNatClampNeg x1 (l 306 x0.toNatClampNeg).toNatClampNeg)).toNatClampNeg) (F := 308) (I := (oI (10 * x0.toNatClampNeg) (pkey l x0.toNatClampNeg x1 (l 306 x0.toNatClampNeg).toNatClampNeg)).toNatClampNeg) h9.2 rfl (icM (k := 308) (L := 300) rfl h9.1) ?_
              refine zPs (pc1 := 192) (l1 := [(5, .int (oI (10 * x0.toNatClampNeg) (pkey l x0.toNatClampNeg x1 (l 306 x0.toNatClampNeg).toNatClampNeg))), (4, .int (1 : Int32)), (0, .ref 292), (1, .int x0), (2, .int x1), (3, .int x2)]) (st1 := [.ref 292]) 1 rfl rfl rfl ?_
              refine zGetR (r := 306) rfl rfl ⟨by decide, rfl, by decide, rfl⟩ ?_
              refine zPs (pc1 := 196) (l1 := [(5, .int (oI (10 * x0.toNatClampNeg) (pkey l x0.toNatClampNeg x1 (l 306 x0.toNatClampNeg).toNatClampNeg))), (4, .int (1 : Int32)), (0, .ref 292), (1, .int x0), (2, .int x1), (3, .int x2)]) (st1 := [.int x0, .ref 306]) 1 rfl rfl rfl ?_
              refine zIalE (n := x0.toNatClampNeg) (v := l 306 x0.toNatClampNeg) h4.2 rfl (icM (k := 306) (L := 30) rfl h4.1) rfl ?_
              refine zRi rfl rfl ?_
              exact k
            · replace k := ite_f h8 k
              refine zPs (pc1 := 112) (l1 := [(4, .int (1 : Int32)), (0, .ref 292), (1, .int x0), (2, .int x1), (3, .int x2)]) (st1 := [.ref 292, .ref 292]) 1 rfl rfl rfl ?_
              refine zGetR (r := 306) rfl rfl ⟨by decide, rfl, by decide, rfl⟩ ?_
              refine zPs (pc1 := 116) (l1 := [(4, .int (1 : Int32)), (0, .ref 292), (1, .int x0), (2, .int x1), (3, .int x2)]) (st1 := [.int x0, .ref 306, .ref 292]) 1 rfl rfl rfl ?_
              refine zIalE (n := x0.toNatClampNeg) (v := l 306 x0.toNatClampNeg) h4.2 rfl (icM (k := 306) (L := 30) rfl h4.1) rfl ?_
              refine zPs (pc1 := 119) (l1 := [(4, .int (1 : Int32)), (0, .ref 292), (1, .int x0), (2, .int x1), (3, .int x2)]) (st1 := [.int (10 : Int32), .int (l 306 x0.toNatClampNeg), .ref 292]) 1 rfl rfl rfl ?_
              refine zCn rfl (fun h11 => ?_) (fun h11 => ?_)
              · replace k := ite_t h11 k
                have h12 := k10b (hq _ h4.1).1 (hq _ h4.1).2 h11
                refine zPs (pc1 := 127) (l1 := [(4, .int (1 : Int32)), (0, .ref 292), (1, .int x0), (2, .int x1), (3, .int x2)]) (st1 := [.int (0 : Int32), .ref 292]) 1 rfl rfl rfl ?_
                refine zPutI (F := 292) (I := 41) rfl rfl icThr rfl ?_
                refine zPs (pc1 := 131) (l1 := [(4, .int (1 : Int32)), (0, .ref 292), (1, .int x0), (2, .int x1), (3, .int x2)]) (st1 := [.ref 292]) 1 rfl rfl rfl ?_
                refine zGetI (F := 292) (I := 41) (v := (0 : Int32)) rfl rfl icThr (by simp [up2]) ?_
                refine zPs (pc1 := 142) (l1 := [(4, .int (1 : Int32)), (0, .ref 292), (1, .int x0), (2, .int x1), (3, .int x2)]) (st1 := [.int x1, .int x0, .ref 292]) 4 rfl rfl rfl ?_
                refine zCv (mj := 114) (k := 292) (n := 2) rfl rfl rfl rfl (by decide) rfl rfl rfl rfl rfl rfl ?_
                refine d_114 h4.2 h4.1 ((qk_up (qk_up hq)) _ h4.1) (v := (oI (10 * x0.toNatClampNeg) (pkey l x0.toNatClampNeg x1 (l 306 x0.toNatClampNeg).toNatClampNeg))) (by simp [pk_thr, up2]) ?_
                refine kI ?_
                refine zPs (pc1 := 149) (l1 := [(5, .int (oI (10 * x0.toNatClampNeg) (pkey l x0.toNatClampNeg x1 (l 306 x0.toNatClampNeg).toNatClampNeg))), (4, .int (1 : Int32)), (0, .ref 292), (1, .int x0), (2, .int x1), (3, .int x2)]) (st1 := [.int (oI (10 * x0.toNatClampNeg) (pkey l x0.toNatClampNeg x1 (l 306 x0.toNatClampNeg).toNatClampNeg))]) 2 rfl rfl rfl ?_
                refine zIfge rfl (fun h13 => absurd h13 h8) (fun h13 => ?_)
                refine zPs (pc1 := 157) (l1 := [(5, .int (oI (10 * x0.toNatClampNeg) (pkey l x0.toNatClampNeg x1 (l 306 x0.toNatClampNeg).toNatClampNeg))), (4, .int (1 : Int32)), (0, .ref 292), (1, .int x0), (2, .int x1), (3, .int x2)]) (st1 := [.ref 292, .int ((10 : Int32) * x0)]) 4 rfl rfl rfl ?_
                refine zGetR (r := 306) rfl rfl ⟨by decide, rfl, by decide, rfl⟩ ?_
                refine zPs (pc1 := 161) (l1 := [(5, .int (oI (10 * x0.toNatClampNeg) (pkey l x0.toNatClampNeg x1 (l 306 x0.toNatClampNeg).toNatClampNeg))), (4, .int (1 : Int32)), (0, .ref 292), (1, .int x0), (2, .int x1), (3, .int x2)]) (st1 := [.int x0, .ref 306, .int ((10 : Int32) * x0)]) 1 rfl rfl rfl ?_
                refine zIalE (n := x0.toNatClampNeg) (v := l 306 x0.toNatClampNeg) h4.2 rfl (icM (k := 306) (L := 30) rfl h4.1) rfl ?_
                refine zPs (pc1 := 166) (l1 := [(5, .int (((10 : Int32) * x0) + l 306 x0.toNatClampNeg)), (4, .int (1 : Int32)), (0, .ref 292), (1, .int x0), (2, .int x1), (3, .int x2)]) (st1 := [.ref 292]) 3 rfl rfl rfl ?_
                refine zGetR (r := 306) rfl rfl ⟨by decide, rfl, by decide, rfl⟩ ?_
                refine zPs (pc1 := 171) (l1 := [(5, .int (((10 : Int32) * x0) + l 306 x0.toNatClampNeg)), (4, .int (1 : Int32)), (0, .ref 292), (1, .int x0), (2, .int x1), (3, .int x2)]) (st1 := [.int x0, .ref 306, .int x0, .ref 306]) 2 rfl rfl rfl ?_
                refine zIalE (n := x0.toNatClampNeg) (v := l 306 x0.toNatClampNeg) h4.2 rfl (icM (k := 306) (L := 30) rfl h4.1) rfl ?_
                refine zPs (pc1 := 174) (l1 := [(5, .int (((10 : Int32) * x0) + l 306 x0.toNatClampNeg)), (4, .int (1 : Int32)), (0, .ref 292), (1, .int x0), (2, .int x1), (3, .int x2)]) (st1 := [.int (l 306 x0.toNatClampNeg + (1 : Int32)), .int x0, .ref 306]) 2 rfl rfl rfl ?_
                refine zIasE (n := x0.toNatClampNeg) (F := 306) (I := x0.toNatClampNeg) h4.2 rfl (icM (k := 306) (L := 30) rfl h4.1) ?_
                refine zPs (pc1 := 176) (l1 := [(5, .int (((10 : Int32) * x0) + l 306 x0.toNatClampNeg)), (4, .int (1 : Int32)), (0, .ref 292), (1, .int x0), (2, .int x1), (3, .int x2)]) (st1 := [.ref 292]) 1 rfl rfl rfl ?_
                refine zGetR (r := 307) rfl rfl ⟨by decide, rfl, by decide, rfl⟩ ?_
                refine zPs (pc1 := 182) (l1 := [(5, .int (((10 : Int32) * x0) + l 306 x0.toNatClampNeg)), (4, .int (1 : Int32)), (0, .ref 292), (1, .int x0), (2, .int x1), (3, .int x2)]) (st1 := [.int x1, .int (((10 : Int32) * x0) + l 306 x0.toNatClampNeg), .ref 307]) 2 rfl rfl rfl ?_
                refine zIasE (n := 10 * x0.toNatClampNeg + (l 306 x0.toNatClampNeg).toNatClampNeg) (F := 307) (I := 10 * x0.toNatClampNeg + (l 306 x0.toNatClampNeg).toNatClampNeg) (k10 h4.2 (hq _ h4.1).2) rfl (icM (k := 307) (L := 300) rfl (by have := h12; have := h4.1; omega)) ?_
                refine zPs (pc1 := 184) (l1 := [(5, .int (((10 : Int32) * x0) + l 306 x0.toNatClampNeg)), (4, .int (1 : Int32)), (0, .ref 292), (1, .int x0), (2, .int x1), (3, .int x2)]) (st1 := [.ref 292]) 1 rfl rfl rfl ?_
                refine zGetR (r := 308) rfl rfl ⟨by decide, rfl, by decide, rfl⟩ ?_
                refine zPs (pc1 := 190) (l1 := [(5, .int (((10 : Int32) * x0) + l 306 x0.toNatClampNeg)), (4, .int (1 : Int32)), (0, .ref 292), (1, .int x0), (2, .int x1), (3, .int x2)]) (st1 := [.int x2, .int (((10 : Int32) * x0) + l 306 x0.toNatClampNeg), .ref 308]) 2 rfl rfl rfl ?_
                refine zIasE (n := 10 * x0.toNatClampNeg + (l 306 x0.toNatClampNeg).toNatClampNeg) (F := 308) (I := 10 * x0.toNatClampNeg + (l 306 x0.toNatClampNeg).toNatClampNeg) (k10 h4.2 (hq _ h4.1).2) rfl (icM (k := 308) (L := 300) rfl (by have := h12; have := h4.1; omega)) ?_
                refine zPs (pc1 := 192) (l1 := [(5, .int (((10 : Int32) * x0) + l 306 x0.toNatClampNeg)), (4, .int (1 : Int32)), (0, .ref 292), (1, .int x0), (2, .int x1), (3, .int x2)]) (st1 := [.ref 292]) 1 rfl rfl rfl ?_
                refine zGetR (r := 306) rfl rfl ⟨by decide, rfl, by decide, rfl⟩ ?_
                refine zPs (pc1 := 196) (l1 := [(5, .int (((10 : Int32) * x0) + l 306 x0.toNatClampNeg)), (4, .int (1 : Int32)), (0, .ref 292), (1, .int x0), (2, .int x1), (3, .int x2)]) (st1 := [.int x0, .ref 306]) 1 rfl rfl rfl ?_
                refine zIalE (n := x0.toNatClampNeg) (v := (l 306 x0.toNatClampNeg + (1 : Int32))) h4.2 rfl (icM (k := 306) (L := 30) rfl h4.1) (by simp [up2]) ?_
                refine zRi rfl rfl ?_
                exact k
              · replace k := ite_f (not_not_intro h11) k
                refine zPs (pc1 := 127) (l1 := [(4, .int (1 : Int32)), (0, .ref 292), (1, .int x0), (2, .int x1), (3, .int x2)]) (st1 := [.int (3 : Int32), .ref 292]) 2 rfl rfl rfl ?_
                refine zPutI (F := 292) (I := 41) rfl rfl icThr rfl ?_
                refine zPs (pc1 := 131) (l1 := [(4, .int (1 : Int32)), (0, .ref 292), (1, .int x0), (2, .int x1), (3, .int x2)]) (st1 := [.ref 292]) 1 rfl rfl rfl ?_
                refine zGetI (F := 292) (I := 41) (v := (3 : Int32)) rfl rfl icThr (by simp [up2]) ?_
                refine zPs (pc1 := 138) (l1 := [(4, .int (1 : Int32)), (0, .ref 292), (1, .int x0), (2, .int x1), (3, .int x2)]) (st1 := [.int (0 : Int32)]) 2 rfl rfl rfl ?_
                refine zRi rfl rfl ?_
                exact k
        · replace k := ite_f h6 k
          refine kI ?_
          refine zPs (pc1 := 127) (l1 := [(4, .int (1 : Int32)), (0, .ref 292), (1, .int x0), (2, .int x1), (3, .int x2)]) (st1 := [.int (3 : Int32), .ref 292]) 3 rfl rfl rfl ?_
          refine zPutI (F := 292) (I := 41) rfl rfl icThr rfl ?_
          refine zPs (pc1 := 131) (l1 := [(4, .int (1 : Int32)), (0, .ref 292), (1, .int x0), (2, .int x1), (3, .int x2)]) (st1 := [.ref 292]) 1 rfl rfl rfl ?_
          refine zGetI (F := 292) (I := 41) (v := (3 : Int32)) rfl rfl icThr (by simp [up2]) ?_
          refine zPs (pc1 := 138) (l1 := [(4, .int (1 : Int32)), (0, .ref 292), (1, .int x0), (2, .int x1), (3, .int x2)]) (st1 := [.int (0 : Int32)]) 2 rfl rfl rfl ?_
          refine zRi rfl rfl ?_
          exact k
      · replace k := ite_f h5 k
        refine kI ?_
        refine zPs (pc1 := 72) (l1 := [(4, .int (1 : Int32)), (0, .ref 292), (1, .int x0), (2, .int x1), (3, .int x2)]) (st1 := [.int (1 : Int32), .ref 292]) 3 rfl rfl rfl ?_
        refine zPutI (F := 292) (I := 41) rfl rfl icThr rfl ?_
        refine zPs (pc1 := 76) (l1 := [(4, .int (1 : Int32)), (0, .ref 292), (1, .int x0), (2, .int x1), (3, .int x2)]) (st1 := [.ref 292]) 1 rfl rfl rfl ?_
        refine zGetI (F := 292) (I := 41) (v := (1 : Int32)) rfl rfl icThr (by simp [up2]) ?_
        refine zPs (pc1 := 83) (l1 := [(4, .int (1 : Int32)), (0, .ref 292), (1, .int x0), (2, .int x1), (3, .int x2)]) (st1 := [.int (0 : Int32)]) 2 rfl rfl rfl ?_
        refine zRi rfl rfl ?_
        exact k
    · replace k := ite_f h3 k
      refine kI ?_
      refine zPs (pc1 := 72) (l1 := [(4, .int (1 : Int32)), (0, .ref 292), (1, .int x0), (2, .int x1), (3, .int x2)]) (st1 := [.int (1 : Int32), .ref 292]) 3 rfl rfl rfl ?_
      refine zPutI (F := 292) (I := 41) rfl rfl icThr rfl ?_
      refine zPs (pc1 := 76) (l1 := [(4, .int (1 : Int32)), (0, .ref 292), (1, .int x0), (2, .int x1), (3, .int x2)]) (st1 := [.ref 292]) 1 rfl rfl rfl ?_
      refine zGetI (F := 292) (I := 41) (v := (1 : Int32)) rfl rfl icThr (by simp [up2]) ?_
      refine zPs (pc1 := 83) (l1 := [(4, .int (1 : Int32)), (0, .ref 292), (1, .int x0), (2, .int x1), (3, .int x2)]) (st1 := [.int (0 : Int32)]) 2 rfl rfl rfl ?_
      refine zRi rfl rfl ?_
      exact k
  · replace k := ite_f h1 k
    refine kI ?_
    refine zPs (pc1 := 17) (l1 := [(0, .ref 292), (1, .int x0), (2, .int x1), (3, .int x2)]) (st1 := [.int (199 : Int32), .int (100 : Int32), .int x1]) 4 rfl rfl rfl ?_
    refine zCs (mj := 107) rfl rfl rfl rfl rfl rfl rfl rfl ?_
    refine d_107 (fun h14 => ?_) (fun h14 => ?_)
    · replace k := ite_t h14 k
      have h15 := rng_le (b := 199) (by decide) (Int32.le_trans (by decide) h14.1) h14.2
      refine kI ?_
      refine zPs (pc1 := 45) (l1 := [(4, .int (1 : Int32)), (0, .ref 292), (1, .int x0), (2, .int x1), (3, .int x2)]) (st1 := [.int x0, .ref 292]) 6 rfl rfl rfl ?_
      refine zCs (mj := 108) rfl rfl rfl rfl rfl rfl rfl rfl ?_
      refine d_108 (fun h16 => ?_) (fun h16 => ?_)
      · replace k := ite_t h16 k
        have h17 := isN_lt h16
        refine kI ?_
        refine zPs (pc1 := 52) (l1 := [(4, .int (1 : Int32)), (0, .ref 292), (1, .int x0), (2, .int x1), (3, .int x2)]) (st1 := [.int x2, .ref 292]) 2 rfl rfl rfl ?_
        refine zCs (mj := 109) rfl rfl rfl rfl rfl rfl rfl rfl ?_
        refine c_109 (fun h18 => ?_) (fun h18 => ?_)
        · replace k := ite_t h18 k
          refine kI ?_
          refine zPs (pc1 := 72) (l1 := [(4, .int (1 : Int32)), (0, .ref 292), (1, .int x0), (2, .int x1), (3, .int x2)]) (st1 := [.int (0 : Int32), .ref 292]) 5 rfl rfl rfl ?_
          refine zPutI (F := 292) (I := 41) rfl rfl icThr rfl ?_
          refine zPs (pc1 := 76) (l1 := [(4, .int (1 : Int32)), (0, .ref 292), (1, .int x0), (2, .int x1), (3, .int x2)]) (st1 := [.ref 292]) 1 rfl rfl rfl ?_
          refine zGetI (F := 292) (I := 41) (v := (0 : Int32)) rfl rfl icThr (by simp [up2]) ?_
          refine zPs (pc1 := 86) (l1 := [(4, .int (1 : Int32)), (0, .ref 292), (1, .int x0), (2, .int x1), (3, .int x2)]) (st1 := [.ref 292, .ref 292]) 3 rfl rfl rfl ?_
          refine zCv (mj := 110) (k := 292) (n := 0) rfl rfl rfl rfl (by decide) rfl rfl rfl rfl rfl rfl ?_
          refine c_110 hl (CZ_thr hCI).1 (fun h19 => ?_) (fun h19 => ?_)
          · replace k := ite_t h19 k
            refine kI ?_
            refine zPs (pc1 := 93) (l1 := [(4, .int (1 : Int32)), (0, .ref 292), (1, .int x0), (2, .int x1), (3, .int x2)]) (st1 := [.ref 292, .ref 292]) 2 rfl rfl rfl ?_
            refine zGetR (r := 296) rfl rfl ⟨by decide, rfl, by decide, rfl⟩ ?_
            refine zPs (pc1 := 97) (l1 := [(4, .int (1 : Int32)), (0, .ref 292), (1, .int x0), (2, .int x1), (3, .int x2)]) (st1 := [.int x0, .ref 296, .ref 292]) 1 rfl rfl rfl ?_
            refine zIalE (n := x0.toNatClampNeg) (v := l 296 x0.toNatClampNeg) h17.2 rfl (icM (k := 296) (L := 30) rfl h17.1) rfl ?_
            refine zPs (pc1 := 99) (l1 := [(4, .int (1 : Int32)), (0, .ref 292), (1, .int x0), (2, .int x1), (3, .int x2)]) (st1 := [.int (2 : Int32), .int (l 296 x0.toNatClampNeg), .ref 292]) 1 rfl rfl rfl ?_
            refine zCn rfl (fun h20 => ?_) (fun h20 => ?_)
            · replace k := ite_t h20 k
              refine zPs (pc1 := 127) (l1 := [(4, .int (1 : Int32)), (0, .ref 292), (1, .int x0), (2, .int x1), (3, .int x2)]) (st1 := [.int (3 : Int32), .ref 292]) 2 rfl rfl rfl ?_
              refine zPutI (F := 292) (I := 41) rfl rfl icThr rfl ?_
              refine zPs (pc1 := 131) (l1 := [(4, .int (1 : Int32)), (0, .ref 292), (1, .int x0), (2, .int x1), (3, .int x2)]) (st1 := [.ref 292]) 1 rfl rfl rfl ?_
              refine zGetI (F := 292) (I := 41) (v := (3 : Int32)) rfl rfl icThr (by simp [up2]) ?_
              refine zPs (pc1 := 138) (l1 := [(4, .int (1 : Int32)), (0, .ref 292), (1, .int x0), (2, .int x1), (3, .int x2)]) (st1 := [.int (0 : Int32)]) 2 rfl rfl rfl ?_
              refine zRi rfl rfl ?_
              exact k
            · replace k := ite_f (not_not_intro h20) k
              refine zPs (pc1 := 105) (l1 := [(4, .int (1 : Int32)), (0, .ref 292), (1, .int x0), (2, .int x1), (3, .int x2)]) (st1 := [.int x1, .int x0, .ref 292, .ref 292]) 3 rfl rfl rfl ?_
              refine zCv (mj := 114) (k := 292) (n := 2) rfl rfl rfl rfl (by decide) rfl rfl rfl rfl rfl rfl ?_
              refine d_114 h17.2 h17.1 ((qk_up hq) _ h17.1) (v := (oI (10 * x0.toNatClampNeg) (pkey l x0.toNatClampNeg x1 (l 306 x0.toNatClampNeg).toNatClampNeg))) (by simp [pk_thr, up2]) ?_
              refine kI ?_
              refine zIfge rfl (fun h21 => ?_) (fun h21 => ?_)
              · replace k := ite_t h21 k
                have h22 := pk_rng (b := 10 * x0.toNatClampNeg) (q := (l 306 x0.toNatClampNeg).toNatClampNeg) (by have := (hq _ h17.1).1; have := h17.1; omega) (fun k h => (pkey_lt h).1) (Int32.not_lt.mpr h21)
                refine zPs (pc1 := 127) (l1 := [(4, .int (1 : Int32)), (0, .ref 292), (1, .int x0), (2, .int x1), (3, .int x2)]) (st1 := [.int (0 : Int32), .ref 292]) 1 rfl rfl rfl ?_
                refine zPutI (F := 292) (I := 41) rfl rfl icThr rfl ?_
                refine zPs (pc1 := 131) (l1 := [(4, .int (1 : Int32)), (0, .ref 292), (1, .int x0), (2, .int x1), (3, .int x2)]) (st1 := [.ref 292]) 1 rfl rfl rfl ?_
                refine zGetI (F := 292) (I := 41) (v := (0 : Int32)) rfl rfl icThr (by simp [up2]) ?_
                refine zPs (pc1 := 142) (l1 := [(4, .int (1 : Int32)), (0, .ref 292), (1, .int x0), (2, .int x1), (3, .int x2)]) (st1 := [.int x1, .int x0, .ref 292]) 4 rfl rfl rfl ?_
                refine zCv (mj := 114) (k := 292) (n := 2) rfl rfl rfl rfl (by decide) rfl rfl rfl rfl rfl rfl ?_
                refine d_114 h17.2 h17.1 ((qk_up (qk_up hq)) _ h17.1) (v := (oI (10 * x0.toNatClampNeg) (pkey l x0.toNatClampNeg x1 (l 306 x0.toNatClampNeg).toNatClampNeg))) (by simp [pk_thr, up2]) ?_
                refine kI ?_
                refine zPs (pc1 := 149) (l1 := [(5, .int (oI (10 * x0.toNatClampNeg) (pkey l x0.toNatClampNeg x1 (l 306 x0.toNatClampNeg).toNatClampNeg))), (4, .int (1 : Int32)), (0, .ref 292), (1, .int x0), (2, .int x1), (3, .int x2)]) (st1 := [.int (oI (10 * x0.toNatClampNeg) (pkey l x0.toNatClampNeg x1 (l 306 x0.toNatClampNeg).toNatClampNeg))]) 2 rfl rfl rfl ?_
                refine zIfge rfl (fun h23 => ?_) (fun h23 => absurd h21 h23)
                refine zPs (pc1 := 176) (l1 := [(5, .int (oI (10 * x0.toNatClampNeg) (pkey l x0.toNatClampNeg x1 (l 306 x0.toNatClampNeg).toNatClampNeg))), (4, .int (1 : Int32)), (0, .ref 292), (1, .int x0), (2, .int x1), (3, .int x2)]) (st1 := [.ref 292]) 1 rfl rfl rfl ?_
                refine zGetR (r := 307) rfl rfl ⟨by decide, rfl, by decide, rfl⟩ ?_
                refine zPs (pc1 := 182) (l1 := [(5, .int (oI (10 * x0.toNatClampNeg) (pkey l x0.toNatClampNeg x1 (l 306 x0.toNatClampNeg).toNatClampNeg))), (4, .int (1 : Int32)), (0, .ref 292), (1, .int x0), (2, .int x1), (3, .int x2)]) (st1 := [.int x1, .int (oI (10 * x0.toNatClampNeg) (pkey l x0.toNatClampNeg x1 (l 306 x0.toNatClampNeg).toNatClampNeg)), .ref 307]) 2 rfl rfl rfl ?_
                refine zIasE (n := (oI (10 * x0.toNatClampNeg) (pkey l x0.toNatClampNeg x1 (l 306 x0.toNatClampNeg).toNatClampNeg)).toNatClampNeg) (F := 307) (I := (oI (10 * x0.toNatClampNeg) (pkey l x0.toNatClampNeg x1 (l 306 x0.toNatClampNeg).toNatClampNeg)).toNatClampNeg) h22.2 rfl (icM (k := 307) (L := 300) rfl h22.1) ?_
                refine zPs (pc1 := 184) (l1 := [(5, .int (oI (10 * x0.toNatClampNeg) (pkey l x0.toNatClampNeg x1 (l 306 x0.toNatClampNeg).toNatClampNeg))), (4, .int (1 : Int32)), (0, .ref 292), (1, .int x0), (2, .int x1), (3, .int x2)]) (st1 := [.ref 292]) 1 rfl rfl rfl ?_
                refine zGetR (r := 308) rfl rfl ⟨by decide, rfl, by decide, rfl⟩ ?_
                refine zPs (pc1 := 190) (l1 := [(5, .int (oI (10 * x0.toNatClampNeg) (pkey l x0.toNatClampNeg x1 (l 306 x0.toNatClampNeg).toNatClampNeg))), (4, .int (1 : Int32)), (0, .ref 292), (1, .int x0), (2, .int x1), (3, .int x2)]) (st1 := [.int x2, .int (oI (10 * x0.toNatClampNeg) (pkey l x0.toNatClampNeg x1 (l 306 x0.toNatClampNeg).toNatClampNeg)), .ref 308]) 2 rfl rfl rfl ?_
                refine zIasE (n := (oI (10 * x0.toNatClampNeg) (pkey l x0.toNatClampNeg x1 (l 306 x0.toNatClampNeg).toNatClampNeg)).toNatClampNeg) (F := 308) (I := (oI (10 * x0.toNatClampNeg) (pkey l x0.toNatClampNeg x1 (l 306 x0.toNatClampNeg).toNatClampNeg)).toNatClampNeg) h22.2 rfl (icM (k := 308) (L := 300) rfl h22.1) ?_
                refine zPs (pc1 := 192) (l1 := [(5, .int (oI (10 * x0.toNatClampNeg) (pkey l x0.toNatClampNeg x1 (l 306 x0.toNatClampNeg).toNatClampNeg))), (4, .int (1 : Int32)), (0, .ref 292), (1, .int x0), (2, .int x1), (3, .int x2)]) (st1 := [.ref 292]) 1 rfl rfl rfl ?_
                refine zGetR (r := 306) rfl rfl ⟨by decide, rfl, by decide, rfl⟩ ?_
                refine zPs (pc1 := 196) (l1 := [(5, .int (oI (10 * x0.toNatClampNeg) (pkey l x0.toNatClampNeg x1 (l 306 x0.toNatClampNeg).toNatClampNeg))), (4, .int (1 : Int32)), (0, .ref 292), (1, .int x0), (2, .int x1), (3, .int x2)]) (st1 := [.int x0, .ref 306]) 1 rfl rfl rfl ?_
                refine zIalE (n := x0.toNatClampNeg) (v := l 306 x0.toNatClampNeg) h17.2 rfl (icM (k := 306) (L := 30) rfl h17.1) rfl ?_
                refine zRi rfl rfl ?_
                exact k
              · replace k := ite_f h21 k
                refine zPs (pc1 := 112) (l1 := [(4, .int (1 : Int32)), (0, .ref 292), (1, .int x0), (2, .int x1), (3, .int x2)]) (st1 := [.ref 292, .ref 292]) 1 rfl rfl rfl ?_
                refine zGetR (r := 306) rfl rfl ⟨by decide, rfl, by decide, rfl⟩ ?_
                refine zPs (pc1 := 116) (l1 := [(4, .int (1 : Int32)), (0, .ref 292), (1, .int x0), (2, .int x1), (3, .int x2)]) (st1 := [.int x0, .ref 306, .ref 292]) 1 rfl rfl rfl ?_
                refine zIalE (n := x0.toNatClampNeg) (v := l 306 x0.toNatClampNeg) h17.2 rfl (icM (k := 306) (L := 30) rfl h17.1) rfl ?_
                refine zPs (pc1 := 119) (l1 := [(4, .int (1 : Int32)), (0, .ref 292), (1, .int x0), (2, .int x1), (3, .int x2)]) (st1 := [.int (10 : Int32), .int (l 306 x0.toNatClampNeg), .ref 292]) 1 rfl rfl rfl ?_
                refine zCn rfl (fun h24 => ?_) (fun h24 => ?_)
                · replace k := ite_t h24 k
                  have h25 := k10b (hq _ h17.1).1 (hq _ h17.1).2 h24
                  refine zPs (pc1 := 127) (l1 := [(4, .int (1 : Int32)), (0, .ref 292), (1, .int x0), (2, .int x1), (3, .int x2)]) (st1 := [.int (0 : Int32), .ref 292]) 1 rfl rfl rfl ?_
                  refine zPutI (F := 292) (I := 41) rfl rfl icThr rfl ?_
                  refine zPs (pc1 := 131) (l1 := [(4, .int (1 : Int32)), (0, .ref 292), (1, .int x0), (2, .int x1), (3, .int x2)]) (st1 := [.ref 292]) 1 rfl rfl rfl ?_
                  refine zGetI (F := 292) (I := 41) (v := (0 : Int32)) rfl rfl icThr (by simp [up2]) ?_
                  refine zPs (pc1 := 142) (l1 := [(4, .int (1 : Int32)), (0, .ref 292), (1, .int x0), (2, .int x1), (3, .int x2)]) (st1 := [.int x1, .int x0, .ref 292]) 4 rfl rfl rfl ?_
                  refine zCv (mj := 114) (k := 292) (n := 2) rfl rfl rfl rfl (by decide) rfl rfl rfl rfl rfl rfl ?_
                  refine d_114 h17.2 h17.1 ((qk_up (qk_up hq)) _ h17.1) (v := (oI (10 * x0.toNatClampNeg) (pkey l x0.toNatClampNeg x1 (l 306 x0.toNatClampNeg).toNatClampNeg))) (by simp [pk_thr, up2]) ?_
                  refine kI ?_
                  refine zPs (pc1 := 149) (l1 := [(5, .int (oI (10 * x0.toNatClampNeg) (pkey l x0.toNatClampNeg x1 (l 306 x0.toNatClampNeg).toNatClampNeg))), (4, .int (1 : Int32)), (0, .ref 292), (1, .int x0), (2, .int x1), (3, .int x2)]) (st1 := [.int (oI (10 * x0.toNatClampNeg) (pkey l x0.toNatClampNeg x1 (l 306 x0.toNatClampNeg).toNatClampNeg))]) 2 rfl rfl rfl ?_
                  refine zIfge rfl (fun h26 => absurd h26 h21) (fun h26 => ?_)
                  refine zPs (pc1 := 157) (l1 := [(5, .int (oI (10 * x0.toNatClampNeg) (pkey l x0.toNatClampNeg x1 (l 306 x0.toNatClampNeg).toNatClampNeg))), (4, .int (1 : Int32)), (0, .ref 292), (1, .int x0), (2, .int x1), (3, .int x2)]) (st1 := [.ref 292, .int ((10 : Int32) * x0)]) 4 rfl rfl rfl ?_
                  refine zGetR (r := 306) rfl rfl ⟨by decide, rfl, by decide, rfl⟩ ?_
                  refine zPs (pc1 := 161) (l1 := [(5, .int (oI (10 * x0.toNatClampNeg) (pkey l x0.toNatClampNeg x1 (l 306 x0.toNatClampNeg).toNatClampNeg))), (4, .int (1 : Int32)), (0, .ref 292), (1, .int x0), (2, .int x1), (3, .int x2)]) (st1 := [.int x0, .ref 306, .int ((10 : Int32) * x0)]) 1 rfl rfl rfl ?_
                  refine zIalE (n := x0.toNatClampNeg) (v := l 306 x0.toNatClampNeg) h17.2 rfl (icM (k := 306) (L := 30) rfl h17.1) rfl ?_
                  refine zPs (pc1 := 166) (l1 := [(5, .int (((10 : Int32) * x0) + l 306 x0.toNatClampNeg)), (4, .int (1 : Int32)), (0, .ref 292), (1, .int x0), (2, .int x1), (3, .int x2)]) (st1 := [.ref 292]) 3 rfl rfl rfl ?_
                  refine zGetR (r := 306) rfl rfl ⟨by decide, rfl, by decide, rfl⟩ ?_
                  refine zPs (pc1 := 171) (l1 := [(5, .int (((10 : Int32) * x0) + l 306 x0.toNatClampNeg)), (4, .int (1 : Int32)), (0, .ref 292), (1, .int x0), (2, .int x1), (3, .int x2)]) (st1 := [.int x0, .ref 306, .int x0, .ref 306]) 2 rfl rfl rfl ?_
                  refine zIalE (n := x0.toNatClampNeg) (v := l 306 x0.toNatClampNeg) h17.2 rfl (icM (k := 306) (L := 30) rfl h17.1) rfl ?_
                  refine zPs (pc1 := 174) (l1 := [(5, .int (((10 : Int32) * x0) + l 306 x0.toNatClampNeg)), (4, .int (1 : Int32)), (0, .ref 292), (1, .int x0), (2, .int x1), (3, .int x2)]) (st1 := [.int (l 306 x0.toNatClampNeg + (1 : Int32)), .int x0, .ref 306]) 2 rfl rfl rfl ?_
                  refine zIasE (n := x0.toNatClampNeg) (F := 306) (I := x0.toNatClampNeg) h17.2 rfl (icM (k := 306) (L := 30) rfl h17.1) ?_
                  refine zPs (pc1 := 176) (l1 := [(5, .int (((10 : Int32) * x0) + l 306 x0.toNatClampNeg)), (4, .int (1 : Int32)), (0, .ref 292), (1, .int x0), (2, .int x1), (3, .int x2)]) (st1 := [.ref 292]) 1 rfl rfl rfl ?_
                  refine zGetR (r := 307) rfl rfl ⟨by decide, rfl, by decide, rfl⟩ ?_
                  refine zPs (pc1 := 182) (l1 := [(5, .int (((10 : Int32) * x0) + l 306 x0.toNatClampNeg)), (4, .int (1 : Int32)), (0, .ref 292), (1, .int x0), (2, .int x1), (3, .int x2)]) (st1 := [.int x1, .int (((10 : Int32) * x0) + l 306 x0.toNatClampNeg), .ref 307]) 2 rfl rfl rfl ?_
                  refine zIasE (n := 10 * x0.toNatClampNeg + (l 306 x0.toNatClampNeg).toNatClampNeg) (F := 307) (I := 10 * x0.toNatClampNeg + (l 306 x0.toNatClampNeg).toNatClampNeg) (k10 h17.2 (hq _ h17.1).2) rfl (icM (k := 307) (L := 300) rfl (by have := h25; have := h17.1; omega)) ?_
                  refine zPs (pc1 := 184) (l1 := [(5, .int (((10 : Int32) * x0) + l 306 x0.toNatClampNeg)), (4, .int (1 : Int32)), (0, .ref 292), (1, .int x0), (2, .int x1), (3, .int x2)]) (st1 := [.ref 292]) 1 rfl rfl rfl ?_
                  refine zGetR (r := 308) rfl rfl ⟨by decide, rfl, by decide, rfl⟩ ?_
                  refine zPs (pc1 := 190) (l1 := [(5, .int (((10 : Int32) * x0) + l 306 x0.toNatClampNeg)), (4, .int (1 : Int32)), (0, .ref 292), (1, .int x0), (2, .int x1), (3, .int x2)]) (st1 := [.int x2, .int (((10 : Int32) * x0) + l 306 x0.toNatClampNeg), .ref 308]) 2 rfl rfl rfl ?_
                  refine zIasE (n := 10 * x0.toNatClampNeg + (l 306 x0.toNatClampNeg).toNatClampNeg) (F := 308) (I := 10 * x0.toNatClampNeg + (l 306 x0.toNatClampNeg).toNatClampNeg) (k10 h17.2 (hq _ h17.1).2) rfl (icM (k := 308) (L := 300) rfl (by have := h25; have := h17.1; omega)) ?_
                  refine zPs (pc1 := 192) (l1 := [(5, .int (((10 : Int32) * x0) + l 306 x0.toNatClampNeg)), (4, .int (1 : Int32)), (0, .ref 292), (1, .int x0), (2, .int x1), (3, .int x2)]) (st1 := [.ref 292]) 1 rfl rfl rfl ?_
                  refine zGetR (r := 306) rfl rfl ⟨by decide, rfl, by decide, rfl⟩ ?_
                  refine zPs (pc1 := 196) (l1 := [(5, .int (((10 : Int32) * x0) + l 306 x0.toNatClampNeg)), (4, .int (1 : Int32)), (0, .ref 292), (1, .int x0), (2, .int x1), (3, .int x2)]) (st1 := [.int x0, .ref 306]) 1 rfl rfl rfl ?_
                  refine zIalE (n := x0.toNatClampNeg) (v := (l 306 x0.toNatClampNeg + (1 : Int32))) h17.2 rfl (icM (k := 306) (L := 30) rfl h17.1) (by simp [up2]) ?_
                  refine zRi rfl rfl ?_
                  exact k
                · replace k := ite_f (not_not_intro h24) k
                  refine zPs (pc1 := 127) (l1 := [(4, .int (1 : Int32)), (0, .ref 292), (1, .int x0), (2, .int x1), (3, .int x2)]) (st1 := [.int (3 : Int32), .ref 292]) 2 rfl rfl rfl ?_
                  refine zPutI (F := 292) (I := 41) rfl rfl icThr rfl ?_
                  refine zPs (pc1 := 131) (l1 := [(4, .int (1 : Int32)), (0, .ref 292), (1, .int x0), (2, .int x1), (3, .int x2)]) (st1 := [.ref 292]) 1 rfl rfl rfl ?_
                  refine zGetI (F := 292) (I := 41) (v := (3 : Int32)) rfl rfl icThr (by simp [up2]) ?_
                  refine zPs (pc1 := 138) (l1 := [(4, .int (1 : Int32)), (0, .ref 292), (1, .int x0), (2, .int x1), (3, .int x2)]) (st1 := [.int (0 : Int32)]) 2 rfl rfl rfl ?_
                  refine zRi rfl rfl ?_
                  exact k
          · replace k := ite_f h19 k
            refine kI ?_
            refine zPs (pc1 := 127) (l1 := [(4, .int (1 : Int32)), (0, .ref 292), (1, .int x0), (2, .int x1), (3, .int x2)]) (st1 := [.int (3 : Int32), .ref 292]) 3 rfl rfl rfl ?_
            refine zPutI (F := 292) (I := 41) rfl rfl icThr rfl ?_
            refine zPs (pc1 := 131) (l1 := [(4, .int (1 : Int32)), (0, .ref 292), (1, .int x0), (2, .int x1), (3, .int x2)]) (st1 := [.ref 292]) 1 rfl rfl rfl ?_
            refine zGetI (F := 292) (I := 41) (v := (3 : Int32)) rfl rfl icThr (by simp [up2]) ?_
            refine zPs (pc1 := 138) (l1 := [(4, .int (1 : Int32)), (0, .ref 292), (1, .int x0), (2, .int x1), (3, .int x2)]) (st1 := [.int (0 : Int32)]) 2 rfl rfl rfl ?_
            refine zRi rfl rfl ?_
            exact k
        · replace k := ite_f h18 k
          refine kI ?_
          refine zPs (pc1 := 72) (l1 := [(4, .int (1 : Int32)), (0, .ref 292), (1, .int x0), (2, .int x1), (3, .int x2)]) (st1 := [.int (1 : Int32), .ref 292]) 3 rfl rfl rfl ?_
          refine zPutI (F := 292) (I := 41) rfl rfl icThr rfl ?_
          refine zPs (pc1 := 76) (l1 := [(4, .int (1 : Int32)), (0, .ref 292), (1, .int x0), (2, .int x1), (3, .int x2)]) (st1 := [.ref 292]) 1 rfl rfl rfl ?_
          refine zGetI (F := 292) (I := 41) (v := (1 : Int32)) rfl rfl icThr (by simp [up2]) ?_
          refine zPs (pc1 := 83) (l1 := [(4, .int (1 : Int32)), (0, .ref 292), (1, .int x0), (2, .int x1), (3, .int x2)]) (st1 := [.int (0 : Int32)]) 2 rfl rfl rfl ?_
          refine zRi rfl rfl ?_
          exact k
      · replace k := ite_f h16 k
        refine kI ?_
        refine zPs (pc1 := 72) (l1 := [(4, .int (1 : Int32)), (0, .ref 292), (1, .int x0), (2, .int x1), (3, .int x2)]) (st1 := [.int (1 : Int32), .ref 292]) 3 rfl rfl rfl ?_
        refine zPutI (F := 292) (I := 41) rfl rfl icThr rfl ?_
        refine zPs (pc1 := 76) (l1 := [(4, .int (1 : Int32)), (0, .ref 292), (1, .int x0), (2, .int x1), (3, .int x2)]) (st1 := [.ref 292]) 1 rfl rfl rfl ?_
        refine zGetI (F := 292) (I := 41) (v := (1 : Int32)) rfl rfl icThr (by simp [up2]) ?_
        refine zPs (pc1 := 83) (l1 := [(4, .int (1 : Int32)), (0, .ref 292), (1, .int x0), (2, .int x1), (3, .int x2)]) (st1 := [.int (0 : Int32)]) 2 rfl rfl rfl ?_
        refine zRi rfl rfl ?_
        exact k
    · replace k := ite_f h14 k
      refine kI ?_
      refine zPs (pc1 := 30) (l1 := [(0, .ref 292), (1, .int x0), (2, .int x1), (3, .int x2)]) (st1 := [.int (1999 : Int32), .int (1000 : Int32), .int x1]) 4 rfl rfl rfl ?_
      refine zCs (mj := 107) rfl rfl rfl rfl rfl rfl rfl rfl ?_
      refine d_107 (fun h27 => ?_) (fun h27 => ?_)
      · replace k := ite_t h27 k
        have h28 := rng_le (b := 1999) (by decide) (Int32.le_trans (by decide) h27.1) h27.2
        refine kI ?_
        refine zPs (pc1 := 45) (l1 := [(4, .int (1 : Int32)), (0, .ref 292), (1, .int x0), (2, .int x1), (3, .int x2)]) (st1 := [.int x0, .ref 292]) 6 rfl rfl rfl ?_
        refine zCs (mj := 108) rfl rfl rfl rfl rfl rfl rfl rfl ?_
        refine d_108 (fun h29 => ?_) (fun h29 => ?_)
        · replace k := ite_t h29 k
          have h30 := isN_lt h29
          refine kI ?_
          refine zPs (pc1 := 52) (l1 := [(4, .int (1 : Int32)), (0, .ref 292), (1, .int x0), (2, .int x1), (3, .int x2)]) (st1 := [.int x2, .ref 292]) 2 rfl rfl rfl ?_
          refine zCs (mj := 109) rfl rfl rfl rfl rfl rfl rfl rfl ?_
          refine c_109 (fun h31 => ?_) (fun h31 => ?_)
          · replace k := ite_t h31 k
            refine kI ?_
            refine zPs (pc1 := 72) (l1 := [(4, .int (1 : Int32)), (0, .ref 292), (1, .int x0), (2, .int x1), (3, .int x2)]) (st1 := [.int (0 : Int32), .ref 292]) 5 rfl rfl rfl ?_
            refine zPutI (F := 292) (I := 41) rfl rfl icThr rfl ?_
            refine zPs (pc1 := 76) (l1 := [(4, .int (1 : Int32)), (0, .ref 292), (1, .int x0), (2, .int x1), (3, .int x2)]) (st1 := [.ref 292]) 1 rfl rfl rfl ?_
            refine zGetI (F := 292) (I := 41) (v := (0 : Int32)) rfl rfl icThr (by simp [up2]) ?_
            refine zPs (pc1 := 86) (l1 := [(4, .int (1 : Int32)), (0, .ref 292), (1, .int x0), (2, .int x1), (3, .int x2)]) (st1 := [.ref 292, .ref 292]) 3 rfl rfl rfl ?_
            refine zCv (mj := 110) (k := 292) (n := 0) rfl rfl rfl rfl (by decide) rfl rfl rfl rfl rfl rfl ?_
            refine c_110 hl (CZ_thr hCI).1 (fun h32 => ?_) (fun h32 => ?_)
            · replace k := ite_t h32 k
              refine kI ?_
              refine zPs (pc1 := 93) (l1 := [(4, .int (1 : Int32)), (0, .ref 292), (1, .int x0), (2, .int x1), (3, .int x2)]) (st1 := [.ref 292, .ref 292]) 2 rfl rfl rfl ?_
              refine zGetR (r := 296) rfl rfl ⟨by decide, rfl, by decide, rfl⟩ ?_
              refine zPs (pc1 := 97) (l1 := [(4, .int (1 : Int32)), (0, .ref 292), (1, .int x0), (2, .int x1), (3, .int x2)]) (st1 := [.int x0, .ref 296, .ref 292]) 1 rfl rfl rfl ?_
              refine zIalE (n := x0.toNatClampNeg) (v := l 296 x0.toNatClampNeg) h30.2 rfl (icM (k := 296) (L := 30) rfl h30.1) rfl ?_
              refine zPs (pc1 := 99) (l1 := [(4, .int (1 : Int32)), (0, .ref 292), (1, .int x0), (2, .int x1), (3, .int x2)]) (st1 := [.int (2 : Int32), .int (l 296 x0.toNatClampNeg), .ref 292]) 1 rfl rfl rfl ?_
              refine zCn rfl (fun h33 => ?_) (fun h33 => ?_)
              · replace k := ite_t h33 k
                refine zPs (pc1 := 127) (l1 := [(4, .int (1 : Int32)), (0, .ref 292), (1, .int x0), (2, .int x1), (3, .int x2)]) (st1 := [.int (3 : Int32), .ref 292]) 2 rfl rfl rfl ?_
                refine zPutI (F := 292) (I := 41) rfl rfl icThr rfl ?_
                refine zPs (pc1 := 131) (l1 := [(4, .int (1 : Int32)), (0, .ref 292), (1, .int x0), (2, .int x1), (3, .int x2)]) (st1 := [.ref 292]) 1 rfl rfl rfl ?_
                refine zGetI (F := 292) (I := 41) (v := (3 : Int32)) rfl rfl icThr (by simp [up2]) ?_
                refine zPs (pc1 := 138) (l1 := [(4, .int (1 : Int32)), (0, .ref 292), (1, .int x0), (2, .int x1), (3, .int x2)]) (st1 := [.int (0 : Int32)]) 2 rfl rfl rfl ?_
                refine zRi rfl rfl ?_
                exact k
              · replace k := ite_f (not_not_intro h33) k
                refine zPs (pc1 := 105) (l1 := [(4, .int (1 : Int32)), (0, .ref 292), (1, .int x0), (2, .int x1), (3, .int x2)]) (st1 := [.int x1, .int x0, .ref 292, .ref 292]) 3 rfl rfl rfl ?_
                refine zCv (mj := 114) (k := 292) (n := 2) rfl rfl rfl rfl (by decide) rfl rfl rfl rfl rfl rfl ?_
                refine d_114 h30.2 h30.1 ((qk_up hq) _ h30.1) (v := (oI (10 * x0.toNatClampNeg) (pkey l x0.toNatClampNeg x1 (l 306 x0.toNatClampNeg).toNatClampNeg))) (by simp [pk_thr, up2]) ?_
                refine kI ?_
                refine zIfge rfl (fun h34 => ?_) (fun h34 => ?_)
                · replace k := ite_t h34 k
                  have h35 := pk_rng (b := 10 * x0.toNatClampNeg) (q := (l 306 x0.toNatClampNeg).toNatClampNeg) (by have := (hq _ h30.1).1; have := h30.1; omega) (fun k h => (pkey_lt h).1) (Int32.not_lt.mpr h34)
                  refine zPs (pc1 := 127) (l1 := [(4, .int (1 : Int32)), (0, .ref 292), (1, .int x0), (2, .int x1), (3, .int x2)]) (st1 := [.int (0 : Int32), .ref 292]) 1 rfl rfl rfl ?_
                  refine zPutI (F := 292) (I := 41) rfl rfl icThr rfl ?_
                  refine zPs (pc1 := 131) (l1 := [(4, .int (1 : Int32)), (0, .ref 292), (1, .int x0), (2, .int x1), (3, .int x2)]) (st1 := [.ref 292]) 1 rfl rfl rfl ?_
                  refine zGetI (F := 292) (I := 41) (v := (0 : Int32)) rfl rfl icThr (by simp [up2]) ?_
                  refine zPs (pc1 := 142) (l1 := [(4, .int (1 : Int32)), (0, .ref 292), (1, .int x0), (2, .int x1), (3, .int x2)]) (st1 := [.int x1, .int x0, .ref 292]) 4 rfl rfl rfl ?_
                  refine zCv (mj := 114) (k := 292) (n := 2) rfl rfl rfl rfl (by decide) rfl rfl rfl rfl rfl rfl ?_
                  refine d_114 h30.2 h30.1 ((qk_up (qk_up hq)) _ h30.1) (v := (oI (10 * x0.toNatClampNeg) (pkey l x0.toNatClampNeg x1 (l 306 x0.toNatClampNeg).toNatClampNeg))) (by simp [pk_thr, up2]) ?_
                  refine kI ?_
                  refine zPs (pc1 := 149) (l1 := [(5, .int (oI (10 * x0.toNatClampNeg) (pkey l x0.toNatClampNeg x1 (l 306 x0.toNatClampNeg).toNatClampNeg))), (4, .int (1 : Int32)), (0, .ref 292), (1, .int x0), (2, .int x1), (3, .int x2)]) (st1 := [.int (oI (10 * x0.toNatClampNeg) (pkey l x0.toNatClampNeg x1 (l 306 x0.toNatClampNeg).toNatClampNeg))]) 2 rfl rfl rfl ?_
                  refine zIfge rfl (fun h36 => ?_) (fun h36 => absurd h34 h36)
                  refine zPs (pc1 := 176) (l1 := [(5, .int (oI (10 * x0.toNatClampNeg) (pkey l x0.toNatClampNeg x1 (l 306 x0.toNatClampNeg).toNatClampNeg))), (4, .int (1 : Int32)), (0, .ref 292), (1, .int x0), (2, .int x1), (3, .int x2)]) (st1 := [.ref 292]) 1 rfl rfl rfl ?_
                  refine zGetR (r := 307) rfl rfl ⟨by decide, rfl, by decide, rfl⟩ ?_
                  refine zPs (pc1 := 182) (l1 := [(5, .int (oI (10 * x0.toNatClampNeg) (pkey l x0.toNatClampNeg x1 (l 306 x0.toNatClampNeg).toNatClampNeg))), (4, .int (1 : Int32)), (0, .ref 292), (1, .int x0), (2, .int x1), (3, .int x2)]) (st1 := [.int x1, .int (oI (10 * x0.toNatClampNeg) (pkey l x0.toNatClampNeg x1 (l 306 x0.toNatClampNeg).toNatClampNeg)), .ref 307]) 2 rfl rfl rfl ?_
                  refine zIasE (n := (oI (10 * x0.toNatClampNeg) (pkey l x0.toNatClampNeg x1 (l 306 x0.toNatClampNeg).toNatClampNeg)).toNatClampNeg) (F := 307) (I := (oI (10 * x0.toNatClampNeg) (pkey l x0.toNatClampNeg x1 (l 306 x0.toNatClampNeg).toNatClampNeg)).toNatClampNeg) h35.2 rfl (icM (k := 307) (L := 300) rfl h35.1) ?_
                  refine zPs (pc1 := 184) (l1 := [(5, .int (oI (10 * x0.toNatClampNeg) (pkey l x0.toNatClampNeg x1 (l 306 x0.toNatClampNeg).toNatClampNeg))), (4, .int (1 : Int32)), (0, .ref 292), (1, .int x0), (2, .int x1), (3, .int x2)]) (st1 := [.ref 292]) 1 rfl rfl rfl ?_
                  refine zGetR (r := 308) rfl rfl ⟨by decide, rfl, by decide, rfl⟩ ?_
                  refine zPs (pc1 := 190) (l1 := [(5, .int (oI (10 * x0.toNatClampNeg) (pkey l x0.toNatClampNeg x1 (l 306 x0.toNatClampNeg).toNatClampNeg))), (4, .int (1 : Int32)), (0, .ref 292), (1, .int x0), (2, .int x1), (3, .int x2)]) (st1 := [.int x2, .int (oI (10 * x0.toNatClampNeg) (pkey l x0.toNatClampNeg x1 (l 306 x0.toNatClampNeg).toNatClampNeg)), .ref 308]) 2 rfl rfl rfl ?_
                  refine zIasE (n := (oI (10 * x0.toNatClampNeg) (pkey l x0.toNatClampNeg x1 (l 306 x0.toNatClampNeg).toNatClampNeg)).toNatClampNeg) (F := 308) (I := (oI (10 * x0.toNatClampNeg) (pkey l x0.toNatClampNeg x1 (l 306 x0.toNatClampNeg).toNatClampNeg)).toNatClampNeg) h35.2 rfl (icM (k := 308) (L := 300) rfl h35.1) ?_
                  refine zPs (pc1 := 192) (l1 := [(5, .int (oI (10 * x0.toNatClampNeg) (pkey l x0.toNatClampNeg x1 (l 306 x0.toNatClampNeg).toNatClampNeg))), (4, .int (1 : Int32)), (0, .ref 292), (1, .int x0), (2, .int x1), (3, .int x2)]) (st1 := [.ref 292]) 1 rfl rfl rfl ?_
                  refine zGetR (r := 306) rfl rfl ⟨by decide, rfl, by decide, rfl⟩ ?_
                  refine zPs (pc1 := 196) (l1 := [(5, .int (oI (10 * x0.toNatClampNeg) (pkey l x0.toNatClampNeg x1 (l 306 x0.toNatClampNeg).toNatClampNeg))), (4, .int (1 : Int32)), (0, .ref 292), (1, .int x0), (2, .int x1), (3, .int x2)]) (st1 := [.int x0, .ref 306]) 1 rfl rfl rfl ?_
                  refine zIalE (n := x0.toNatClampNeg) (v := l 306 x0.toNatClampNeg) h30.2 rfl (icM (k := 306) (L := 30) rfl h30.1) rfl ?_
                  refine zRi rfl rfl ?_
                  exact k
                · replace k := ite_f h34 k
                  refine zPs (pc1 := 112) (l1 := [(4, .int (1 : Int32)), (0, .ref 292), (1, .int x0), (2, .int x1), (3, .int x2)]) (st1 := [.ref 292, .ref 292]) 1 rfl rfl rfl ?_
                  refine zGetR (r := 306) rfl rfl ⟨by decide, rfl, by decide, rfl⟩ ?_
                  refine zPs (pc1 := 116) (l1 := [(4, .int (1 : Int32)), (0, .ref 292), (1, .int x0), (2, .int x1), (3, .int x2)]) (st1 := [.int x0, .ref 306, .ref 292]) 1 rfl rfl rfl ?_
                  refine zIalE (n := x0.toNatClampNeg) (v := l 306 x0.toNatClampNeg) h30.2 rfl (icM (k := 306) (L := 30) rfl h30.1) rfl ?_
                  refine zPs (pc1 := 119) (l1 := [(4, .int (1 : Int32)), (0, .ref 292), (1, .int x0), (2, .int x1), (3, .int x2)]) (st1 := [.int (10 : Int32), .int (l 306 x0.toNatClampNeg), .ref 292]) 1 rfl rfl rfl ?_
                  refine zCn rfl (fun h37 => ?_) (fun h37 => ?_)
                  · replace k := ite_t h37 k
                    have h38 := k10b (hq _ h30.1).1 (hq _ h30.1).2 h37
                    refine zPs (pc1 := 127) (l1 := [(4, .int (1 : Int32)), (0, .ref 292), (1, .int x0), (2, .int x1), (3, .int x2)]) (st1 := [.int (0 : Int32), .ref 292]) 1 rfl rfl rfl ?_
                    refine zPutI (F := 292) (I := 41) rfl rfl icThr rfl ?_
                    refine zPs (pc1 := 131) (l1 := [(4, .int (1 : Int32)), (0, .ref 292), (1, .int x0), (2, .int x1), (3, .int x2)]) (st1 := [.ref 292]) 1 rfl rfl rfl ?_
                    refine zGetI (F := 292) (I := 41) (v := (0 : Int32)) rfl rfl icThr (by simp [up2]) ?_
                    refine zPs (pc1 := 142) (l1 := [(4, .int (1 : Int32)), (0, .ref 292), (1, .int x0), (2, .int x1), (3, .int x2)]) (st1 := [.int x1, .int x0, .ref 292]) 4 rfl rfl rfl ?_
                    refine zCv (mj := 114) (k := 292) (n := 2) rfl rfl rfl rfl (by decide) rfl rfl rfl rfl rfl rfl ?_
                    refine d_114 h30.2 h30.1 ((qk_up (qk_up hq)) _ h30.1) (v := (oI (10 * x0.toNatClampNeg) (pkey l x0.toNatClampNeg x1 (l 306 x0.toNatClampNeg).toNatClampNeg))) (by simp [pk_thr, up2]) ?_
                    refine kI ?_
                    refine zPs (pc1 := 149) (l1 := [(5, .int (oI (10 * x0.toNatClampNeg) (pkey l x0.toNatClampNeg x1 (l 306 x0.toNatClampNeg).toNatClampNeg))), (4, .int (1 : Int32)), (0, .ref 292), (1, .int x0), (2, .int x1), (3, .int x2)]) (st1 := [.int (oI (10 * x0.toNatClampNeg) (pkey l x0.toNatClampNeg x1 (l 306 x0.toNatClampNeg).toNatClampNeg))]) 2 rfl rfl rfl ?_
                    refine zIfge rfl (fun h39 => absurd h39 h34) (fun h39 => ?_)
                    refine zPs (pc1 := 157) (l1 := [(5, .int (oI (10 * x0.toNatClampNeg) (pkey l x0.toNatClampNeg x1 (l 306 x0.toNatClampNeg).toNatClampNeg))), (4, .int (1 : Int32)), (0, .ref 292), (1, .int x0), (2, .int x1), (3, .int x2)]) (st1 := [.ref 292, .int ((10 : Int32) * x0)]) 4 rfl rfl rfl ?_
                    refine zGetR (r := 306) rfl rfl ⟨by decide, rfl, by decide, rfl⟩ ?_
                    refine zPs (pc1 := 161) (l1 := [(5, .int (oI (10 * x0.toNatClampNeg) (pkey l x0.toNatClampNeg x1 (l 306 x0.toNatClampNeg).toNatClampNeg))), (4, .int (1 : Int32)), (0, .ref 292), (1, .int x0), (2, .int x1), (3, .int x2)]) (st1 := [.int x0, .ref 306, .int ((10 : Int32) * x0)]) 1 rfl rfl rfl ?_
                    refine zIalE (n := x0.toNatClampNeg) (v := l 306 x0.toNatClampNeg) h30.2 rfl (icM (k := 306) (L := 30) rfl h30.1) rfl ?_
                    refine zPs (pc1 := 166) (l1 := [(5, .int (((10 : Int32) * x0) + l 306 x0.toNatClampNeg)), (4, .int (1 : Int32)), (0, .ref 292), (1, .int x0), (2, .int x1), (3, .int x2)]) (st1 := [.ref 292]) 3 rfl rfl rfl ?_
                    refine zGetR (r := 306) rfl rfl ⟨by decide, rfl, by decide, rfl⟩ ?_
                    refine zPs (pc1 := 171) (l1 := [(5, .int (((10 : Int32) * x0) + l 306 x0.toNatClampNeg)), (4, .int (1 : Int32)), (0, .ref 292), (1, .int x0), (2, .int x1), (3, .int x2)]) (st1 := [.int x0, .ref 306, .int x0, .ref 306]) 2 rfl rfl rfl ?_
                    refine zIalE (n := x0.toNatClampNeg) (v := l 306 x0.toNatClampNeg) h30.2 rfl (icM (k := 306) (L := 30) rfl h30.1) rfl ?_
                    refine zPs (pc1 := 174) (l1 := [(5, .int (((10 : Int32) * x0) + l 306 x0.toNatClampNeg)), (4, .int (1 : Int32)), (0, .ref 292), (1, .int x0), (2, .int x1), (3, .int x2)]) (st1 := [.int (l 306 x0.toNatClampNeg + (1 : Int32)), .int x0, .ref 306]) 2 rfl rfl rfl ?_
                    refine zIasE (n := x0.toNatClampNeg) (F := 306) (I := x0.toNatClampNeg) h30.2 rfl (icM (k := 306) (L := 30) rfl h30.1) ?_
                    refine zPs (pc1 := 176) (l1 := [(5, .int (((10 : Int32) * x0) + l 306 x0.toNatClampNeg)), (4, .int (1 : Int32)), (0, .ref 292), (1, .int x0), (2, .int x1), (3, .int x2)]) (st1 := [.ref 292]) 1 rfl rfl rfl ?_
                    refine zGetR (r := 307) rfl rfl ⟨by decide, rfl, by decide, rfl⟩ ?_
                    refine zPs (pc1 := 182) (l1 := [(5, .int (((10 : Int32) * x0) + l 306 x0.toNatClampNeg)), (4, .int (1 : Int32)), (0, .ref 292), (1, .int x0), (2, .int x1), (3, .int x2)]) (st1 := [.int x1, .int (((10 : Int32) * x0) + l 306 x0.toNatClampNeg), .ref 307]) 2 rfl rfl rfl ?_
                    refine zIasE (n := 10 * x0.toNatClampNeg + (l 306 x0.toNatClampNeg).toNatClampNeg) (F := 307) (I := 10 * x0.toNatClampNeg + (l 306 x0.toNatClampNeg).toNatClampNeg) (k10 h30.2 (hq _ h30.1).2) rfl (icM (k := 307) (L := 300) rfl (by have := h38; have := h30.1; omega)) ?_
                    refine zPs (pc1 := 184) (l1 := [(5, .int (((10 : Int32) * x0) + l 306 x0.toNatClampNeg)), (4, .int (1 : Int32)), (0, .ref 292), (1, .int x0), (2, .int x1), (3, .int x2)]) (st1 := [.ref 292]) 1 rfl rfl rfl ?_
                    refine zGetR (r := 308) rfl rfl ⟨by decide, rfl, by decide, rfl⟩ ?_
                    refine zPs (pc1 := 190) (l1 := [(5, .int (((10 : Int32) * x0) + l 306 x0.toNatClampNeg)), (4, .int (1 : Int32)), (0, .ref 292), (1, .int x0), (2, .int x1), (3, .int x2)]) (st1 := [.int x2, .int (((10 : Int32) * x0) + l 306 x0.toNatClampNeg), .ref 308]) 2 rfl rfl rfl ?_
                    refine zIasE (n := 10 * x0.toNatClampNeg + (l 306 x0.toNatClampNeg).toNatClampNeg) (F := 308) (I := 10 * x0.toNatClampNeg + (l 306 x0.toNatClampNeg).toNatClampNeg) (k10 h30.2 (hq _ h30.1).2) rfl (icM (k := 308) (L := 300) rfl (by have := h38; have := h30.1; omega)) ?_
                    refine zPs (pc1 := 192) (l1 := [(5, .int (((10 : Int32) * x0) + l 306 x0.toNatClampNeg)), (4, .int (1 : Int32)), (0, .ref 292), (1, .int x0), (2, .int x1), (3, .int x2)]) (st1 := [.ref 292]) 1 rfl rfl rfl ?_
                    refine zGetR (r := 306) rfl rfl ⟨by decide, rfl, by decide, rfl⟩ ?_
                    refine zPs (pc1 := 196) (l1 := [(5, .int (((10 : Int32) * x0) + l 306 x0.toNatClampNeg)), (4, .int (1 : Int32)), (0, .ref 292), (1, .int x0), (2, .int x1), (3, .int x2)]) (st1 := [.int x0, .ref 306]) 1 rfl rfl rfl ?_
                    refine zIalE (n := x0.toNatClampNeg) (v := (l 306 x0.toNatClampNeg + (1 : Int32))) h30.2 rfl (icM (k := 306) (L := 30) rfl h30.1) (by simp [up2]) ?_
                    refine zRi rfl rfl ?_
                    exact k
                  · replace k := ite_f (not_not_intro h37) k
                    refine zPs (pc1 := 127) (l1 := [(4, .int (1 : Int32)), (0, .ref 292), (1, .int x0), (2, .int x1), (3, .int x2)]) (st1 := [.int (3 : Int32), .ref 292]) 2 rfl rfl rfl ?_
                    refine zPutI (F := 292) (I := 41) rfl rfl icThr rfl ?_
                    refine zPs (pc1 := 131) (l1 := [(4, .int (1 : Int32)), (0, .ref 292), (1, .int x0), (2, .int x1), (3, .int x2)]) (st1 := [.ref 292]) 1 rfl rfl rfl ?_
                    refine zGetI (F := 292) (I := 41) (v := (3 : Int32)) rfl rfl icThr (by simp [up2]) ?_
                    refine zPs (pc1 := 138) (l1 := [(4, .int (1 : Int32)), (0, .ref 292), (1, .int x0), (2, .int x1), (3, .int x2)]) (st1 := [.int (0 : Int32)]) 2 rfl rfl rfl ?_
                    refine zRi rfl rfl ?_
                    exact k
            · replace k := ite_f h32 k
              refine kI ?_
              refine zPs (pc1 := 127) (l1 := [(4, .int (1 : Int32)), (0, .ref 292), (1, .int x0), (2, .int x1), (3, .int x2)]) (st1 := [.int (3 : Int32), .ref 292]) 3 rfl rfl rfl ?_
              refine zPutI (F := 292) (I := 41) rfl rfl icThr rfl ?_
              refine zPs (pc1 := 131) (l1 := [(4, .int (1 : Int32)), (0, .ref 292), (1, .int x0), (2, .int x1), (3, .int x2)]) (st1 := [.ref 292]) 1 rfl rfl rfl ?_
              refine zGetI (F := 292) (I := 41) (v := (3 : Int32)) rfl rfl icThr (by simp [up2]) ?_
              refine zPs (pc1 := 138) (l1 := [(4, .int (1 : Int32)), (0, .ref 292), (1, .int x0), (2, .int x1), (3, .int x2)]) (st1 := [.int (0 : Int32)]) 2 rfl rfl rfl ?_
              refine zRi rfl rfl ?_
              exact k
          · replace k := ite_f h31 k
            refine kI ?_
            refine zPs (pc1 := 72) (l1 := [(4, .int (1 : Int32)), (0, .ref 292), (1, .int x0), (2, .int x1), (3, .int x2)]) (st1 := [.int (1 : Int32), .ref 292]) 3 rfl rfl rfl ?_
            refine zPutI (F := 292) (I := 41) rfl rfl icThr rfl ?_
            refine zPs (pc1 := 76) (l1 := [(4, .int (1 : Int32)), (0, .ref 292), (1, .int x0), (2, .int x1), (3, .int x2)]) (st1 := [.ref 292]) 1 rfl rfl rfl ?_
            refine zGetI (F := 292) (I := 41) (v := (1 : Int32)) rfl rfl icThr (by simp [up2]) ?_
            refine zPs (pc1 := 83) (l1 := [(4, .int (1 : Int32)), (0, .ref 292), (1, .int x0), (2, .int x1), (3, .int x2)]) (st1 := [.int (0 : Int32)]) 2 rfl rfl rfl ?_
            refine zRi rfl rfl ?_
            exact k
        · replace k := ite_f h29 k
          refine kI ?_
          refine zPs (pc1 := 72) (l1 := [(4, .int (1 : Int32)), (0, .ref 292), (1, .int x0), (2, .int x1), (3, .int x2)]) (st1 := [.int (1 : Int32), .ref 292]) 3 rfl rfl rfl ?_
          refine zPutI (F := 292) (I := 41) rfl rfl icThr rfl ?_
          refine zPs (pc1 := 76) (l1 := [(4, .int (1 : Int32)), (0, .ref 292), (1, .int x0), (2, .int x1), (3, .int x2)]) (st1 := [.ref 292]) 1 rfl rfl rfl ?_
          refine zGetI (F := 292) (I := 41) (v := (1 : Int32)) rfl rfl icThr (by simp [up2]) ?_
          refine zPs (pc1 := 83) (l1 := [(4, .int (1 : Int32)), (0, .ref 292), (1, .int x0), (2, .int x1), (3, .int x2)]) (st1 := [.int (0 : Int32)]) 2 rfl rfl rfl ?_
          refine zRi rfl rfl ?_
          exact k
      · replace k := ite_f h27 k
        refine kI ?_
        refine zPs (pc1 := 45) (l1 := [(4, .int (0 : Int32)), (0, .ref 292), (1, .int x0), (2, .int x1), (3, .int x2)]) (st1 := [.int x0, .ref 292]) 5 rfl rfl rfl ?_
        refine zCs (mj := 108) rfl rfl rfl rfl rfl rfl rfl rfl ?_
        refine d_108 (fun h40 => ?_) (fun h40 => ?_)
        · replace k := ite_t h40 k
          have h41 := isN_lt h40
          refine kI ?_
          refine zPs (pc1 := 52) (l1 := [(4, .int (0 : Int32)), (0, .ref 292), (1, .int x0), (2, .int x1), (3, .int x2)]) (st1 := [.int x2, .ref 292]) 2 rfl rfl rfl ?_
          refine zCs (mj := 109) rfl rfl rfl rfl rfl rfl rfl rfl ?_
          refine c_109 (fun h42 => ?_) (fun h42 => ?_)
          · replace k := ite_t h42 k
            refine kI ?_
            refine zPs (pc1 := 72) (l1 := [(4, .int (0 : Int32)), (0, .ref 292), (1, .int x0), (2, .int x1), (3, .int x2)]) (st1 := [.int (2 : Int32), .ref 292]) 4 rfl rfl rfl ?_
            refine zPutI (F := 292) (I := 41) rfl rfl icThr rfl ?_
            refine zPs (pc1 := 76) (l1 := [(4, .int (0 : Int32)), (0, .ref 292), (1, .int x0), (2, .int x1), (3, .int x2)]) (st1 := [.ref 292]) 1 rfl rfl rfl ?_
            refine zGetI (F := 292) (I := 41) (v := (2 : Int32)) rfl rfl icThr (by simp [up2]) ?_
            refine zPs (pc1 := 83) (l1 := [(4, .int (0 : Int32)), (0, .ref 292), (1, .int x0), (2, .int x1), (3, .int x2)]) (st1 := [.int (0 : Int32)]) 2 rfl rfl rfl ?_
            refine zRi rfl rfl ?_
            exact k
          · replace k := ite_f h42 k
            refine kI ?_
            refine zPs (pc1 := 72) (l1 := [(4, .int (0 : Int32)), (0, .ref 292), (1, .int x0), (2, .int x1), (3, .int x2)]) (st1 := [.int (1 : Int32), .ref 292]) 3 rfl rfl rfl ?_
            refine zPutI (F := 292) (I := 41) rfl rfl icThr rfl ?_
            refine zPs (pc1 := 76) (l1 := [(4, .int (0 : Int32)), (0, .ref 292), (1, .int x0), (2, .int x1), (3, .int x2)]) (st1 := [.ref 292]) 1 rfl rfl rfl ?_
            refine zGetI (F := 292) (I := 41) (v := (1 : Int32)) rfl rfl icThr (by simp [up2]) ?_
            refine zPs (pc1 := 83) (l1 := [(4, .int (0 : Int32)), (0, .ref 292), (1, .int x0), (2, .int x1), (3, .int x2)]) (st1 := [.int (0 : Int32)]) 2 rfl rfl rfl ?_
            refine zRi rfl rfl ?_
            exact k
        · replace k := ite_f h40 k
          refine kI ?_
          refine zPs (pc1 := 72) (l1 := [(4, .int (0 : Int32)), (0, .ref 292), (1, .int x0), (2, .int x1), (3, .int x2)]) (st1 := [.int (1 : Int32), .ref 292]) 3 rfl rfl rfl ?_
          refine zPutI (F := 292) (I := 41) rfl rfl icThr rfl ?_
          refine zPs (pc1 := 76) (l1 := [(4, .int (0 : Int32)), (0, .ref 292), (1, .int x0), (2, .int x1), (3, .int x2)]) (st1 := [.ref 292]) 1 rfl rfl rfl ?_
          refine zGetI (F := 292) (I := 41) (v := (1 : Int32)) rfl rfl icThr (by simp [up2]) ?_
          refine zPs (pc1 := 83) (l1 := [(4, .int (0 : Int32)), (0, .ref 292), (1, .int x0), (2, .int x1), (3, .int x2)]) (st1 := [.int (0 : Int32)]) 2 rfl rfl rfl ?_
          refine zRi rfl rfl ?_
          exact k
