/-! ===== one step of the mini machine is a step of the machine ===== -/
section MSTEP
variable {p : Program} {l : Launch} {e : Env} {R : Room} {s : State} {m : MethodId} {args : Array Value} {below : List Frame} {meth : Method} {c : Code} {H : Heap} {locs : List Loc} {cells slots : Nat} {Q : State → Prop}
variable {cc : ByteArray} {pc nL b : Nat} {ls : Array Slot}
theorem chE_dec {E : ME} (h : chE cc pc E = true) {n : Nat} (hn : E.2.1 = pc + n) : decode cc pc = .ok (E.1, n) := by
  simp only [chE, Bool.and_eq_true, decide_eq_true_eq] at h
  rw [h.1, hn, Nat.add_sub_cancel_left]
theorem kc_eq {E : ME} {v : Int32} (h : kc E v = true) : ∃ r, E.2.2.1 = (v, r) :: E.2.2.1.tail := by
  unfold kc at h
  split at h
  · cases h
  · rename_i q r hq
    rw [decide_eq_true_eq] at h
    exact ⟨q.2, by rw [hq, ← h]; rfl⟩
theorem stepP_sound {E : ME} {l0 l1 : ML} {st st1 : List Value} {pc1 : Nat} (hx : p.tables.exec = Jvm.exec) (hb : c.code = cc) (hc : chE cc pc E = true) (hl : lv_has ls nL (trL b l0)) (hs : stepP nL E l0 st = some (pc1, l1, st1))
    (k : ∀ ls', lv_has ls' nL (trL b l1) → W p l e R s m args below meth c H locs cells slots Q (F0 m pc1 ls' (st1.map (tv b)))) : W p l e R s m args below meth c H locs cells slots Q (F0 m pc ls (st.map (tv b))) := by
  obtain ⟨i, nx, ts, d⟩ := E
  cases i
  case iconst n =>
    simp only [chE, Bool.and_eq_true, decide_eq_true_eq] at hc
    obtain ⟨hd, hn, hk⟩ := hc
    obtain ⟨r, hr⟩ := kc_eq hk
    simp only [stepP, kst] at hs
    try dsimp only at hr hn
    rw [hr] at hs
    cases hs
    subst hn
    rw [Nat.add_sub_cancel_left] at hd
    exact lv_iconst hx hb hd rfl (k ls hl)
  case bipush n =>
    simp only [chE, Bool.and_eq_true, decide_eq_true_eq] at hc
    obtain ⟨hd, hn, hk⟩ := hc
    obtain ⟨r, hr⟩ := kc_eq hk
    simp only [stepP, kst] at hs
    try dsimp only at hr hn
    rw [hr] at hs
    cases hs
    subst hn
    rw [Nat.add_sub_cancel_left] at hd
    exact lv_bipush hx hb hd rfl (k ls hl)
  case sipush n =>
    simp only [chE, Bool.and_eq_true, decide_eq_true_eq] at hc
    obtain ⟨hd, hn, hk⟩ := hc
    obtain ⟨r, hr⟩ := kc_eq hk
    simp only [stepP, kst] at hs
    try dsimp only at hr hn
    rw [hr] at hs
    cases hs
    subst hn
    rw [Nat.add_sub_cancel_left] at hd
    exact lv_sipush hx hb hd rfl (k ls hl)
  case lconst n =>
    simp only [chE, Bool.and_eq_true, decide_eq_true_eq] at hc
    obtain ⟨hd, hn⟩ := hc
    simp only [stepP] at hs
    cases hs
    try dsimp only at hn
    subst hn
    rw [Nat.add_sub_cancel_left] at hd
    exact lv_lconst hx hb hd rfl (k ls hl)
  case iload_n n =>
    simp only [chE, Bool.and_eq_true, decide_eq_true_eq] at hc
    obtain ⟨hd, hn⟩ := hc
    try dsimp only at hn
    subst hn
    rw [Nat.add_sub_cancel_left] at hd
    simp only [stepP, ldI] at hs
    split at hs
    · rename_i x hg
      cases hs
      exact lv_iload_n hx hb hd rfl (lget_at hl hg) (k ls hl)
    · cases hs
  case iload n =>
    simp only [chE, Bool.and_eq_true, decide_eq_true_eq] at hc
    obtain ⟨hd, hn⟩ := hc
    try dsimp only at hn
    subst hn
    rw [Nat.add_sub_cancel_left] at hd
    simp only [stepP, ldI] at hs
    split at hs
    · rename_i x hg
      cases hs
      exact lv_iload hx hb hd (lget_at hl hg) (k ls hl)
    · cases hs
  case aload_n n =>
    simp only [chE, Bool.and_eq_true, decide_eq_true_eq] at hc
    obtain ⟨hd, hn⟩ := hc
    try dsimp only at hn
    subst hn
    rw [Nat.add_sub_cancel_left] at hd
    simp only [stepP, ldA] at hs
    split at hs
    · rename_i x hg
      cases hs
      exact lv_aload_n hx hb hd rfl (lget_at hl hg) (k ls hl)
    · cases hs
  case aload n =>
    simp only [chE, Bool.and_eq_true, decide_eq_true_eq] at hc
    obtain ⟨hd, hn⟩ := hc
    try dsimp only at hn
    subst hn
    rw [Nat.add_sub_cancel_left] at hd
    simp only [stepP, ldA] at hs
    split at hs
    · rename_i x hg
      cases hs
      exact lv_aload hx hb hd (lget_at hl hg) (k ls hl)
    · cases hs
  case istore_n n =>
    simp only [chE, Bool.and_eq_true, decide_eq_true_eq] at hc
    obtain ⟨hd, hn⟩ := hc
    try dsimp only at hn
    subst hn
    rw [Nat.add_sub_cancel_left] at hd
    simp only [stepP, stI] at hs
    split at hs
    · rename_i x st0
      cases hlt : Nat.blt n nL
      · rw [hlt] at hs; cases hs
      · rw [hlt] at hs
        cases hs
        exact lv_istore_n hx hb hd rfl hl (Nat.blt_eq ▸ hlt) (trL_set b l0 n (.int x)) k
    · cases hs
  case istore n =>
    simp only [chE, Bool.and_eq_true, decide_eq_true_eq] at hc
    obtain ⟨hd, hn⟩ := hc
    try dsimp only at hn
    subst hn
    rw [Nat.add_sub_cancel_left] at hd
    simp only [stepP, stI] at hs
    split at hs
    · rename_i x st0
      cases hlt : Nat.blt n nL
      · rw [hlt] at hs; cases hs
      · rw [hlt] at hs
        cases hs
        exact lv_istore hx hb hd hl (Nat.blt_eq ▸ hlt) (trL_set b l0 n (.int x)) k
    · cases hs
  case astore_n n =>
    simp only [chE, Bool.and_eq_true, decide_eq_true_eq] at hc
    obtain ⟨hd, hn⟩ := hc
    try dsimp only at hn
    subst hn
    rw [Nat.add_sub_cancel_left] at hd
    simp only [stepP, stA] at hs
    split at hs
    · rename_i x st0
      cases hlt : Nat.blt n nL
      · rw [hlt] at hs; cases hs
      · rw [hlt] at hs
        cases hs
        exact lv_astore_n hx hb hd rfl hl (Nat.blt_eq ▸ hlt) (trL_set b l0 n (.ref x)) k
    · cases hs
  case astore n =>
    simp only [chE, Bool.and_eq_true, decide_eq_true_eq] at hc
    obtain ⟨hd, hn⟩ := hc
    try dsimp only at hn
    subst hn
    rw [Nat.add_sub_cancel_left] at hd
    simp only [stepP, stA] at hs
    split at hs
    · rename_i x st0
      cases hlt : Nat.blt n nL
      · rw [hlt] at hs; cases hs
      · rw [hlt] at hs
        cases hs
        exact lv_astore hx hb hd hl (Nat.blt_eq ▸ hlt) (trL_set b l0 n (.ref x)) k
    · cases hs
  case iinc n cst =>
    simp only [chE, Bool.and_eq_true, decide_eq_true_eq] at hc
    obtain ⟨hd, hn, hk⟩ := hc
    obtain ⟨r, hr⟩ := kc_eq hk
    try dsimp only at hr hn
    subst hn
    rw [Nat.add_sub_cancel_left] at hd
    simp only [stepP, inc] at hs
    rw [hr] at hs
    split at hs
    · rename_i x q r9 hg hq
      cases hq
      cases hlt : Nat.blt n nL
      · rw [hlt] at hs; cases hs
      · rw [hlt] at hs
        cases hs
        obtain ⟨j, hj⟩ := lget_k (b := b) hg
        exact lv_iinc hx hb hd hl hj rfl (Nat.blt_eq ▸ hlt) (trL_set b l0 n (.int (x + Int32.ofInt cst))) k
    · cases hs
  case iadd =>
    simp only [chE, Bool.and_eq_true, decide_eq_true_eq] at hc
    obtain ⟨hd, hn⟩ := hc
    try dsimp only at hn
    subst hn
    rw [Nat.add_sub_cancel_left] at hd
    simp only [stepP, bin] at hs
    split at hs
    · cases hs
      exact lv_iadd hx hb hd (k ls hl)
    · cases hs
  case ineg =>
    simp only [chE, Bool.and_eq_true, decide_eq_true_eq] at hc
    obtain ⟨hd, hn⟩ := hc
    try dsimp only at hn
    subst hn
    rw [Nat.add_sub_cancel_left] at hd
    simp only [stepP] at hs
    split at hs
    · cases hs
      exact lv_ineg hx hb hd (k ls hl)
    · cases hs
  case isub =>
    simp only [chE, Bool.and_eq_true, decide_eq_true_eq] at hc
    obtain ⟨hd, hn⟩ := hc
    try dsimp only at hn
    subst hn
    rw [Nat.add_sub_cancel_left] at hd
    simp only [stepP, bin] at hs
    split at hs
    · cases hs
      exact lv_isub hx hb hd (k ls hl)
    · cases hs
  case imul =>
    simp only [chE, Bool.and_eq_true, decide_eq_true_eq] at hc
    obtain ⟨hd, hn⟩ := hc
    try dsimp only at hn
    subst hn
    rw [Nat.add_sub_cancel_left] at hd
    simp only [stepP, bin] at hs
    split at hs
    · cases hs
      exact lv_imul hx hb hd (k ls hl)
    · cases hs
  case iand =>
    simp only [chE, Bool.and_eq_true, decide_eq_true_eq] at hc
    obtain ⟨hd, hn⟩ := hc
    try dsimp only at hn
    subst hn
    rw [Nat.add_sub_cancel_left] at hd
    simp only [stepP, bin] at hs
    split at hs
    · cases hs
      exact lv_iand hx hb hd (k ls hl)
    · cases hs
  case ior =>
    simp only [chE, Bool.and_eq_true, decide_eq_true_eq] at hc
    obtain ⟨hd, hn⟩ := hc
    try dsimp only at hn
    subst hn
    rw [Nat.add_sub_cancel_left] at hd
    simp only [stepP, bin] at hs
    split at hs
    · cases hs
      exact lv_ior hx hb hd (k ls hl)
    · cases hs
  case ishl =>
    simp only [chE, Bool.and_eq_true, decide_eq_true_eq] at hc
    obtain ⟨hd, hn⟩ := hc
    try dsimp only at hn
    subst hn
    rw [Nat.add_sub_cancel_left] at hd
    simp only [stepP, bin] at hs
    split at hs
    · cases hs
      exact lv_ishl hx hb hd (k ls hl)
    · cases hs
  case ishr =>
    simp only [chE, Bool.and_eq_true, decide_eq_true_eq] at hc
    obtain ⟨hd, hn⟩ := hc
    try dsimp only at hn
    subst hn
    rw [Nat.add_sub_cancel_left] at hd
    simp only [stepP, bin] at hs
    split at hs
    · cases hs
      exact lv_ishr hx hb hd (k ls hl)
    · cases hs
  case idiv =>
    simp only [chE, Bool.and_eq_true, decide_eq_true_eq] at hc
    obtain ⟨hd, hn⟩ := hc
    try dsimp only at hn
    subst hn
    rw [Nat.add_sub_cancel_left] at hd
    simp only [stepP, bind0] at hs
    split at hs
    · split at hs
      · cases hs
      · rename_i hne
        cases hs
        exact lv_idiv hx hb hd hne (k ls hl)
    · cases hs
  case irem =>
    simp only [chE, Bool.and_eq_true, decide_eq_true_eq] at hc
    obtain ⟨hd, hn⟩ := hc
    try dsimp only at hn
    subst hn
    rw [Nat.add_sub_cancel_left] at hd
    simp only [stepP, bind0] at hs
    split at hs
    · split at hs
      · cases hs
      · rename_i hne
        cases hs
        exact lv_irem hx hb hd hne (k ls hl)
    · cases hs
  case i2l =>
    simp only [chE, Bool.and_eq_true, decide_eq_true_eq] at hc
    obtain ⟨hd, hn⟩ := hc
    try dsimp only at hn
    subst hn
    rw [Nat.add_sub_cancel_left] at hd
    simp only [stepP] at hs
    split at hs
    · cases hs
      exact lv_i2l hx hb hd rfl (k ls hl)
    · cases hs
  case lcmp =>
    simp only [chE, Bool.and_eq_true, decide_eq_true_eq] at hc
    obtain ⟨hd, hn⟩ := hc
    try dsimp only at hn
    subst hn
    rw [Nat.add_sub_cancel_left] at hd
    simp only [stepP] at hs
    split at hs
    · cases hs
      exact W.lcmp hx hb hd (k ls hl)
    · cases hs
  case dup =>
    simp only [chE, Bool.and_eq_true, decide_eq_true_eq] at hc
    obtain ⟨hd, hn⟩ := hc
    try dsimp only at hn
    subst hn
    rw [Nat.add_sub_cancel_left] at hd
    simp only [stepP] at hs
    split at hs
    · rename_i v st0
      cases hv : v.category == 1
      · rw [hv] at hs; cases hs
      · rw [hv] at hs
        cases hs
        exact lv_dup hx hb hd (by rw [tv_cat]; exact beq_iff_eq.mp hv) (k ls hl)
    · cases hs
  case pop =>
    simp only [chE, Bool.and_eq_true, decide_eq_true_eq] at hc
    obtain ⟨hd, hn⟩ := hc
    try dsimp only at hn
    subst hn
    rw [Nat.add_sub_cancel_left] at hd
    simp only [stepP] at hs
    split at hs
    · rename_i v st0
      cases hv : v.category == 1
      · rw [hv] at hs; cases hs
      · rw [hv] at hs
        cases hs
        exact lv_pop hx hb hd (by rw [tv_cat]; exact beq_iff_eq.mp hv) (k ls hl)
    · cases hs
  case dup2 =>
    simp only [chE, Bool.and_eq_true, decide_eq_true_eq] at hc
    obtain ⟨hd, hn⟩ := hc
    try dsimp only at hn
    subst hn
    rw [Nat.add_sub_cancel_left] at hd
    simp only [stepP] at hs
    split at hs
    · rename_i v w st0
      cases hv : v.category == 1 && w.category == 1
      · rw [hv] at hs; cases hs
      · rw [hv] at hs
        cases hs
        rw [Bool.and_eq_true] at hv
        exact lv_dup2_11 hx hb hd (by rw [tv_cat]; exact beq_iff_eq.mp hv.1) (by rw [tv_cat]; exact beq_iff_eq.mp hv.2) (k ls hl)
    · cases hs
  case ifCond cn off =>
    simp only [chE, Bool.and_eq_true, decide_eq_true_eq] at hc
    obtain ⟨hd, hn, ho⟩ := hc
    try dsimp only at hn ho
    subst hn
    rw [Nat.add_sub_cancel_left] at hd
    simp only [stepP] at hs
    split at hs
    · cases cn
      case eq =>
        exact lv_if_eq hx hb hd ho (fun q => by
          simp only [icm, decide_eq_true q, cond_true] at hs
          cases hs
          exact k ls hl) (fun q => by
          simp only [icm, decide_eq_false q, cond_false] at hs
          cases hs
          exact k ls hl)
      case ne =>
        exact lv_if_ne hx hb hd ho (fun q => by
          simp only [icm, decide_eq_false q, Bool.not_false, cond_true] at hs
          cases hs
          exact k ls hl) (fun q => by
          simp only [icm, decide_eq_true q, Bool.not_true, cond_false] at hs
          cases hs
          exact k ls hl)
      case lt =>
        exact lv_if_lt hx hb hd ho (fun q => by
          simp only [icm, decide_eq_true q, cond_true] at hs
          cases hs
          exact k ls hl) (fun q => by
          simp only [icm, decide_eq_false q, cond_false] at hs
          cases hs
          exact k ls hl)
      case ge =>
        exact lv_if_ge hx hb hd ho (fun q => by
          simp only [icm, decide_eq_true q, cond_true] at hs
          cases hs
          exact k ls hl) (fun q => by
          simp only [icm, decide_eq_false q, cond_false] at hs
          cases hs
          exact k ls hl)
      case gt =>
        exact lv_if_gt hx hb hd ho (fun q => by
          simp only [icm, decide_eq_true q, cond_true] at hs
          cases hs
          exact k ls hl) (fun q => by
          simp only [icm, decide_eq_false q, cond_false] at hs
          cases hs
          exact k ls hl)
      case le =>
        exact lv_if_le hx hb hd ho (fun q => by
          simp only [icm, decide_eq_true q, cond_true] at hs
          cases hs
          exact k ls hl) (fun q => by
          simp only [icm, decide_eq_false q, cond_false] at hs
          cases hs
          exact k ls hl)
    · cases hs
  case if_icmp cn off =>
    simp only [chE, Bool.and_eq_true, decide_eq_true_eq] at hc
    obtain ⟨hd, hn, ho⟩ := hc
    try dsimp only at hn ho
    subst hn
    rw [Nat.add_sub_cancel_left] at hd
    simp only [stepP] at hs
    split at hs
    · cases cn
      case eq =>
        exact lv_icmp_eq hx hb hd ho (fun q => by
          simp only [icm, decide_eq_true q, cond_true] at hs
          cases hs
          exact k ls hl) (fun q => by
          simp only [icm, decide_eq_false q, cond_false] at hs
          cases hs
          exact k ls hl)
      case ne =>
        exact lv_icmp_ne hx hb hd ho (fun q => by
          simp only [icm, decide_eq_false q, Bool.not_false, cond_true] at hs
          cases hs
          exact k ls hl) (fun q => by
          simp only [icm, decide_eq_true q, Bool.not_true, cond_false] at hs
          cases hs
          exact k ls hl)
      case lt =>
        exact lv_icmp_lt hx hb hd ho (fun q => by
          simp only [icm, decide_eq_true q, cond_true] at hs
          cases hs
          exact k ls hl) (fun q => by
          simp only [icm, decide_eq_false q, cond_false] at hs
          cases hs
          exact k ls hl)
      case ge =>
        exact lv_icmp_ge hx hb hd ho (fun q => by
          simp only [icm, decide_eq_true q, cond_true] at hs
          cases hs
          exact k ls hl) (fun q => by
          simp only [icm, decide_eq_false q, cond_false] at hs
          cases hs
          exact k ls hl)
      case gt =>
        exact lv_icmp_gt hx hb hd ho (fun q => by
          simp only [icm, decide_eq_true q, cond_true] at hs
          cases hs
          exact k ls hl) (fun q => by
          simp only [icm, decide_eq_false q, cond_false] at hs
          cases hs
          exact k ls hl)
      case le =>
        exact lv_icmp_le hx hb hd ho (fun q => by
          simp only [icm, decide_eq_true q, cond_true] at hs
          cases hs
          exact k ls hl) (fun q => by
          simp only [icm, decide_eq_false q, cond_false] at hs
          cases hs
          exact k ls hl)
    · cases hs
  case goto off =>
    simp only [chE, Bool.and_eq_true, decide_eq_true_eq] at hc
    obtain ⟨hd, hn, ho⟩ := hc
    try dsimp only at hn ho
    subst hn
    rw [Nat.add_sub_cancel_left] at hd
    simp only [stepP] at hs
    cases hs
    exact lv_goto hx hb hd ho (k ls hl)
  case tableswitch dv lo hi offs =>
    simp only [chE, Bool.and_eq_true, decide_eq_true_eq] at hc
    obtain ⟨hd, ho, hw, hz⟩ := hc
    try dsimp only at ho
    simp only [stepP] at hs
    split at hs
    · rename_i x st0
      cases hs
      have hS := swT_spec hw d x
      rw [Array.length_toList] at hS
      by_cases h1 : x.toInt < lo ∨ hi < x.toInt
      · refine lv_tableOut hx hb hd h1 ?_ (k ls hl)
        rw [hS.2 (by omega)]
        exact ho
      · have h2 : ¬ x.toInt < lo := fun q => h1 (Or.inl q)
        have h3 : ¬ hi < x.toInt := fun q => h1 (Or.inr q)
        have hlt : (x.toInt - lo).toNat < offs.size := by omega
        exact lv_tableIn hx hb hd h2 h3 (Array.getElem?_eq_getElem hlt) (hS.1 _ (by omega) (by rw [Array.getElem?_toList]; exact Array.getElem?_eq_getElem hlt)) (k ls hl)
    · cases hs
  case lookupswitch dv ps =>
    simp only [chE, Bool.and_eq_true, decide_eq_true_eq] at hc
    obtain ⟨hd, ho, hw, hz⟩ := hc
    try dsimp only at ho
    simp only [stepP] at hs
    split at hs
    · rename_i x st0
      cases hs
      exact lv_lookup hx hb hd hz rfl (swL_spec ho hw x) (k ls hl)
    · cases hs
  all_goals exact absurd hs (by simp [stepP])
end MSTEP
