/-! ===== the drawn system: what holds behind each call ===== -/
def J (n : Nat) (t : Int32) (l : Sg) : Prop := n ≤ 60 ∧ CI l n ∧ IV l ∧ ST l ∧ KF l ∧ cntQ l n ≤ 3 ∧ (∀ c, n ≤ c → ¬ l 311 c = 1) ∧ (∀ i, i < 84 → l 295 i = 0 ∨ l 295 i = 1) ∧ l 292 0 = t
section DRAWN
variable {n : Nat} {t : Int32} {l l' : Sg}
theorem J_act {c : Nat} (h : J n t l) (hc : c < n) (hf : FX c l l') (hi : IV l') (hC : CI l' n) (hg : GO n c l') : J n t l' := by
  obtain ⟨h1, h2, h3, h4, h5, h6, h7, h8, h9⟩ := h
  refine ⟨h1, hC, hi, hg.1, hg.2.1, hg.2.2.1, fun j hj => ?_, fun i hq => ?_, ?_⟩
  · rw [(FX_311 hf j (by omega)).1]
    exact h7 j hj
  · rw [FX_cfg hf (k := 295) rfl]
    exact h8 i hq
  · rw [hf 292 0 rfl]
    exact h9
theorem FX_all (hf : ∀ c, FX c l l') : ∀ j, l' 311 j = l 311 j ∧ l' 320 j = l 320 j := fun j => FX_311 (hf (j + 1)) j (by omega)
theorem J_same (h : J n t l) (hf : ∀ c, FX c l l') (hi : IV l') (hC : CI l' n) : J n t l' := by
  obtain ⟨h1, h2, h3, h4, h5, h6, h7, h8, h9⟩ := h
  have e := FX_all hf
  refine ⟨h1, hC, hi, fun j => by rw [(e j).1]; exact h4 j, KF_fx (hf 0) h5, by rw [cnt_same e]; exact h6, fun j hj => by rw [(e j).1]; exact h7 j hj, fun i hq => ?_, ?_⟩
  · rw [FX_cfg (hf 0) (k := 295) rfl]
    exact h8 i hq
  · rw [hf 0 292 0 rfl]
    exact h9
theorem J_81 {c : Nat} {x : Int32} (h : J n t l) (hc : c < n) : J n t (f_81 n c x l) :=
  J_act h hc (fx_81 FX_rf) (iv_81 h.2.2.1) (ci_81 h.2.1) (GO_81 h.1 h.2.2.2.1 h.2.2.2.2.1 h.2.2.2.2.2.1)
theorem J_80 {c : Nat} {x : Int32} (h : J n t l) (hc : c < n) : J n t (f_80 n c x l) := by
  refine J_act h hc (fx_80 FX_rf) (iv_80 h.2.2.1) (ci_80 h.2.1) ?_
  unfold f_80
  obtain ⟨h1, h2, h3, h4, h5, h6, h7, h8, h9⟩ := h
  refine b_ite (P := GO n c) (b_bnd (P := GO n c) ?_) (b_bnd (P := GO n c) (GO_81 h1 h4 h5 h6))
  have hf : ∀ c, FX c l (up2 l 310 x.toNatClampNeg (l 310 x.toNatClampNeg + 1)) := fun c => FX_up FX_rf rfl
  have e := FX_all hf
  exact GO_81 h1 (fun j => by rw [(e j).1]; exact h4 j) (KF_fx (hf 0) h5) (by rw [cnt_same e]; exact h6)
theorem J_88 : ∀ (d j : Nat) (l : Sg), J n t l → j + d = n → J n t (g_88 n d j l) := by
  intro d
  induction d with
  | zero =>
    intro j l h _
    rw [g_88]
    exact h
  | succ d ih =>
    intro j l h hj
    rw [g_88]
    have hb : J n t (f_89 j l).2 := J_same h (fun c => b_89 FX_ben FX_rf) (b_89 IV_ben h.2.2.1) (ci_89 h.2.1)
    have key : J n t (bnd2 (f_89 j l) fun v5 l5 => (if v5 = (-2 : Int32) then g_88 n d (j + 1) l5 else (bnd (f_81 n j v5 l5) fun l7 => g_88 n d (j + 1) l7))) := by
      refine b_bnd2 (P := J n t) (b_ite (ih _ _ hb (by omega)) (b_bnd (P := J n t) (ih _ _ (J_81 hb (by omega)) (by omega))))
    have h4 : ¬ l 311 j = 4 := by
      rcases h.2.2.2.1 j with q | q | q | q <;> rw [q] <;> decide
    refine b_ite ?_ (ih _ _ h (by omega))
    rw [if_pos h4]
    exact b_ite key (b_ite (ih _ _ h (by omega)) key)
theorem J_94 : ∀ (d j : Nat) (l : Sg), J n t l → J n t (g_94 d j l) := by
  intro d
  induction d with
  | zero =>
    intro j l h
    rw [g_94]
    exact h
  | succ d ih =>
    intro j l h
    rw [g_94]
    refine b_ite (ih _ _ h) (b_ite (ih _ _ h) (b_bnd (P := J n t) (ih _ _ ?_)))
    exact J_same h (fun c => fx_1 FX_rf) (iv_1 h.2.2.1) (ci_1 h.2.1)
theorem g99_in {s : Int32} : ∀ (d j : Nat) (a b : Int32), j + d = n → (a = -1 ∨ ∃ q, q < n ∧ a = i32 q ∧ ¬ f_15 q (l 292 0) l = 0) → (g_99 n s d j a b l = -1 ∨ ∃ q, q < n ∧ g_99 n s d j a b l = i32 q ∧ ¬ f_15 q (l 292 0) l = 0) := by
  intro d
  induction d with
  | zero =>
    intro j a b _ h
    rw [g_99]
    exact h
  | succ d ih =>
    intro j a b hj h
    rw [g_99]
    by_cases h1 : f_15 j (l 292 0) l = 0
    · rw [if_pos h1]
      exact ih _ _ _ (by omega) h
    · rw [if_neg h1]
      have hn : i32 j = -1 ∨ ∃ q, q < n ∧ i32 j = i32 q ∧ ¬ f_15 q (l 292 0) l = 0 := Or.inr ⟨j, by omega, rfl, h1⟩
      by_cases h2 : (s &&& ((1 : Int32) <<< (l 320 j &&& 31))) = 0
      · rw [if_pos h2]
        exact ih _ _ _ (by omega) h
      · rw [if_neg h2]
        by_cases h3 : a = -1
        · rw [if_pos h3]
          exact ih _ _ _ (by omega) hn
        · rw [if_neg h3]
          by_cases h4 : f_103 (f_16 j (l 292 0) l) (i32 j) b a = 0
          · rw [if_pos h4]
            exact ih _ _ _ (by omega) h
          · rw [if_neg h4]
            exact ih _ _ _ (by omega) hn
theorem f99_in {s : Int32} (hn : n ≤ 60) (hS : ST l) (h : isCl n (f_99 n s l)) : (f_99 n s l).toNatClampNeg < n ∧ l 311 (f_99 n s l).toNatClampNeg = 1 := by
  have h1 := g99_in (n := n) (l := l) (s := s) n 0 (-1) 0 (by omega) (Or.inl rfl)
  change f_99 n s l = -1 ∨ ∃ q, q < n ∧ f_99 n s l = i32 q ∧ ¬ f_15 q (l 292 0) l = 0 at h1
  rcases h1 with h1 | ⟨q, hq, h1, h2⟩
  · rw [h1] at h
    exact absurd h.1 (by decide)
  · rw [h1, i32_cl (by omega)]
    refine ⟨hq, ?_⟩
    unfold f_15 at h2
    rcases hS q with z | z | z | z
    · rw [z] at h2
      exact absurd (by rw [if_neg (by decide), if_pos (by decide)]) h2
    · exact z
    · rw [z] at h2
      exact absurd (by rw [if_neg (by decide), if_pos (by decide)]) h2
    · rw [z] at h2
      exact absurd (by rw [if_neg (by decide), if_pos (by decide)]) h2
theorem J_100 {a : Int32} {c : Nat} (h : J n t l) (hc : c < n) (h1 : l 311 c = 1) : J n t (f_100 a c l) := by
  obtain ⟨g1, g2, g3, g4, g5, g6, g7, g8, g9⟩ := id h
  have hf : FX c l (f_100 a c l) := fx_100 FX_rf
  have hs : f_100 a c l 311 c = 2 := by
    have : AT 311 c 2 (f_100 a c l) := by
      unfold f_100
      rw [if_neg (not_not_intro h1)]
      refine b_bnd (P := AT 311 c 2) (AT_up (AT_up (AT_up (AT_up (AT_up ?_ rfl) rfl) rfl) rfl) rfl)
      exact s_92
    exact this
  have hS : ST (f_100 a c l) := ST_fx hf g4 (Or.inr (Or.inr (Or.inl hs)))
  refine ⟨g1, ci_100 g2, iv_100 g3, hS, KF_fx hf g5, Nat.le_trans (cnt_le (FX_311 hf) (by rw [hs]; decide) n) g6, fun j hj => ?_, fun i hq => ?_, ?_⟩
  · rw [(FX_311 hf j (by omega)).1]
    exact g7 j hj
  · rw [FX_cfg hf (k := 295) rfl]
    exact g8 i hq
  · rw [hf 292 0 rfl]
    exact g9
theorem J_96 : ∀ (d j : Nat) (l : Sg), J n t l → J n t (g_96 n d j l) := by
  intro d
  induction d with
  | zero =>
    intro j l h
    rw [g_96]
    exact h
  | succ d ih =>
    intro j l h
    rw [g_96]
    refine b_ite ?_ h
    by_cases q : isCl n (f_99 n (l 327 ((f_97 n l).toNatClampNeg)) l)
    · rw [if_pos q]
      obtain ⟨q1, q2⟩ := f99_in h.1 h.2.2.2.1 q
      exact b_bnd (P := J n t) (ih _ _ (J_100 h q1 q2))
    · rw [if_neg q]
      exact ih _ _ h
theorem J_5 (h : J n t l) : J n t (f_5 l) := J_same h (fun c => b_5 FX_ben FX_rf) (b_5 IV_ben h.2.2.1) (ci_5 h.2.1)
theorem J_95 (h : J n t l) : J n t (f_95 n l) := by
  unfold f_95
  exact b_bnd (P := J n t) (b_bnd (P := J n t) (J_5 (J_96 _ _ _ h)))
/-- a desk that is not off stays so -/
theorem D_92 {a c : Nat} {s : Int32} (h : DV a l) : DV a (f_92 c s l) := by
  unfold f_92
  (repeat' first | with_reducible exact h | with_reducible refine b_ite ?_ ?_ | with_reducible refine b_bnd ?_ | with_reducible refine b_4 DV_ben ?_ | with_reducible refine DV_up ?_ ?_) <;> (intro q; exact absurd q (by decide))
theorem D_100 {a0 c : Nat} {a : Int32} (h : DV a0 l) : DV a0 (f_100 a c l) := by
  unfold f_100
  refine b_ite (b_bnd (P := DV a0) ?_) (b_bnd (P := DV a0) ?_)
  · exact DV_up (DV_up (DV_up (DV_up (DV_up (D_92 h) (fun q => absurd q (by decide))) (fun q => absurd q (by decide))) (fun q => absurd q (by decide))) (fun q => absurd q (by decide))) (fun _ => by decide)
  · exact DV_up (DV_up (DV_up (DV_up (DV_up (D_92 h) (fun q => absurd q (by decide))) (fun q => absurd q (by decide))) (fun q => absurd q (by decide))) (fun q => absurd q (by decide))) (fun _ => by decide)
theorem D_96 {a : Nat} : ∀ (d j : Nat) (l : Sg), DV a l → DV a (g_96 n d j l) := by
  intro d
  induction d with
  | zero =>
    intro j l h
    rw [g_96]
    exact h
  | succ d ih =>
    intro j l h
    rw [g_96]
    exact b_ite (b_ite (b_bnd (P := DV a) (ih _ _ (D_100 h))) (ih _ _ h)) h
theorem D_95 {a : Nat} (h : DV a l) : DV a (f_95 n l) := by
  unfold f_95
  exact b_bnd (P := DV a) (b_bnd (P := DV a) (b_5 DV_ben (D_96 _ _ _ h)))
/-! ===== the calls ===== -/
theorem j_45 {x : Int32} (h : J n t l) (hn : n < 60) (hx : isN x) : ∃ l', f_45 n x l = (.inl (i32 n), l') ∧ J (n + 1) t l' := by
  obtain ⟨g1, g2, g3, g4, g5, g6, g7, g8, g9⟩ := id h
  refine ⟨f_95 (n + 1) (f_80 (n + 1) n x (up2 l 292 19 (i32 (n + 1)))), ?_, ?_⟩
  · unfold f_45
    rw [if_pos hx, if_pos hn]
    rfl
  · refine J_95 (J_80 ?_ (Nat.lt_succ_self n))
    have e : ∀ k j, ¬ k = 292 → up2 l 292 19 (i32 (n + 1)) k j = l k j := fun k j hk => by
      unfold up2
      rw [if_neg (fun q => hk q.1)]
    refine ⟨by omega, CI_cnt g2, IV_any g3 rfl, fun j => by rw [e _ _ (by decide)]; exact g4 j, fun m hm => ?_, ?_, fun j hj => ?_, fun i hi => ?_, ?_⟩
    · rw [e _ _ (by decide), e _ _ (by decide), e _ _ (by decide)]
      exact g5 m hm
    · have e2 : cntQ (up2 l 292 19 (i32 (n + 1))) n = cntQ l n := cnt_same (fun j => ⟨e _ _ (by decide), e _ _ (by decide)⟩) n
      show cntQ (up2 l 292 19 (i32 (n + 1))) n + (if up2 l 292 19 (i32 (n + 1)) 311 n = 1 ∧ up2 l 292 19 (i32 (n + 1)) 320 n = 0 then 1 else 0) ≤ 3
      rw [e2, e 311 n (by decide), if_neg (fun q => g7 n (Nat.le_refl n) q.1)]
      omega
    · rw [e _ _ (by decide)]
      exact g7 j (by omega)
    · rw [e _ _ (by decide)]
      exact g8 i hi
    · have : up2 l 292 19 (i32 (n + 1)) 292 0 = l 292 0 := by
        unfold up2
        rw [if_neg (fun q => absurd q.2 (by decide))]
      rw [this]
      exact g9
theorem isCl_i {c : Nat} (hn : n ≤ 60) (hc : c < n) : isCl n (i32 c) := by
  refine ⟨?_, (i32_lt (by omega) (by omega)).mpr hc⟩
  have := (i32_le (a := 0) (b := c) (by decide) (by omega)).mpr (Nat.zero_le c)
  exact this
theorem j_46 {c : Nat} {x : Int32} (h : J n t l) (hc : c < n) (hs : l 311 c = 0 ∨ l 311 c = 1) (hx : 0 ≤ x ∧ x ≤ 11) : ∃ v l', f_46 n (i32 c) x l = (.inl v, l') ∧ J n t l' ∧ v ≤ 29 := by
  have hcl := isCl_i h.1 hc
  have ec : (i32 c).toNatClampNeg = c := i32_cl (by have := h.1; omega)
  have hb : J n t (f_85 c x l).2 := J_same h (fun c => b_85 FX_ben FX_rf) (b_85 IV_ben h.2.2.1) (ci_85 h.2.1)
  have key : ∃ v l', (bnd2 (f_85 c x l) fun v6 l6 => (if v6 = (-2 : Int32) then ((.inl (l6 313 c), l6) : PO) else (bnd (f_81 n c v6 l6) fun l8 => (bnd (f_95 n l8) fun l9 => (.inl (l9 313 c), l9))))) = (.inl v, l') ∧ J n t l' ∧ v ≤ 29 := by
    generalize f_85 c x l = r at hb ⊢
    obtain ⟨v, l6⟩ := r
    by_cases q : v = -2
    · refine ⟨l6 313 c, l6, ?_, hb, hb.2.2.1.2.2.1 c⟩
      show (if v = (-2 : Int32) then ((.inl (l6 313 c), l6) : PO) else _) = _
      rw [if_pos q]
    · have h9 : J n t (f_95 n (f_81 n c v l6)) := J_95 (J_81 hb hc)
      refine ⟨f_95 n (f_81 n c v l6) 313 c, f_95 n (f_81 n c v l6), ?_, h9, h9.2.2.1.2.2.1 c⟩
      show (if v = (-2 : Int32) then ((.inl (l6 313 c), l6) : PO) else _) = _
      rw [if_neg q]
      rfl
  unfold f_46
  rw [if_pos hcl, if_pos hx, ec]
  rcases hs with hs | hs
  · rw [if_pos hs]
    exact key
  · rw [if_neg (show ¬ l 311 c = 0 by rw [hs]; decide), if_pos hs]
    exact key
theorem ge1 {x : Int32} (h : 0 ≤ x) (h2 : ¬ x = 0) : 1 ≤ x := by
  rw [Int32.le_iff_toInt_le] at h ⊢
  have e0 : (0 : Int32).toInt = 0 := by decide
  have e1 : (1 : Int32).toInt = 1 := by decide
  have : ¬ x.toInt = 0 := fun q => h2 (Int32.toInt_inj.mp (q.trans e0.symm))
  omega
theorem isA_i {a : Nat} (ha : a < 6) : isA (i32 a) := by
  refine ⟨(i32_le (a := 0) (b := a) (by decide) (by omega)).mpr (Nat.zero_le a), (i32_lt (b := 6) (by omega) (by decide)).mpr ha⟩
theorem j_49 {a : Nat} {x : Int32} (h : J n t l) (ha : a < 6) (hs : ¬ (l 326 a = 2 ∨ l 326 a = 3)) (hx : 1 ≤ x ∧ x ≤ 63) : ∃ v l', f_49 n (i32 a) x l = (.inl v, l') ∧ J n t l' ∧ -1 ≤ v ∧ 1 ≤ l' 326 a := by
  have ea : (i32 a).toNatClampNeg = a := i32_cl (by omega)
  have h1 : J n t (up2 l 327 a x) := J_same h (fun c => FX_up FX_rf rfl) (IV_any h.2.2.1 rfl) (CI_up h.2.1 rfl)
  unfold f_49
  rw [if_pos (isA_i ha), if_pos hx, ea, if_pos hs]
  by_cases q : l 326 a = 0
  · rw [if_neg (not_not_intro q)]
    have h2 : J n t (f_1 a (l 292 0) (up2 l 327 a x)) := J_same h1 (fun c => fx_1 FX_rf) (iv_1 h1.2.2.1) (ci_1 h1.2.1)
    have h3 := J_95 h2
    refine ⟨_, _, rfl, h3, h3.2.2.1.1 a, ?_⟩
    have hd : DV a (f_1 a (l 292 0) (up2 l 327 a x)) := by
      unfold f_1 DV
      simp [up2]
    exact D_95 hd
  · rw [if_pos q]
    have h3 := J_95 h1
    refine ⟨_, _, rfl, h3, h3.2.2.1.1 a, ?_⟩
    have hd : DV a (up2 l 327 a x) := DV_up (ge1 (h.2.2.1.2.1 a) q) (fun z => absurd z (by decide))
    exact D_95 hd
theorem J_now {t' : Int32} (h : J n t l) : J n t' (up2 l 292 0 t') := by
  obtain ⟨g1, g2, g3, g4, g5, g6, g7, g8, g9⟩ := h
  have e : ∀ k j, ¬ k = 292 → up2 l 292 0 t' k j = l k j := fun k j hk => by
    unfold up2
    rw [if_neg (fun q => hk q.1)]
  refine ⟨g1, CI_now g2, IV_any g3 rfl, fun j => by rw [e _ _ (by decide)]; exact g4 j, fun m hm => ?_, ?_, fun j hj => ?_, fun i hi => ?_, ?_⟩
  · rw [e _ _ (by decide), e _ _ (by decide), e _ _ (by decide)]
    exact g5 m hm
  · rw [cnt_same (fun j => ⟨e _ _ (by decide), e _ _ (by decide)⟩) n]
    exact g6
  · rw [e _ _ (by decide)]
    exact g7 j hj
  · rw [e _ _ (by decide)]
    exact g8 i hi
  · unfold up2
    rw [if_pos ⟨rfl, rfl⟩]
theorem J_g54 {u : Nat} : ∀ (d j T : Nat) (l : Sg), J n (i32 T) l → ∃ l', g_54 n u d j l = (.inl (i32 (T + d)), l') ∧ J n (i32 (T + d)) l' := by
  intro d
  induction d with
  | zero =>
    intro j T l h
    refine ⟨l, ?_, h⟩
    rw [g_54, h.2.2.2.2.2.2.2.2]
    rfl
  | succ d ih =>
    intro j T l h
    rw [g_54]
    have e : l 292 0 + 1 = i32 (T + 1) := by
      rw [h.2.2.2.2.2.2.2.2]
      exact i32_add T 1
    have h1 : J n (i32 (T + 1)) (up2 l 292 0 (l 292 0 + 1)) := by
      rw [e]
      exact J_now h
    have h2 : J n (i32 (T + 1)) (f_95 n (f_94 (f_88 n (up2 l 292 0 (l 292 0 + 1))))) := J_95 (J_94 _ _ _ (J_88 _ _ _ h1 (by omega)))
    obtain ⟨l', h3, h4⟩ := ih (j + 1) (T + 1) _ h2
    refine ⟨l', ?_, ?_⟩
    · have e2 : T + (d + 1) = T + 1 + d := by omega
      rw [e2]
      exact h3
    · have e2 : T + (d + 1) = T + 1 + d := by omega
      rw [e2]
      exact h4
theorem j_54 {u T : Nat} (h : J n (i32 T) l) (h1 : 1 ≤ u) (h2 : u ≤ 100) (h3 : T + u ≤ 20000) : ∃ l', f_54 n (i32 u) l = (.inl (i32 (T + u)), l') ∧ J n (i32 (T + u)) l' := by
  unfold f_54
  rw [if_pos ⟨(i32_le (a := 1) (b := u) (by decide) (by omega)).mpr h1, (i32_le (b := 100) (by omega) (by decide)).mpr h2⟩]
  rw [h.2.2.2.2.2.2.2.2, i32_add, if_pos (show i32 (T + u) ≤ (20000 : Int32) from (i32_le (b := 20000) (by omega) (by decide)).mpr h3), i32_cl (by omega)]
  exact J_g54 u 0 T l h
theorem j_62 (h : J n t l) : ∃ v, f_62 n 0 l = (.inl v, l) ∧ v ≤ 3 := by
  refine ⟨i32 (cntQ l n), ?_, ?_⟩
  · unfold f_62
    rw [if_pos (by decide), f102_eq h.2.2.2.1]
  · have := h.2.2.2.2.2.1
    exact (i32_le (b := 3) (by omega) (by decide)).mpr this
theorem j_56 {c : Nat} (h : J n t l) (hc : c < n) : f_56 n (i32 c) l = (.inl (l 311 c), l) := by
  unfold f_56
  rw [if_pos (isCl_i h.1 hc), i32_cl (by have := h.1; omega)]
theorem j_63 {a : Nat} (ha : a < 6) : f_63 n (i32 a) l = (.inl (l 326 a), l) := by
  unfold f_63
  rw [if_pos (isA_i ha), i32_cl (by omega)]
end DRAWN
