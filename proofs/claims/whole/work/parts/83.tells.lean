/-! ===== what is told of nodes ===== -/
def ndG (F : Nat) : Bool := ndF F && (!(F == 307) && !(F == 308))
theorem up2_n {l : Sg} {G F m i : Nat} {v : Int32} (hG : ndG G = true) (h : ¬ (ndG F = true ∧ i = m)) : up2 l G m v F i = l F i := by
  unfold up2
  rw [if_neg]
  rintro ⟨rfl, rfl⟩
  exact h ⟨hG, rfl⟩
theorem up2_41 {z : Sg} {F i : Nat} {v : Int32} (h : ¬ F = 292 ∨ ¬ i = 41) : up2 z 292 41 v F i = z F i := by
  unfold up2
  rw [if_neg]
  rintro ⟨p1, p2⟩
  rcases h with q | q
  · exact q p1
  · exact q p2
theorem tell_ok {l l' z z' : Sg} {n t s m : Nat} (h : RX l z n t t none s) (hs : s < 512) (hk : takerN z n 6 = none) (hq : quiet z n) (hm : m < 30)
    (hl : ∀ F i, ¬ (ndG F = true ∧ i = m) → l' F i = l F i) (hz : ∀ F i, ¬ (ndG F = true ∧ i = m) → ¬ F = 292 ∨ ¬ i = 41 → z' F i = z F i)
    (hN : nodeR l' z' m) (h9 : z' 301 m ≤ 29 ∧ z' 302 m ≤ 29) (hky : kyN z' m ≤ kyN z m) : RR l' z' := by
  have hM := GR_m h.1
  have gf : ∀ {F}, ndF F = false → ndG F = false := fun {F} e => by unfold ndG; rw [e]; rfl
  have hz' : ∀ F i, ndF F = false → ¬ F = 292 ∨ ¬ i = 41 → z' F i = z F i := fun F i e e2 => hz F i (fun q => by rw [gf e] at q; exact absurd q.1 (by decide)) e2
  refine told_RR h hs hk hz' (told_R h hq (fun F i e => hl F i (fun q => by rw [gf e] at q; exact absurd q.1 (by decide))) hz' (fun k hk => ?_) ⟨fun k hk => ?_, fun i hi => ?_, fun i hi => ?_, fun c hc => ?_⟩ (fun i hi => ?_) (fun F i hF => ?_) (fun k hk i j hi hj he => ?_))
  · by_cases e : k = m
    · rw [e]; exact hN
    · exact nodeR_cg (GR_n h.1 hk) (fun F _ => hl F k (fun q => e q.2)) (fun F h1 h2 => hz F k (fun q => e q.2) (Or.inl (by omega)))
  · by_cases e : k = m
    · rw [e]; exact h9
    · rw [hz 301 k (fun q => e q.2) (Or.inl (by decide)), hz 302 k (fun q => e q.2) (Or.inl (by decide))]
      exact hM.1 k hk
  · rw [hz 308 i (fun q => by cases q.1) (Or.inl (by decide))]; exact hM.2.1 i hi
  · rw [hz 319 i (fun q => by cases q.1) (Or.inl (by decide))]; exact hM.2.2.1 i hi
  · rw [hz 318 c (fun q => by cases q.1) (Or.inl (by decide))]; exact hM.2.2.2 c hc
  · rw [hz 308 i (fun q => by cases q.1) (Or.inl (by decide))]; exact h.1.2.2.2.2.2.2.2.2.1 i hi
  · have hW := WEk h.1 F i hF
    rcases hF with rfl | rfl | rfl
    · by_cases e : i = m
      · rw [e]; exact hN.2.2.2.2.2.2.2.2.1
      · rw [hl 306 i (fun q => e q.2), hz 306 i (fun q => e q.2) (Or.inl (by decide))]; exact hW
    · rw [hl 307 i (fun q => by cases q.1), hz 307 i (fun q => by cases q.1) (Or.inl (by decide))]; exact hW
    · rw [hl 308 i (fun q => by cases q.1), hz 308 i (fun q => by cases q.1) (Or.inl (by decide))]; exact hW
  · have hkk : kyN z' k ≤ kyN z k := by
      by_cases e : k = m
      · rw [e]; exact hky
      · have : kyN z' k = kyN z k := by unfold kyN; rw [hz 306 k (fun q => e q.2) (Or.inl (by decide))]
        omega
    rw [hz 307 _ (fun q => by cases q.1) (Or.inl (by decide)), hz 307 _ (fun q => by cases q.1) (Or.inl (by decide))] at he
    exact h.1.2.2.2.2.2.2.2.2.2.2.2.2.2 k hk i j (by omega) (by omega) he
theorem in_rng {b c : Int32} (h1 : 1 ≤ b ∧ b ≤ 6) (h2 : b ≤ c ∧ c ≤ 6) : ∃ x y, 1 ≤ x ∧ x ≤ y ∧ y ≤ 6 ∧ b = i32 x ∧ c = i32 y := by
  obtain ⟨x, x1, rfl⟩ := i32_of (n := 6) (by decide) (Int32.le_trans (by decide) h1.1) h1.2
  obtain ⟨y, y1, rfl⟩ := i32_of (n := 6) (by decide) (Int32.le_trans (Int32.le_trans (by decide) h1.1) h2.1) h2.2
  exact ⟨x, y, (i32_le (a := 1) (by decide) (by omega)).mp h1.1, (i32_le (by omega) (by omega)).mp h2.1, y1, rfl, rfl⟩
theorem sk_rng {b : Int32} (h1 : 0 ≤ b ∧ b ≤ 5) : ∃ x, x < 6 ∧ b = i32 x := by
  obtain ⟨x, x1, rfl⟩ := i32_of (n := 5) (by decide) h1.1 h1.2
  exact ⟨x, by omega, rfl⟩
theorem br_rng {b c : Int32} (h1 : 0 ≤ b ∧ b ≤ 4) (h2 : 0 ≤ c ∧ c ≤ f_79 b) : ∃ x, x ≤ 4 ∧ b = i32 x ∧ (b = 2 ∨ b = 4 → ∃ q, q < 6 ∧ c = i32 q) := by
  obtain ⟨x, x1, rfl⟩ := i32_of (n := 4) (by decide) h1.1 h1.2
  refine ⟨x, x1, rfl, fun q => ?_⟩
  have e : f_79 (i32 x) = 5 := by rcases q with q | q <;> rw [q] <;> decide
  rw [e] at h2
  exact sk_rng h2
theorem f_79_eq {b : Int32} : mostA b = f_79 b := by
  unfold mostA f_79
  by_cases h2 : b = 2
  · rw [if_pos (Or.inl h2), if_pos h2]
  · by_cases h4 : b = 4
    · rw [if_pos (Or.inr h4), if_neg h2, if_neg (by rw [h4]; decide), if_pos h4]
    · rw [if_neg (fun q => by rcases q with q | q; exact h2 q; exact h4 q), if_neg h2, if_neg h4]
theorem sim_say {l z : Sg} {n t s : Nat} {a b c : Int32} (h : RX l z n t t none s) (hs : s < 512) (hk : takerN z n 6 = none) : simV (wv 182 (f_31 n a b c l)) (sSay z n a b c) := by
  have hRR : RR l z := ⟨n, t, s, h, hs, hk⟩
  by_cases h1 : isN a
  rotate_left
  · have eC : f_31 n a b c l = (.inr 0, l) := by
      unfold f_31
      rw [if_neg h1]
    have eM : sSay z n a b c = thr z 1 := by
      unfold sSay
      rw [if_pos (show ¬ (isN a ∧ isT c) from fun q => h1 q.1)]
    rw [eC, eM]
    exact simV_no rfl rfl (RR_thr hRR)
  by_cases h2 : isT c
  rotate_left
  · have eC : f_31 n a b c l = (.inr 0, l) := by
      unfold f_31
      rw [if_pos h1, if_neg h2]
    have eM : sSay z n a b c = thr z 1 := by
      unfold sSay
      rw [if_pos (show ¬ (isN a ∧ isT c) from fun q => h2 q.2)]
    rw [eC, eM]
    exact simV_no rfl rfl (RR_thr hRR)
  by_cases h3 : 1 ≤ b ∧ b ≤ 60
  rotate_left
  · have eC : f_31 n a b c l = (.inr 1, l) := by
      unfold f_31
      rw [if_pos h1, if_pos h2, if_neg h3]
    have eM : sSay z n a b c = thr z 2 := by
      unfold sSay
      rw [if_neg (show ¬ ¬ (isN a ∧ isT c) from fun q => q ⟨h1, h2⟩), if_pos (show ¬ (1 ≤ b ∧ b ≤ 60) from fun q => h3 q)]
    rw [eC, eM]
    exact simV_no rfl rfl (RR_thr hRR)
  by_cases hq : quiet z n
  · have eC : f_31 n a b c l = (.inl 0, up2 (f_25 a.toNatClampNeg 1 c (-1) l) 433 a.toNatClampNeg b) := by
      unfold f_31
      rw [if_pos h1, if_pos h2, if_pos h3, if_pos ((quiet_iff h).mpr hq)]
      rfl
    have eM : sSay z n a b c = up2 (up2 (sTell z a.toNatClampNeg 1) 297 a.toNatClampNeg b) 301 a.toNatClampNeg c := by
      unfold sSay
      rw [if_neg (show ¬ ¬ (isN a ∧ isT c) from fun q => q ⟨h1, h2⟩), if_neg (show ¬ ¬ (1 ≤ b ∧ b ≤ 60) from fun q => q h3), if_pos hq]
    rw [eC, eM]
    obtain ⟨hm, _⟩ := isN_lt h1
    generalize a.toNatClampNeg = m at hm ⊢
    refine simV_ok (by simp [sTell, up2]) (tell_ok h hs hk hq hm (fun F i g => ?_) (fun F i g g2 => ?_) ?_ ?_ ?_)
    · unfold f_25; repeat rw [up2_n rfl g]
    · unfold sTell; repeat rw [up2_n rfl g]
      exact up2_41 g2
    · exact ⟨(by simp [f_25, sTell, up2]), (fun _ => ⟨by simp [f_25, sTell, up2], by simp [f_25, sTell, up2]; exact h2.1⟩), (fun _ => by simp [f_25, sTell, up2]), (fun _ => by simp [f_25, sTell, up2]), (fun q => absurd q (by simp [f_25, sTell, up2])), (by simp [f_25, sTell, up2]), (by simp [f_25, sTell, up2]), (by simp [f_25, sTell, up2]), (by simp [f_25, sTell, up2]), ⟨by simp [kyN, sTell, up2], by simp [kyN, sTell, up2]; rfl⟩, (fun _ => by simp [f_25, sTell, up2]), (fun q => absurd q (by simp [f_25, sTell, up2])), (fun q => absurd q (by simp [f_25, sTell, up2])), (fun q => absurd q (by simp [f_25, sTell, up2])), (fun q => absurd q (by simp [f_25, sTell, up2]))⟩
    · exact ⟨by simp [sTell, up2]; exact h2.2, by simp [sTell, up2]⟩
    · simp [kyN, sTell, up2]
  · have eC : f_31 n a b c l = (.inr 2, l) := by
      unfold f_31
      rw [if_pos h1, if_pos h2, if_pos h3, if_neg (fun q => hq ((quiet_iff h).mp q))]
    have eM : sSay z n a b c = thr z 3 := by
      unfold sSay
      rw [if_neg (show ¬ ¬ (isN a ∧ isT c) from fun q => q ⟨h1, h2⟩), if_neg (show ¬ ¬ (1 ≤ b ∧ b ≤ 60) from fun q => q h3), if_neg hq]
    rw [eC, eM]
    exact simV_no rfl rfl (RR_thr hRR)
theorem sim_menu {l z : Sg} {n t s : Nat} {a : Int32} (h : RX l z n t t none s) (hs : s < 512) (hk : takerN z n 6 = none) : simV (wv 183 (f_32 n a l)) (sMenu z n 2 a) := by
  have hRR : RR l z := ⟨n, t, s, h, hs, hk⟩
  by_cases h1 : isN a
  rotate_left
  · have eC : f_32 n a l = (.inr 0, l) := by
      unfold f_32
      rw [if_neg h1]
    have eM : sMenu z n 2 a = thr z 1 := by
      unfold sMenu
      rw [if_pos (show ¬ (isN a) from fun q => h1 q)]
    rw [eC, eM]
    exact simV_no rfl rfl (RR_thr hRR)
  by_cases hq : quiet z n
  · have eC : f_32 n a l = (.inl 0, f_25 a.toNatClampNeg 2 (-1) (-1) l) := by
      unfold f_32
      rw [if_pos h1, if_pos ((quiet_iff h).mpr hq)]
      rfl
    have eM : sMenu z n 2 a = sTell z a.toNatClampNeg 2 := by
      unfold sMenu
      rw [if_neg (show ¬ ¬ (isN a) from fun q => q h1), if_pos hq]
    rw [eC, eM]
    obtain ⟨hm, _⟩ := isN_lt h1
    generalize a.toNatClampNeg = m at hm ⊢
    refine simV_ok (by simp [sTell, up2]) (tell_ok h hs hk hq hm (fun F i g => ?_) (fun F i g g2 => ?_) ?_ ?_ ?_)
    · unfold f_25; repeat rw [up2_n rfl g]
    · unfold sTell; repeat rw [up2_n rfl g]
      exact up2_41 g2
    · exact ⟨(by simp [f_25, sTell, up2]), (fun q => absurd q (by simp [f_25, sTell, up2])), (fun _ => by simp [f_25, sTell, up2]), (fun _ => by simp [f_25, sTell, up2]), (fun q => absurd q (by simp [f_25, sTell, up2])), (by simp [f_25, sTell, up2]), (by simp [f_25, sTell, up2]), (by simp [f_25, sTell, up2]), (by simp [f_25, sTell, up2]), ⟨by simp [kyN, sTell, up2], by simp [kyN, sTell, up2]; rfl⟩, (fun q => absurd q (by simp [f_25, sTell, up2])), (fun _ => ⟨2, by decide, by decide, by simp [f_25, sTell, up2]; rfl⟩), (fun q => absurd q (by simp [f_25, sTell, up2])), (fun q => absurd q (by simp [f_25, sTell, up2])), (fun q => absurd q (by simp [f_25, sTell, up2]))⟩
    · exact ⟨by simp [sTell, up2]; exact ((GR_m h.1).1 m hm).1, by simp [sTell, up2]⟩
    · simp [kyN, sTell, up2]
  · have eC : f_32 n a l = (.inr 2, l) := by
      unfold f_32
      rw [if_pos h1, if_neg (fun q => hq ((quiet_iff h).mp q))]
    have eM : sMenu z n 2 a = thr z 2 := by
      unfold sMenu
      rw [if_neg (show ¬ ¬ (isN a) from fun q => q h1), if_neg hq]
    rw [eC, eM]
    exact simV_no rfl rfl (RR_thr hRR)
theorem sim_back {l z : Sg} {n t s : Nat} {a : Int32} (h : RX l z n t t none s) (hs : s < 512) (hk : takerN z n 6 = none) : simV (wv 189 (f_38 n a l)) (sMenu z n 6 a) := by
  have hRR : RR l z := ⟨n, t, s, h, hs, hk⟩
  by_cases h1 : isN a
  rotate_left
  · have eC : f_38 n a l = (.inr 0, l) := by
      unfold f_38
      rw [if_neg h1]
    have eM : sMenu z n 6 a = thr z 1 := by
      unfold sMenu
      rw [if_pos (show ¬ (isN a) from fun q => h1 q)]
    rw [eC, eM]
    exact simV_no rfl rfl (RR_thr hRR)
  by_cases hq : quiet z n
  · have eC : f_38 n a l = (.inl 0, f_25 a.toNatClampNeg 6 (-1) (-1) l) := by
      unfold f_38
      rw [if_pos h1, if_pos ((quiet_iff h).mpr hq)]
      rfl
    have eM : sMenu z n 6 a = sTell z a.toNatClampNeg 6 := by
      unfold sMenu
      rw [if_neg (show ¬ ¬ (isN a) from fun q => q h1), if_pos hq]
    rw [eC, eM]
    obtain ⟨hm, _⟩ := isN_lt h1
    generalize a.toNatClampNeg = m at hm ⊢
    refine simV_ok (by simp [sTell, up2]) (tell_ok h hs hk hq hm (fun F i g => ?_) (fun F i g g2 => ?_) ?_ ?_ ?_)
    · unfold f_25; repeat rw [up2_n rfl g]
    · unfold sTell; repeat rw [up2_n rfl g]
      exact up2_41 g2
    · exact ⟨(by simp [f_25, sTell, up2]), (fun q => absurd q (by simp [f_25, sTell, up2])), (fun _ => by simp [f_25, sTell, up2]), (fun _ => by simp [f_25, sTell, up2]), (fun q => absurd q (by simp [f_25, sTell, up2])), (by simp [f_25, sTell, up2]), (by simp [f_25, sTell, up2]), (by simp [f_25, sTell, up2]), (by simp [f_25, sTell, up2]), ⟨by simp [kyN, sTell, up2], by simp [kyN, sTell, up2]; rfl⟩, (fun q => absurd q (by simp [f_25, sTell, up2])), (fun q => absurd q (by simp [f_25, sTell, up2])), (fun q => absurd q (by simp [f_25, sTell, up2])), (fun q => absurd q (by simp [f_25, sTell, up2])), (fun q => absurd q (by simp [f_25, sTell, up2]))⟩
    · exact ⟨by simp [sTell, up2]; exact ((GR_m h.1).1 m hm).1, by simp [sTell, up2]⟩
    · simp [kyN, sTell, up2]
  · have eC : f_38 n a l = (.inr 2, l) := by
      unfold f_38
      rw [if_pos h1, if_neg (fun q => hq ((quiet_iff h).mp q))]
    have eM : sMenu z n 6 a = thr z 2 := by
      unfold sMenu
      rw [if_neg (show ¬ ¬ (isN a) from fun q => q h1), if_neg hq]
    rw [eC, eM]
    exact simV_no rfl rfl (RR_thr hRR)
theorem sim_callback {l z : Sg} {n t s : Nat} {a : Int32} (h : RX l z n t t none s) (hs : s < 512) (hk : takerN z n 6 = none) : simV (wv 192 (f_41 n a l)) (sMenu z n 8 a) := by
  have hRR : RR l z := ⟨n, t, s, h, hs, hk⟩
  by_cases h1 : isN a
  rotate_left
  · have eC : f_41 n a l = (.inr 0, l) := by
      unfold f_41
      rw [if_neg h1]
    have eM : sMenu z n 8 a = thr z 1 := by
      unfold sMenu
      rw [if_pos (show ¬ (isN a) from fun q => h1 q)]
    rw [eC, eM]
    exact simV_no rfl rfl (RR_thr hRR)
  by_cases hq : quiet z n
  · have eC : f_41 n a l = (.inl 0, f_25 a.toNatClampNeg 8 (-1) (-1) l) := by
      unfold f_41
      rw [if_pos h1, if_pos ((quiet_iff h).mpr hq)]
      rfl
    have eM : sMenu z n 8 a = sTell z a.toNatClampNeg 8 := by
      unfold sMenu
      rw [if_neg (show ¬ ¬ (isN a) from fun q => q h1), if_pos hq]
    rw [eC, eM]
    obtain ⟨hm, _⟩ := isN_lt h1
    generalize a.toNatClampNeg = m at hm ⊢
    refine simV_ok (by simp [sTell, up2]) (tell_ok h hs hk hq hm (fun F i g => ?_) (fun F i g g2 => ?_) ?_ ?_ ?_)
    · unfold f_25; repeat rw [up2_n rfl g]
    · unfold sTell; repeat rw [up2_n rfl g]
      exact up2_41 g2
    · exact ⟨(by simp [f_25, sTell, up2]), (fun q => absurd q (by simp [f_25, sTell, up2])), (fun _ => by simp [f_25, sTell, up2]), (fun _ => by simp [f_25, sTell, up2]), (fun q => absurd q (by simp [f_25, sTell, up2])), (by simp [f_25, sTell, up2]), (by simp [f_25, sTell, up2]), (by simp [f_25, sTell, up2]), (by simp [f_25, sTell, up2]), ⟨by simp [kyN, sTell, up2], by simp [kyN, sTell, up2]; rfl⟩, (fun q => absurd q (by simp [f_25, sTell, up2])), (fun q => absurd q (by simp [f_25, sTell, up2])), (fun q => absurd q (by simp [f_25, sTell, up2])), (fun q => absurd q (by simp [f_25, sTell, up2])), (fun q => absurd q (by simp [f_25, sTell, up2]))⟩
    · exact ⟨by simp [sTell, up2]; exact ((GR_m h.1).1 m hm).1, by simp [sTell, up2]⟩
    · simp [kyN, sTell, up2]
  · have eC : f_41 n a l = (.inr 2, l) := by
      unfold f_41
      rw [if_pos h1, if_neg (fun q => hq ((quiet_iff h).mp q))]
    have eM : sMenu z n 8 a = thr z 2 := by
      unfold sMenu
      rw [if_neg (show ¬ ¬ (isN a) from fun q => q h1), if_neg hq]
    rw [eC, eM]
    exact simV_no rfl rfl (RR_thr hRR)
theorem sim_input {l z : Sg} {n t s : Nat} {a b c d : Int32} (h : RX l z n t t none s) (hs : s < 512) (hk : takerN z n 6 = none) : simV (wv 185 (f_34 n a b c d l)) (sInput z n a b c d) := by
  have hRR : RR l z := ⟨n, t, s, h, hs, hk⟩
  by_cases h1 : isN a
  rotate_left
  · have eC : f_34 n a b c d l = (.inr 0, l) := by
      unfold f_34
      rw [if_neg h1]
    have eM : sInput z n a b c d = thr z 1 := by
      unfold sInput
      rw [if_pos (show ¬ (isN a ∧ isT d) from fun q => h1 q.1)]
    rw [eC, eM]
    exact simV_no rfl rfl (RR_thr hRR)
  by_cases h2 : isT d
  rotate_left
  · have eC : f_34 n a b c d l = (.inr 0, l) := by
      unfold f_34
      rw [if_pos h1, if_neg h2]
    have eM : sInput z n a b c d = thr z 1 := by
      unfold sInput
      rw [if_pos (show ¬ (isN a ∧ isT d) from fun q => h2 q.2)]
    rw [eC, eM]
    exact simV_no rfl rfl (RR_thr hRR)
  by_cases h3 : 1 ≤ b ∧ b ≤ 6
  rotate_left
  · have eC : f_34 n a b c d l = (.inr 1, l) := by
      unfold f_34
      rw [if_pos h1, if_pos h2, if_neg h3]
    have eM : sInput z n a b c d = thr z 2 := by
      unfold sInput
      rw [if_neg (show ¬ ¬ (isN a ∧ isT d) from fun q => q ⟨h1, h2⟩), if_pos (show ¬ ((1 ≤ b ∧ b ≤ 6) ∧ (b ≤ c ∧ c ≤ 6)) from fun q => h3 q.1)]
    rw [eC, eM]
    exact simV_no rfl rfl (RR_thr hRR)
  by_cases h4 : b ≤ c ∧ c ≤ 6
  rotate_left
  · have eC : f_34 n a b c d l = (.inr 1, l) := by
      unfold f_34
      rw [if_pos h1, if_pos h2, if_pos h3, if_neg h4]
    have eM : sInput z n a b c d = thr z 2 := by
      unfold sInput
      rw [if_neg (show ¬ ¬ (isN a ∧ isT d) from fun q => q ⟨h1, h2⟩), if_pos (show ¬ ((1 ≤ b ∧ b ≤ 6) ∧ (b ≤ c ∧ c ≤ 6)) from fun q => h4 q.2)]
    rw [eC, eM]
    exact simV_no rfl rfl (RR_thr hRR)
  by_cases hq : quiet z n
  · have eC : f_34 n a b c d l = (.inl 0, up2 (up2 (f_25 a.toNatClampNeg 3 d (-1) l) 437 a.toNatClampNeg b) 438 a.toNatClampNeg c) := by
      unfold f_34
      rw [if_pos h1, if_pos h2, if_pos h3, if_pos h4, if_pos ((quiet_iff h).mpr hq)]
      rfl
    have eM : sInput z n a b c d = up2 (up2 (up2 (sTell z a.toNatClampNeg 3) 297 a.toNatClampNeg b) 298 a.toNatClampNeg c) 301 a.toNatClampNeg d := by
      unfold sInput
      rw [if_neg (show ¬ ¬ (isN a ∧ isT d) from fun q => q ⟨h1, h2⟩), if_neg (show ¬ ¬ ((1 ≤ b ∧ b ≤ 6) ∧ (b ≤ c ∧ c ≤ 6)) from fun q => q ⟨h3, h4⟩), if_pos hq]
    rw [eC, eM]
    obtain ⟨hm, _⟩ := isN_lt h1
    generalize a.toNatClampNeg = m at hm ⊢
    obtain ⟨pb, pc, y1, y2, y3, y4, y5⟩ := in_rng h3 h4
    refine simV_ok (by simp [sTell, up2]) (tell_ok h hs hk hq hm (fun F i g => ?_) (fun F i g g2 => ?_) ?_ ?_ ?_)
    · unfold f_25; repeat rw [up2_n rfl g]
    · unfold sTell; repeat rw [up2_n rfl g]
      exact up2_41 g2
    · exact ⟨(by simp [f_25, sTell, up2]), (fun _ => ⟨by simp [f_25, sTell, up2], by simp [f_25, sTell, up2]; exact h2.1⟩), (fun _ => by simp [f_25, sTell, up2]), (fun _ => by simp [f_25, sTell, up2]), (fun q => absurd q (by simp [f_25, sTell, up2])), (by simp [f_25, sTell, up2]), (by simp [f_25, sTell, up2]), (by simp [f_25, sTell, up2]), (by simp [f_25, sTell, up2]), ⟨by simp [kyN, sTell, up2], by simp [kyN, sTell, up2]; rfl⟩, (fun q => absurd q (by simp [f_25, sTell, up2])), (fun _ => ⟨2, by decide, by decide, by simp [f_25, sTell, up2]; rfl⟩), (fun _ => ⟨by simp [f_25, sTell, up2], by simp [f_25, sTell, up2], pb, pc, y1, y2, y3, by simp [sTell, up2]; exact y4, by simp [sTell, up2]; exact y5⟩), (fun q => absurd q (by simp [f_25, sTell, up2])), (fun q => absurd q (by simp [f_25, sTell, up2]))⟩
    · exact ⟨by simp [sTell, up2]; exact h2.2, by simp [sTell, up2]⟩
    · simp [kyN, sTell, up2]
  · have eC : f_34 n a b c d l = (.inr 2, l) := by
      unfold f_34
      rw [if_pos h1, if_pos h2, if_pos h3, if_pos h4, if_neg (fun q => hq ((quiet_iff h).mp q))]
    have eM : sInput z n a b c d = thr z 3 := by
      unfold sInput
      rw [if_neg (show ¬ ¬ (isN a ∧ isT d) from fun q => q ⟨h1, h2⟩), if_neg (show ¬ ¬ ((1 ≤ b ∧ b ≤ 6) ∧ (b ≤ c ∧ c ≤ 6)) from fun q => q ⟨h3, h4⟩), if_neg hq]
    rw [eC, eM]
    exact simV_no rfl rfl (RR_thr hRR)
theorem sim_sub {l z : Sg} {n t s : Nat} {a b c : Int32} (h : RX l z n t t none s) (hs : s < 512) (hk : takerN z n 6 = none) : simV (wv 188 (f_37 n a b c l)) (sSub z n a b c) := by
  have hRR : RR l z := ⟨n, t, s, h, hs, hk⟩
  by_cases h1 : isN a
  rotate_left
  · have eC : f_37 n a b c l = (.inr 0, l) := by
      unfold f_37
      rw [if_neg h1]
    have eM : sSub z n a b c = thr z 1 := by
      unfold sSub
      rw [if_pos (show ¬ (isN a ∧ (isT b ∧ isT c)) from fun q => h1 q.1)]
    rw [eC, eM]
    exact simV_no rfl rfl (RR_thr hRR)
  by_cases h2 : isT b
  rotate_left
  · have eC : f_37 n a b c l = (.inr 0, l) := by
      unfold f_37
      rw [if_pos h1, if_neg h2]
    have eM : sSub z n a b c = thr z 1 := by
      unfold sSub
      rw [if_pos (show ¬ (isN a ∧ (isT b ∧ isT c)) from fun q => h2 q.2.1)]
    rw [eC, eM]
    exact simV_no rfl rfl (RR_thr hRR)
  by_cases h3 : isT c
  rotate_left
  · have eC : f_37 n a b c l = (.inr 0, l) := by
      unfold f_37
      rw [if_pos h1, if_pos h2, if_neg h3]
    have eM : sSub z n a b c = thr z 1 := by
      unfold sSub
      rw [if_pos (show ¬ (isN a ∧ (isT b ∧ isT c)) from fun q => h3 q.2.2)]
    rw [eC, eM]
    exact simV_no rfl rfl (RR_thr hRR)
  by_cases hq : quiet z n
  · have eC : f_37 n a b c l = (.inl 0, f_25 a.toNatClampNeg 5 b c l) := by
      unfold f_37
      rw [if_pos h1, if_pos h2, if_pos h3, if_pos ((quiet_iff h).mpr hq)]
      rfl
    have eM : sSub z n a b c = up2 (up2 (sTell z a.toNatClampNeg 5) 301 a.toNatClampNeg b) 302 a.toNatClampNeg c := by
      unfold sSub
      rw [if_neg (show ¬ ¬ (isN a ∧ (isT b ∧ isT c)) from fun q => q ⟨h1, ⟨h2, h3⟩⟩), if_pos hq]
    rw [eC, eM]
    obtain ⟨hm, _⟩ := isN_lt h1
    generalize a.toNatClampNeg = m at hm ⊢
    refine simV_ok (by simp [sTell, up2]) (tell_ok h hs hk hq hm (fun F i g => ?_) (fun F i g g2 => ?_) ?_ ?_ ?_)
    · unfold f_25; repeat rw [up2_n rfl g]
    · unfold sTell; repeat rw [up2_n rfl g]
      exact up2_41 g2
    · exact ⟨(by simp [f_25, sTell, up2]), (fun _ => ⟨by simp [f_25, sTell, up2], by simp [f_25, sTell, up2]; exact h2.1⟩), (fun _ => by simp [f_25, sTell, up2]), (fun _ => by simp [f_25, sTell, up2]; exact h3.1), (fun q => absurd q (by simp [f_25, sTell, up2])), (by simp [f_25, sTell, up2]), (by simp [f_25, sTell, up2]), (by simp [f_25, sTell, up2]), (by simp [f_25, sTell, up2]), ⟨by simp [kyN, sTell, up2], by simp [kyN, sTell, up2]; rfl⟩, (fun q => absurd q (by simp [f_25, sTell, up2])), (fun q => absurd q (by simp [f_25, sTell, up2])), (fun q => absurd q (by simp [f_25, sTell, up2])), (fun q => absurd q (by simp [f_25, sTell, up2])), (fun q => absurd q (by simp [f_25, sTell, up2]))⟩
    · exact ⟨by simp [sTell, up2]; exact h2.2, by simp [sTell, up2]; exact h3.2⟩
    · simp [kyN, sTell, up2]
  · have eC : f_37 n a b c l = (.inr 2, l) := by
      unfold f_37
      rw [if_pos h1, if_pos h2, if_pos h3, if_neg (fun q => hq ((quiet_iff h).mp q))]
    have eM : sSub z n a b c = thr z 2 := by
      unfold sSub
      rw [if_neg (show ¬ ¬ (isN a ∧ (isT b ∧ isT c)) from fun q => q ⟨h1, ⟨h2, h3⟩⟩), if_neg hq]
    rw [eC, eM]
    exact simV_no rfl rfl (RR_thr hRR)
theorem sim_queue {l z : Sg} {n t s : Nat} {a b c d e f : Int32} (h : RX l z n t t none s) (hs : s < 512) (hk : takerN z n 6 = none) : simV (wv 190 (f_39 n a b c d e f l)) (sQueue z n a b c d e f) := by
  have hRR : RR l z := ⟨n, t, s, h, hs, hk⟩
  by_cases h1 : isN a
  rotate_left
  · have eC : f_39 n a b c d e f l = (.inr 0, l) := by
      unfold f_39
      rw [if_neg h1]
    have eM : sQueue z n a b c d e f = thr z 1 := by
      unfold sQueue
      rw [if_pos (show ¬ (isN a ∧ isT f) from fun q => h1 q.1)]
    rw [eC, eM]
    exact simV_no rfl rfl (RR_thr hRR)
  by_cases h2 : isT f
  rotate_left
  · have eC : f_39 n a b c d e f l = (.inr 0, l) := by
      unfold f_39
      rw [if_pos h1, if_neg h2]
    have eM : sQueue z n a b c d e f = thr z 1 := by
      unfold sQueue
      rw [if_pos (show ¬ (isN a ∧ isT f) from fun q => h2 q.2)]
    rw [eC, eM]
    exact simV_no rfl rfl (RR_thr hRR)
  by_cases h3 : 0 ≤ b ∧ b ≤ 5
  rotate_left
  · have eC : f_39 n a b c d e f l = (.inr 1, l) := by
      unfold f_39
      rw [if_pos h1, if_pos h2, if_neg h3]
    have eM : sQueue z n a b c d e f = thr z 2 := by
      unfold sQueue
      rw [if_neg (show ¬ ¬ (isN a ∧ isT f) from fun q => q ⟨h1, h2⟩), if_pos (show ¬ ((0 ≤ b ∧ b ≤ 5) ∧ ((0 ≤ c ∧ c ≤ 9) ∧ ((1 ≤ d ∧ d ≤ 500) ∧ (1 ≤ e ∧ e ≤ 30)))) from fun q => h3 q.1)]
    rw [eC, eM]
    exact simV_no rfl rfl (RR_thr hRR)
  by_cases h4 : 0 ≤ c ∧ c ≤ 9
  rotate_left
  · have eC : f_39 n a b c d e f l = (.inr 1, l) := by
      unfold f_39
      rw [if_pos h1, if_pos h2, if_pos h3, if_neg h4]
    have eM : sQueue z n a b c d e f = thr z 2 := by
      unfold sQueue
      rw [if_neg (show ¬ ¬ (isN a ∧ isT f) from fun q => q ⟨h1, h2⟩), if_pos (show ¬ ((0 ≤ b ∧ b ≤ 5) ∧ ((0 ≤ c ∧ c ≤ 9) ∧ ((1 ≤ d ∧ d ≤ 500) ∧ (1 ≤ e ∧ e ≤ 30)))) from fun q => h4 q.2.1)]
    rw [eC, eM]
    exact simV_no rfl rfl (RR_thr hRR)
  by_cases h5 : 1 ≤ d ∧ d ≤ 500
  rotate_left
  · have eC : f_39 n a b c d e f l = (.inr 1, l) := by
      unfold f_39
      rw [if_pos h1, if_pos h2, if_pos h3, if_pos h4, if_neg h5]
    have eM : sQueue z n a b c d e f = thr z 2 := by
      unfold sQueue
      rw [if_neg (show ¬ ¬ (isN a ∧ isT f) from fun q => q ⟨h1, h2⟩), if_pos (show ¬ ((0 ≤ b ∧ b ≤ 5) ∧ ((0 ≤ c ∧ c ≤ 9) ∧ ((1 ≤ d ∧ d ≤ 500) ∧ (1 ≤ e ∧ e ≤ 30)))) from fun q => h5 q.2.2.1)]
    rw [eC, eM]
    exact simV_no rfl rfl (RR_thr hRR)
  by_cases h6 : 1 ≤ e ∧ e ≤ 30
  rotate_left
  · have eC : f_39 n a b c d e f l = (.inr 1, l) := by
      unfold f_39
      rw [if_pos h1, if_pos h2, if_pos h3, if_pos h4, if_pos h5, if_neg h6]
    have eM : sQueue z n a b c d e f = thr z 2 := by
      unfold sQueue
      rw [if_neg (show ¬ ¬ (isN a ∧ isT f) from fun q => q ⟨h1, h2⟩), if_pos (show ¬ ((0 ≤ b ∧ b ≤ 5) ∧ ((0 ≤ c ∧ c ≤ 9) ∧ ((1 ≤ d ∧ d ≤ 500) ∧ (1 ≤ e ∧ e ≤ 30)))) from fun q => h6 q.2.2.2)]
    rw [eC, eM]
    exact simV_no rfl rfl (RR_thr hRR)
  by_cases hq : quiet z n
  · have eC : f_39 n a b c d e f l = (.inl 0, up2 (up2 (up2 (up2 (f_25 a.toNatClampNeg 7 f (-2) l) 442 a.toNatClampNeg b) 443 a.toNatClampNeg c) 438 a.toNatClampNeg d) 444 a.toNatClampNeg e) := by
      unfold f_39
      rw [if_pos h1, if_pos h2, if_pos h3, if_pos h4, if_pos h5, if_pos h6, if_pos ((quiet_iff h).mpr hq)]
      rfl
    have eM : sQueue z n a b c d e f = up2 (up2 (up2 (up2 (up2 (up2 (sTell z a.toNatClampNeg 7) 297 a.toNatClampNeg b) 298 a.toNatClampNeg c) 299 a.toNatClampNeg d) 300 a.toNatClampNeg e) 301 a.toNatClampNeg f) 302 a.toNatClampNeg (-2) := by
      unfold sQueue
      rw [if_neg (show ¬ ¬ (isN a ∧ isT f) from fun q => q ⟨h1, h2⟩), if_neg (show ¬ ¬ ((0 ≤ b ∧ b ≤ 5) ∧ ((0 ≤ c ∧ c ≤ 9) ∧ ((1 ≤ d ∧ d ≤ 500) ∧ (1 ≤ e ∧ e ≤ 30)))) from fun q => q ⟨h3, ⟨h4, ⟨h5, h6⟩⟩⟩), if_pos hq]
    rw [eC, eM]
    obtain ⟨hm, _⟩ := isN_lt h1
    generalize a.toNatClampNeg = m at hm ⊢
    obtain ⟨pb, y1, y2⟩ := sk_rng h3
    refine simV_ok (by simp [sTell, up2]) (tell_ok h hs hk hq hm (fun F i g => ?_) (fun F i g g2 => ?_) ?_ ?_ ?_)
    · unfold f_25; repeat rw [up2_n rfl g]
    · unfold sTell; repeat rw [up2_n rfl g]
      exact up2_41 g2
    · exact ⟨(by simp [f_25, sTell, up2]), (fun _ => ⟨by simp [f_25, sTell, up2], by simp [f_25, sTell, up2]; exact h2.1⟩), (fun _ => by simp [f_25, sTell, up2]), (fun q => absurd (by simp [f_25, sTell, up2]) q), (fun _ => by simp [f_25, sTell, up2]), (by simp [f_25, sTell, up2]), (by simp [f_25, sTell, up2]), (by simp [f_25, sTell, up2]), (by simp [f_25, sTell, up2]), ⟨by simp [kyN, sTell, up2], by simp [kyN, sTell, up2]; rfl⟩, (fun q => absurd q (by simp [f_25, sTell, up2])), (fun q => absurd q (by simp [f_25, sTell, up2])), (fun q => absurd q (by simp [f_25, sTell, up2])), (fun q => absurd q (by simp [f_25, sTell, up2])), (fun _ => ⟨by simp [f_25, sTell, up2], by simp [f_25, sTell, up2], by simp [f_25, sTell, up2], by simp [f_25, sTell, up2], pb, y1, by simp [sTell, up2]; exact y2⟩)⟩
    · exact ⟨by simp [sTell, up2]; exact h2.2, by simp [sTell, up2]⟩
    · simp [kyN, sTell, up2]
  · have eC : f_39 n a b c d e f l = (.inr 2, l) := by
      unfold f_39
      rw [if_pos h1, if_pos h2, if_pos h3, if_pos h4, if_pos h5, if_pos h6, if_neg (fun q => hq ((quiet_iff h).mp q))]
    have eM : sQueue z n a b c d e f = thr z 3 := by
      unfold sQueue
      rw [if_neg (show ¬ ¬ (isN a ∧ isT f) from fun q => q ⟨h1, h2⟩), if_neg (show ¬ ¬ ((0 ≤ b ∧ b ≤ 5) ∧ ((0 ≤ c ∧ c ≤ 9) ∧ ((1 ≤ d ∧ d ≤ 500) ∧ (1 ≤ e ∧ e ≤ 30)))) from fun q => q ⟨h3, ⟨h4, ⟨h5, h6⟩⟩⟩), if_neg hq]
    rw [eC, eM]
    exact simV_no rfl rfl (RR_thr hRR)
theorem sim_branch {l z : Sg} {n t s : Nat} {a b c d e f : Int32} (h : RX l z n t t none s) (hs : s < 512) (hk : takerN z n 6 = none) : simV (wv 187 (f_36 n a b c d e f l)) (sBranch z n a b c d e f) := by
  have hRR : RR l z := ⟨n, t, s, h, hs, hk⟩
  by_cases h1 : isN a
  rotate_left
  · have eC : f_36 n a b c d e f l = (.inr 0, l) := by
      unfold f_36
      rw [if_neg h1]
    have eM : sBranch z n a b c d e f = thr z 1 := by
      unfold sBranch
      rw [f_79_eq]
      rw [if_pos (show ¬ (isN a ∧ (isT e ∧ isT f)) from fun q => h1 q.1)]
    rw [eC, eM]
    exact simV_no rfl rfl (RR_thr hRR)
  by_cases h2 : isT e
  rotate_left
  · have eC : f_36 n a b c d e f l = (.inr 0, l) := by
      unfold f_36
      rw [if_pos h1, if_neg h2]
    have eM : sBranch z n a b c d e f = thr z 1 := by
      unfold sBranch
      rw [f_79_eq]
      rw [if_pos (show ¬ (isN a ∧ (isT e ∧ isT f)) from fun q => h2 q.2.1)]
    rw [eC, eM]
    exact simV_no rfl rfl (RR_thr hRR)
  by_cases h3 : isT f
  rotate_left
  · have eC : f_36 n a b c d e f l = (.inr 0, l) := by
      unfold f_36
      rw [if_pos h1, if_pos h2, if_neg h3]
    have eM : sBranch z n a b c d e f = thr z 1 := by
      unfold sBranch
      rw [f_79_eq]
      rw [if_pos (show ¬ (isN a ∧ (isT e ∧ isT f)) from fun q => h3 q.2.2)]
    rw [eC, eM]
    exact simV_no rfl rfl (RR_thr hRR)
  by_cases h4 : 0 ≤ b ∧ b ≤ 4
  rotate_left
  · have eC : f_36 n a b c d e f l = (.inr 1, l) := by
      unfold f_36
      rw [if_pos h1, if_pos h2, if_pos h3, if_neg h4]
    have eM : sBranch z n a b c d e f = thr z 2 := by
      unfold sBranch
      rw [f_79_eq]
      rw [if_neg (show ¬ ¬ (isN a ∧ (isT e ∧ isT f)) from fun q => q ⟨h1, ⟨h2, h3⟩⟩), if_pos (show ¬ ((0 ≤ b ∧ b ≤ 4) ∧ ((0 ≤ c ∧ c ≤ f_79 b) ∧ (0 ≤ d ∧ d ≤ 60))) from fun q => h4 q.1)]
    rw [eC, eM]
    exact simV_no rfl rfl (RR_thr hRR)
  by_cases h5 : 0 ≤ c ∧ c ≤ f_79 b
  rotate_left
  · have eC : f_36 n a b c d e f l = (.inr 1, l) := by
      unfold f_36
      rw [if_pos h1, if_pos h2, if_pos h3, if_pos h4, if_neg h5]
    have eM : sBranch z n a b c d e f = thr z 2 := by
      unfold sBranch
      rw [f_79_eq]
      rw [if_neg (show ¬ ¬ (isN a ∧ (isT e ∧ isT f)) from fun q => q ⟨h1, ⟨h2, h3⟩⟩), if_pos (show ¬ ((0 ≤ b ∧ b ≤ 4) ∧ ((0 ≤ c ∧ c ≤ f_79 b) ∧ (0 ≤ d ∧ d ≤ 60))) from fun q => h5 q.2.1)]
    rw [eC, eM]
    exact simV_no rfl rfl (RR_thr hRR)
  by_cases h6 : 0 ≤ d ∧ d ≤ 60
  rotate_left
  · have eC : f_36 n a b c d e f l = (.inr 1, l) := by
      unfold f_36
      rw [if_pos h1, if_pos h2, if_pos h3, if_pos h4, if_pos h5, if_neg h6]
    have eM : sBranch z n a b c d e f = thr z 2 := by
      unfold sBranch
      rw [f_79_eq]
      rw [if_neg (show ¬ ¬ (isN a ∧ (isT e ∧ isT f)) from fun q => q ⟨h1, ⟨h2, h3⟩⟩), if_pos (show ¬ ((0 ≤ b ∧ b ≤ 4) ∧ ((0 ≤ c ∧ c ≤ f_79 b) ∧ (0 ≤ d ∧ d ≤ 60))) from fun q => h6 q.2.2)]
    rw [eC, eM]
    exact simV_no rfl rfl (RR_thr hRR)
  by_cases hq : quiet z n
  · have eC : f_36 n a b c d e f l = (.inl 0, up2 (up2 (up2 (f_25 a.toNatClampNeg 4 e f l) 439 a.toNatClampNeg b) 440 a.toNatClampNeg c) 441 a.toNatClampNeg d) := by
      unfold f_36
      rw [if_pos h1, if_pos h2, if_pos h3, if_pos h4, if_pos h5, if_pos h6, if_pos ((quiet_iff h).mpr hq)]
      rfl
    have eM : sBranch z n a b c d e f = up2 (up2 (up2 (up2 (up2 (sTell z a.toNatClampNeg 4) 297 a.toNatClampNeg c) 298 a.toNatClampNeg d) 299 a.toNatClampNeg b) 301 a.toNatClampNeg e) 302 a.toNatClampNeg f := by
      unfold sBranch
      rw [f_79_eq]
      rw [if_neg (show ¬ ¬ (isN a ∧ (isT e ∧ isT f)) from fun q => q ⟨h1, ⟨h2, h3⟩⟩), if_neg (show ¬ ¬ ((0 ≤ b ∧ b ≤ 4) ∧ ((0 ≤ c ∧ c ≤ f_79 b) ∧ (0 ≤ d ∧ d ≤ 60))) from fun q => q ⟨h4, ⟨h5, h6⟩⟩), if_pos hq]
    rw [eC, eM]
    obtain ⟨hm, _⟩ := isN_lt h1
    generalize a.toNatClampNeg = m at hm ⊢
    obtain ⟨pb, y1, y2, y3⟩ := br_rng h4 h5
    refine simV_ok (by simp [sTell, up2]) (tell_ok h hs hk hq hm (fun F i g => ?_) (fun F i g g2 => ?_) ?_ ?_ ?_)
    · unfold f_25; repeat rw [up2_n rfl g]
    · unfold sTell; repeat rw [up2_n rfl g]
      exact up2_41 g2
    · exact ⟨(by simp [f_25, sTell, up2]), (fun _ => ⟨by simp [f_25, sTell, up2], by simp [f_25, sTell, up2]; exact h2.1⟩), (fun _ => by simp [f_25, sTell, up2]), (fun _ => by simp [f_25, sTell, up2]; exact h3.1), (fun q => absurd q (by simp [f_25, sTell, up2])), (by simp [f_25, sTell, up2]), (by simp [f_25, sTell, up2]), (by simp [f_25, sTell, up2]), (by simp [f_25, sTell, up2]), ⟨by simp [kyN, sTell, up2], by simp [kyN, sTell, up2]; rfl⟩, (fun q => absurd q (by simp [f_25, sTell, up2])), (fun q => absurd q (by simp [f_25, sTell, up2])), (fun q => absurd q (by simp [f_25, sTell, up2])), (fun _ => ⟨by simp [f_25, sTell, up2], by simp [f_25, sTell, up2], by simp [f_25, sTell, up2], ⟨pb, y1, by simp [sTell, up2]; exact y2⟩, fun q => by simp [sTell, up2] at q ⊢; exact y3 q⟩), (fun q => absurd q (by simp [f_25, sTell, up2]))⟩
    · exact ⟨by simp [sTell, up2]; exact h2.2, by simp [sTell, up2]; exact h3.2⟩
    · simp [kyN, sTell, up2]
  · have eC : f_36 n a b c d e f l = (.inr 2, l) := by
      unfold f_36
      rw [if_pos h1, if_pos h2, if_pos h3, if_pos h4, if_pos h5, if_pos h6, if_neg (fun q => hq ((quiet_iff h).mp q))]
    have eM : sBranch z n a b c d e f = thr z 3 := by
      unfold sBranch
      rw [f_79_eq]
      rw [if_neg (show ¬ ¬ (isN a ∧ (isT e ∧ isT f)) from fun q => q ⟨h1, ⟨h2, h3⟩⟩), if_neg (show ¬ ¬ ((0 ≤ b ∧ b ≤ 4) ∧ ((0 ≤ c ∧ c ≤ f_79 b) ∧ (0 ≤ d ∧ d ≤ 60))) from fun q => q ⟨h4, ⟨h5, h6⟩⟩), if_neg hq]
    rw [eC, eM]
    exact simV_no rfl rfl (RR_thr hRR)
