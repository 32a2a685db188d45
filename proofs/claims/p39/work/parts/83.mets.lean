/-! ===== the four systems by hand: their contracts ===== -/
theorem evG_get {o : Option (Nat × Nat × Nat)} {a b : Nat} (h : evG o a b = true) : ∃ q, o = some q ∧ a ≤ q.2.1 ∧ b ≤ q.2.2 := by
  unfold evG at h
  split at h
  · rename_i q
    rw [Bool.and_eq_true, Nat.ble_eq, Nat.ble_eq] at h
    exact ⟨q, rfl, h.1, h.2⟩
  · cases h
section METS
variable {l : Launch} {b : Nat} {D : va_G} {cy : Nat → ClassId}
theorem M_187 (hfl : l.stackTraces = false) : vx_Met l (mNm 187) (wsM 187) (rmM 187) (Pc9 b D cy [] [] false) (Qc9 b D cy (.inl (some (.int 1))) [] false) (XC9 b D cy (.inl (some (.int 1))) []) (mMc 187) (mMs 187) (AB b) := by
  obtain ⟨q, h1, -, -⟩ := evG_get ev_187
  exact Met_true (nL := 2) (cc := cL_menus) (by decide +kernel) rfl (by decide +kernel) rfl rfl rfl rfl (fun p e m args below meth c hx hcc hr hlk =>
    FB_last (R := rmM 187) (j := 0) (pc := 0) (stop := 1191) hfl hx hcc hr hlk (by decide +kernel) (by decide +kernel) (by decide +kernel) (by decide +kernel) (by decide) (by decide +kernel) T_187_ck (by decide) (by decide) (by decide) h1)
theorem M_189 (hfl : l.stackTraces = false) : vx_Met l (mNm 189) (wsM 189) (rmM 189) (Pc9 b D cy [] [] false) (Qc9 b D cy (.inl (some (.int 1))) [] false) (XC9 b D cy (.inl (some (.int 1))) []) (mMc 189) (mMs 189) (AB b) := by
  obtain ⟨q, h1, -, -⟩ := evG_get ev_189
  exact Met_true (nL := 2) (cc := cL_queues) (by decide +kernel) rfl (by decide +kernel) rfl rfl rfl rfl (fun p e m args below meth c hx hcc hr hlk =>
    FB_last (R := rmM 189) (j := 0) (pc := 0) (stop := 1418) hfl hx hcc hr hlk (by decide +kernel) (by decide +kernel) (by decide +kernel) (by decide +kernel) (by decide) (by decide +kernel) T_189_ck (by decide) (by decide) (by decide) h1)
theorem M_190 (hfl : l.stackTraces = false) : vx_Met l (mNm 190) (wsM 190) (rmM 190) (Pc9 b D cy [] [] false) (Qc9 b D cy (.inl (some (.int 1))) [] false) (XC9 b D cy (.inl (some (.int 1))) []) (mMc 190) (mMs 190) (AB b) := by
  obtain ⟨q, h1, -, -⟩ := evG_get ev_190
  exact Met_true (nL := 2) (cc := cL_agents) (by decide +kernel) rfl (by decide +kernel) rfl rfl rfl rfl (fun p e m args below meth c hx hcc hr hlk =>
    FB_last (R := rmM 190) (j := 0) (pc := 0) (stop := 686) hfl hx hcc hr hlk (by decide +kernel) (by decide +kernel) (by decide +kernel) (by decide +kernel) (by decide) (by decide +kernel) T_190_ck (by decide) (by decide) (by decide) h1)
theorem M_188 (hfl : l.stackTraces = false) : vx_Met l (mNm 188) (wsM 188) (rmM 188) (Pc9 b D cy [] [] false) (Qc9 b D cy (.inl (some (.int 1))) [] false) (XC9 b D cy (.inl (some (.int 1))) []) (mMc 188) (mMs 188) (AB b) := by
  obtain ⟨q1, h1, a1, b1⟩ := evG_get ev_188a
  obtain ⟨q2, h2, a2, b2⟩ := evG_get ev_188b
  obtain ⟨q3, h3, -, -⟩ := evG_get ev_188c
  exact Met_true (nL := 4) (cc := cL_subs) (by decide +kernel) rfl (by decide +kernel) rfl rfl rfl rfl (fun p e m args below meth c hx hcc hr hlk =>
    FB_next (R := rmM 188) (R2 := { frames := 11, cells := 4800, slots := 41000, locals := 242 }) (j := 0) (pc := 0) (stop := 307) hfl (by decide +kernel) (by decide +kernel) (by decide +kernel) (by decide +kernel) (by decide) T_188_ck (by decide) (by decide) (by decide) h1 (by decide) (by decide) a1 b1
      (FB_next (R := { frames := 11, cells := 4800, slots := 41000, locals := 242 }) (R2 := { frames := 11, cells := 4150, slots := 31000, locals := 242 }) (j := 1) (pc := 307) (stop := 477) hfl (by decide +kernel) (by decide +kernel) (by decide +kernel) (by decide +kernel) (by decide) T_188_ck (by decide) (by decide) (by decide) h2 (by decide) (by decide) a2 b2
        (FB_last (R := { frames := 11, cells := 4150, slots := 31000, locals := 242 }) (j := 2) (pc := 477) (stop := 914) hfl hx hcc hr hlk (by decide +kernel) (by decide +kernel) (by decide +kernel) (by decide +kernel) (by decide) (by decide +kernel) T_188_ck (by decide) (by decide) (by decide) h3)))
end METS
