/-! ===== the memories at the start ===== -/
def zI : Sg := fun F i => if F = 293 then (if i < 5 then 80 else 0) else if F = 294 then (if i < 5 then 180 else 0) else if F = 329 then 5 else if F = 331 then -1 else 0
def lI : Sg := fun F i => if F = 301 ∨ F = 302 then -1 else if F = 312 ∨ F = 313 ∨ F = 325 ∨ F = 316 then -1 else if F = 314 then 1 else if F = 410 then i32 i else zI F i
theorem gI_h0 : heapOf (GG false lI zI) = h0 := by decide +kernel
theorem RR_I : RR lI zI := by
  refine ⟨0, 0, 0, ⟨⟨by decide, by decide, rfl, rfl, rfl, rfl, ⟨fun m _ => ⟨by show (0 : Int32) ≤ 29; decide, by show (0 : Int32) ≤ 29; decide⟩, fun i _ => by show (0 : Int32) ≤ 29; decide, fun i _ => by show (0 : Int32) ≤ 29; decide, fun c _ => ⟨0, by decide, rfl⟩⟩, fun m hm => ?_, fun i _ => by show (-1 : Int32) ≤ 0; decide, fun i _ => by show (-1 : Int32) ≤ 0; decide, fun F i hF => ?_, fun i _ => Or.inl rfl, fun i hi => ?_, fun m hm i j hi hj _ => ?_⟩, fun c hc => absurd hc (Nat.not_lt_zero _), fun c _ hc => ?_, fun a ha => ?_, ⟨fun c hc => absurd hc (Nat.not_lt_zero _), fun a ha h => ?_⟩, ⟨⟨rfl, by decide, fun r hr => absurd hr (Nat.not_lt_zero _), fun c _ => rfl⟩, fun k hk => ⟨fun h => ?_, fun _ => rfl⟩⟩⟩, by decide, takerN_none.mpr (fun a ha h => ?_)⟩
  · have z0 : ∀ F, ¬ (F = 293 ∨ F = 294 ∨ F = 329 ∨ F = 331) → zI F m = 0 := fun F hF => by
      unfold zI
      rw [if_neg (fun q => hF (Or.inl q)), if_neg (fun q => hF (Or.inr (Or.inl q))), if_neg (fun q => hF (Or.inr (Or.inr (Or.inl q)))), if_neg (fun q => hF (Or.inr (Or.inr (Or.inr q))))]
    have e : zI 296 m = 0 := rfl
    have hk : kyN zI m = 0 := by
      unfold kyN
      rw [show zI 306 m = 0 from rfl]
      rfl
    unfold nodeR
    rw [e, hk]
    refine ⟨rfl, fun q => ?_, fun q => absurd rfl q, fun _ => ?_, fun q => ?_, rfl, rfl, rfl, rfl, ⟨by decide, rfl⟩, fun q => ?_, fun q => ?_, fun q => ?_, fun q => ?_, fun q => ?_⟩
    · exact absurd q (by decide)
    · show (-1 : Int32) ≤ 0; decide
    all_goals exact absurd q (by decide)
  · have q1 : ¬ (F = 301 ∨ F = 302) := by rintro (rfl | rfl) <;> cases hF
    have q2 : ¬ (F = 312 ∨ F = 313 ∨ F = 325 ∨ F = 316) := by rintro (rfl | rfl | rfl | rfl) <;> cases hF
    have q3 : ¬ F = 314 := by rintro rfl; cases hF
    have q4 : ¬ F = 410 := by rintro rfl; cases hF
    unfold lI
    rw [if_neg q1, if_neg q2, if_neg q3, if_neg q4]
  · by_cases q : i < 5
    · exact ⟨180, by decide, by show (if i < 5 then (180 : Int32) else 0) = _; rw [if_pos q]; rfl⟩
    · exact ⟨0, by decide, by show (if i < 5 then (180 : Int32) else 0) = _; rw [if_neg q]; rfl⟩
  · have hk : kyN zI m = 0 := by
      unfold kyN
      rw [show zI 306 m = 0 from rfl]
      rfl
    rw [hk] at hi
    exact absurd hi (Nat.not_lt_zero _)
  · exact ⟨rfl, rfl, rfl, rfl, rfl, rfl, rfl, by show (0 : Int32) ≤ 0; decide⟩
  · exact ⟨rfl, rfl, rfl, rfl, rfl, fun q => absurd (show (0 : Int32) = 4 from q) (by decide), ⟨5, by decide, rfl⟩, ⟨0, by decide, rfl⟩⟩
  · rcases h with q | q
    · exact absurd (show (0 : Int32) = 2 from q) (by decide)
    · exact absurd (show (0 : Int32) = 3 from q) (by decide)
  · rcases h with q | q
    · exact absurd (show (0 : Int32) = 1 from q) (by decide)
    · exact absurd (show (0 : Int32) = 3 from q) (by decide)
  · exact absurd (show (0 : Int32) = 1 from h) (by decide)
