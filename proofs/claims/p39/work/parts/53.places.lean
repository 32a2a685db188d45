/-! ===== places by name ===== -/
theorem tagK_node {q : Nat} (h : q < 30) : tagK (46 + 4 * q) = 4 := by
  unfold tagK
  rw [if_neg (by omega), if_pos (by omega), if_pos (by omega)]
theorem lenK_node {q : Nat} (h : q < 30) : lenK (46 + 4 * q) = 16 := by
  unfold lenK
  rw [if_neg (by omega), if_pos (by omega), if_pos (by omega)]
theorem tagK_keys {q : Nat} (h : q < 30) : tagK (47 + 4 * q) = 2 := by
  unfold tagK
  rw [if_neg (by omega), if_pos (by omega), if_neg (by omega), if_pos (by omega)]
theorem lenK_keys {q : Nat} (h : q < 30) : lenK (47 + 4 * q) = 3 := by
  unfold lenK
  rw [if_neg (by omega), if_pos (by omega), if_neg (by omega), if_pos (by omega)]
theorem tagK_co {q : Nat} (h : q < 30) : tagK (48 + 4 * q) = 100 ∧ tagK (49 + 4 * q) = 100 := by
  unfold tagK
  constructor <;> rw [if_neg (by omega), if_pos (by omega), if_neg (by omega), if_neg (by omega)]
theorem lenK_co {q : Nat} (h : q < 30) : lenK (48 + 4 * q) = 10 ∧ lenK (49 + 4 * q) = 10 := by
  unfold lenK
  constructor <;> rw [if_neg (by omega), if_pos (by omega), if_neg (by omega), if_neg (by omega)]
theorem tagK_line {q : Nat} (h : q < 60) : tagK (166 + 2 * q) = 3 := by
  unfold tagK
  rw [if_neg (by omega), if_neg (by omega), if_pos (by omega), if_pos (by omega)]
theorem lenK_line {q : Nat} (h : q < 60) : lenK (166 + 2 * q) = 18 := by
  unfold lenK
  rw [if_neg (by omega), if_neg (by omega), if_pos (by omega), if_pos (by omega)]
theorem tagK_bk {q : Nat} (h : q < 60) : tagK (167 + 2 * q) = 100 := by
  unfold tagK
  rw [if_neg (by omega), if_neg (by omega), if_pos (by omega), if_neg (by omega)]
theorem lenK_bk {q : Nat} (h : q < 60) : lenK (167 + 2 * q) = 4 := by
  unfold lenK
  rw [if_neg (by omega), if_neg (by omega), if_pos (by omega), if_neg (by omega)]
theorem tagK_desk {q : Nat} (h : q < 6) : tagK (286 + q) = 0 := by
  unfold tagK
  rw [if_neg (by omega), if_neg (by omega), if_neg (by omega), if_pos (by omega)]
theorem lenK_desk {q : Nat} (h : q < 6) : lenK (286 + q) = 6 := by
  unfold lenK
  rw [if_neg (by omega), if_neg (by omega), if_neg (by omega), if_pos (by omega)]
theorem tagK_w {q : Nat} (h : q < 30) : tagK (15 + q) = 100 := by
  unfold tagK
  rw [if_pos (by omega), if_neg (by omega), if_neg (by omega), if_neg (by omega), if_neg (by omega), if_neg (by omega), if_neg (by omega), if_neg (by omega)]
theorem lenK_w {q : Nat} (h : q < 30) : lenK (15 + q) = 31 := by
  unfold lenK
  rw [if_pos (by omega), if_neg (by omega), if_neg (by omega), if_neg (by omega), if_neg (by omega), if_neg (by omega), if_neg (by omega), if_neg (by omega), if_neg (by omega), if_neg (by omega), if_neg (by omega), if_neg (by omega), if_pos (by omega)]
theorem mdl_lt {k : Nat} (h : k < 292) : mdl k = false := by
  unfold mdl
  rw [decide_eq_false (by omega), Bool.false_and]
theorem irL {c : Nat} (h : c < 60) : IsR 2 104 c (166 + 2 * c) := ⟨by decide, rfl, h, rfl⟩
theorem irN {c : Nat} (h : c < 30) : IsR 1 103 c (46 + 4 * c) := ⟨by decide, rfl, h, rfl⟩
theorem irD {c : Nat} (h : c < 6) : IsR 3 105 c (286 + c) := ⟨by decide, rfl, h, rfl⟩
theorem irW {c : Nat} (h : c < 30) : IsR 14 106 c (15 + c) := ⟨by decide, rfl, h, rfl⟩
theorem irKs {i : Nat} (h : i < 30) : IsR (46 + 4 * i) 4 15 (47 + 4 * i) := by
  refine ⟨by omega, tagK_node h, by rw [lenK_node h]; decide, ?_⟩
  unfold refK
  rw [if_neg (by omega), if_pos (by omega), if_pos (by omega), if_pos rfl]
  congr 1; omega
theorem irCo {i : Nat} (h : i < 30) : IsR (47 + 4 * i) 2 0 (48 + 4 * i) := by
  refine ⟨by omega, tagK_keys h, by rw [lenK_keys h]; decide, ?_⟩
  unfold refK
  rw [if_neg (by omega), if_pos (by omega), if_neg (by omega), if_pos (by omega), if_pos rfl]
  congr 1; omega
theorem irTa {i : Nat} (h : i < 30) : IsR (47 + 4 * i) 2 1 (49 + 4 * i) := by
  refine ⟨by omega, tagK_keys h, by rw [lenK_keys h]; decide, ?_⟩
  unfold refK
  rw [if_neg (by omega), if_pos (by omega), if_neg (by omega), if_pos (by omega), if_neg (by decide), if_pos rfl]
  congr 1; omega
theorem irBk {i : Nat} (h : i < 60) : IsR (166 + 2 * i) 3 16 (167 + 2 * i) := by
  refine ⟨by omega, tagK_line h, by rw [lenK_line h]; decide, ?_⟩
  unfold refK
  rw [if_neg (by omega), if_neg (by omega), if_pos (by omega), if_pos ⟨by omega, rfl⟩]
  congr 1; omega
theorem icL {c j : Nat} (h : c < 60) (hj : (Nat.blt j 18 && !(j == 16)) = true) : IsC false (166 + 2 * c) 3 j (lsF j) c := by
  simp only [Bool.and_eq_true, Nat.blt_eq, Bool.not_eq_true', beq_eq_false_iff_ne, ne_eq] at hj
  obtain ⟨h1, h2⟩ := hj
  refine ⟨⟨by omega, tagK_line h, by rw [lenK_line h]; exact h1, ?_, by decide⟩, mdl_lt (by omega), ?_⟩
  · unfold refK
    rw [if_neg (by omega), if_neg (by omega), if_pos (by omega), if_neg (by omega)]
  · unfold aF
    rw [if_neg (by omega), if_neg (by omega), if_pos (by omega), if_pos ⟨by omega, h1, h2⟩]
    congr 1; omega
theorem icN {c j : Nat} (h : c < 30) (hj : Nat.blt j 15 = true) : IsC false (46 + 4 * c) 4 j (nsF j) c := by
  have h1 := Nat.blt_eq.mp hj
  refine ⟨⟨by omega, tagK_node h, by rw [lenK_node h]; omega, ?_, by decide⟩, mdl_lt (by omega), ?_⟩
  · unfold refK
    rw [if_neg (by omega), if_pos (by omega), if_pos (by omega), if_neg (by omega)]
  · unfold aF
    rw [if_neg (by omega), if_pos (by omega), if_pos ⟨by omega, h1⟩]
    congr 1; omega
theorem icKs {c : Nat} (h : c < 30) : IsC false (47 + 4 * c) 2 2 306 c := by
  refine ⟨⟨by omega, tagK_keys h, by rw [lenK_keys h]; decide, ?_, by decide⟩, mdl_lt (by omega), ?_⟩
  · unfold refK
    rw [if_neg (by omega), if_pos (by omega), if_neg (by omega), if_pos (by omega), if_neg (by decide), if_neg (by decide)]
  · unfold aF
    rw [if_neg (by omega), if_pos (by omega), if_neg (by omega), if_pos ⟨by omega, rfl⟩]
    congr 1; omega
theorem icCo {c n : Nat} (h : c < 30) (hn : n < 10) : IsC false (48 + 4 * c) 100 n 307 (10 * c + n) := by
  refine ⟨⟨by omega, (tagK_co h).1, by rw [(lenK_co h).1]; exact hn, ?_, by decide⟩, mdl_lt (by omega), ?_⟩
  · unfold refK
    rw [if_neg (by omega), if_pos (by omega), if_neg (by omega), if_neg (by omega)]
  · unfold aF
    rw [if_neg (by omega), if_pos (by omega), if_neg (by omega), if_neg (by omega), if_pos ⟨by omega, hn⟩]
    congr 1; omega
theorem icTa {c n : Nat} (h : c < 30) (hn : n < 10) : IsC false (49 + 4 * c) 100 n 308 (10 * c + n) := by
  refine ⟨⟨by omega, (tagK_co h).2, by rw [(lenK_co h).2]; exact hn, ?_, by decide⟩, mdl_lt (by omega), ?_⟩
  · unfold refK
    rw [if_neg (by omega), if_pos (by omega), if_neg (by omega), if_neg (by omega)]
  · unfold aF
    rw [if_neg (by omega), if_pos (by omega), if_neg (by omega), if_neg (by omega), if_neg (by omega), if_pos ⟨by omega, hn⟩]
    congr 1; omega
theorem icBk {c n : Nat} (h : c < 60) (hn : n < 4) : IsC false (167 + 2 * c) 100 n 319 (4 * c + n) := by
  refine ⟨⟨by omega, tagK_bk h, by rw [lenK_bk h]; exact hn, ?_, by decide⟩, mdl_lt (by omega), ?_⟩
  · unfold refK
    rw [if_neg (by omega), if_neg (by omega), if_pos (by omega), if_neg (by omega)]
  · unfold aF
    rw [if_neg (by omega), if_neg (by omega), if_pos (by omega), if_neg (by omega), if_pos ⟨by omega, hn⟩]
    congr 1; omega
theorem icD {c j : Nat} (h : c < 6) (hj : Nat.blt j 6 = true) : IsC false (286 + c) 0 j (dsF j) c := by
  have h1 := Nat.blt_eq.mp hj
  refine ⟨⟨by omega, tagK_desk h, by rw [lenK_desk h]; exact h1, ?_, by decide⟩, mdl_lt (by omega), ?_⟩
  · unfold refK
    rw [if_neg (by omega), if_neg (by omega), if_neg (by omega), if_neg (by omega)]
  · unfold aF
    rw [if_neg (by omega), if_neg (by omega), if_neg (by omega), if_pos (by omega), if_pos h1]
    rw [Nat.add_sub_cancel_left]
theorem icW {f t : Nat} (h : f < 30) (ht : t < 31) : IsC false (15 + f) 100 t 309 (31 * f + (if t = 0 then 30 else t - 1)) := by
  refine ⟨⟨by omega, tagK_w h, by rw [lenK_w h]; exact ht, ?_, by decide⟩, mdl_lt (by omega), ?_⟩
  · unfold refK
    rw [if_pos (by omega), if_neg (by omega), if_neg (by omega), if_neg (by omega), if_neg (by omega), if_neg (by omega), if_neg (by omega), if_neg (by omega)]
  · unfold aF
    rw [if_pos (by omega), if_neg (by omega), if_neg (by omega), if_neg (by omega), if_neg (by omega), if_neg (by omega), if_neg (by omega), if_neg (by omega), if_neg (by omega), if_neg (by omega), if_neg (by omega), if_pos ⟨by omega, by omega, ht⟩, Nat.add_sub_cancel_left]
theorem icW0 {f : Nat} (h : f < 30) : IsC false (15 + f) 100 0 309 (31 * f + 30) := icW h (by decide)
theorem icW1 {f t : Nat} (h : f < 30) (ht : t < 30) : IsC false (15 + f) 100 (t + 1) 309 (31 * f + t) := icW (t := t + 1) h (by omega)
theorem icCalls : IsC false 0 6 7 292 19 := ⟨⟨by decide, rfl, by decide, rfl, by decide⟩, rfl, rfl⟩
theorem icNow : IsC false 0 6 8 292 0 := ⟨⟨by decide, rfl, by decide, rfl, by decide⟩, rfl, rfl⟩
theorem icFrom {n : Nat} (hn : n < 7) : IsC false 5 100 n 293 n := ⟨⟨by decide, rfl, hn, rfl, by decide⟩, rfl, rfl⟩
theorem icTo {n : Nat} (hn : n < 7) : IsC false 6 100 n 294 n := ⟨⟨by decide, rfl, hn, rfl, by decide⟩, rfl, rfl⟩
theorem icHol {n : Nat} (hn : n < 84) : IsC false 7 101 n 295 n := ⟨⟨by decide, rfl, hn, rfl, by decide⟩, rfl, rfl⟩
theorem icSize : IsC false 8 1 4 470 0 := ⟨⟨by decide, rfl, by decide, rfl, by decide⟩, rfl, rfl⟩
theorem icWho {n : Nat} (hn : n < 1024) : IsC false 9 100 n 471 n := ⟨⟨by decide, rfl, hn, rfl, by decide⟩, rfl, rfl⟩
theorem icSkl {n : Nat} (hn : n < 1024) : IsC false 10 100 n 472 n := ⟨⟨by decide, rfl, hn, rfl, by decide⟩, rfl, rfl⟩
theorem icPri {n : Nat} (hn : n < 1024) : IsC false 11 100 n 473 n := ⟨⟨by decide, rfl, hn, rfl, by decide⟩, rfl, rfl⟩
theorem icWhen {n : Nat} (hn : n < 1024) : IsC false 12 100 n 474 n := ⟨⟨by decide, rfl, hn, rfl, by decide⟩, rfl, rfl⟩
theorem icOpen {n : Nat} (hn : n < 60) : IsC false 13 100 n 475 n := ⟨⟨by decide, rfl, hn, rfl, by decide⟩, rfl, rfl⟩
theorem icBeg {n : Nat} (hn : n < 30) : IsC false 45 100 n 310 n := ⟨⟨by decide, rfl, hn, rfl, by decide⟩, rfl, rfl⟩
/-! ===== numbers ===== -/
theorem i32_add (a b : Nat) : i32 a + i32 b = i32 (a + b) := (Int32.ofNat_add a b).symm
theorem i32_mul (a b : Nat) : i32 a * i32 b = i32 (a * b) := (Int32.ofNat_mul a b).symm
theorem i32_inj {a b : Nat} (ha : a < 2147483648) (hb : b < 2147483648) : i32 a = i32 b ↔ a = b := by
  constructor
  · intro h
    have := congrArg Int32.toInt h
    rw [i32_int ha, i32_int hb] at this
    omega
  · intro h; rw [h]
theorem i32_lt {a b : Nat} (ha : a < 2147483648) (hb : b < 2147483648) : i32 a < i32 b ↔ a < b := by
  rw [Int32.lt_iff_toInt_lt, i32_int ha, i32_int hb]
  omega
theorem i32_le {a b : Nat} (ha : a < 2147483648) (hb : b < 2147483648) : i32 a ≤ i32 b ↔ a ≤ b := by
  rw [Int32.le_iff_toInt_le, i32_int ha, i32_int hb]
  omega
theorem i32_sub {a b : Nat} (h : b ≤ a) : i32 a - i32 b = i32 (a - b) := by
  have e : i32 (a - b) + i32 b = i32 a := by rw [i32_add]; congr 1; omega
  rw [← e]
  apply Int32.toBitVec_inj.mp
  simp
theorem i32_of {x : Int32} {n : Nat} (hn : n < 2147483648) (h0 : 0 ≤ x) (h1 : x ≤ i32 n) : ∃ m, m ≤ n ∧ x = i32 m := by
  rw [Int32.le_iff_toInt_le] at h0 h1
  rw [i32_int hn] at h1
  have e0 : (0 : Int32).toInt = 0 := rfl
  rw [e0] at h0
  refine ⟨x.toInt.toNat, by omega, ?_⟩
  apply Int32.toInt_inj.mp
  rw [i32_int (by omega)]
  omega
theorem le_of_not_lt32 {x y : Int32} (h : ¬ x < y) : y ≤ x := Int32.not_lt.mp h
theorem lt_of_not_le32 {x y : Int32} (h : ¬ x ≤ y) : y < x := Int32.not_le.mp h
section ZN
variable {σ : Bool} {mi rc rs pc nx d a b : Nat} {ml : ML} {st rest : List Value} {z : Sg} {P : MO → Sg → Prop} {ts : List (Int32 × Nat)}
theorem zTo {ml' : ML} {st' : List Value} (h1 : ml = ml') (h2 : st = st') (k : Ws σ mi rc rs pc ml' st' z P) : Ws σ mi rc rs pc ml st z P := by
  subst h1
  subst h2
  exact k
theorem nCe {off : Int} (ha : a < 2147483648) (hb : b < 2147483648) (hE : mEnt mi pc = some (.if_icmp .eq off, nx, ts, d)) (kt : a = b → Ws σ mi rc rs d ml rest z P) (kf : ¬ a = b → Ws σ mi rc rs nx ml rest z P) : Ws σ mi rc rs pc ml (.int (i32 b) :: .int (i32 a) :: rest) z P := zCe hE (fun h => kt ((i32_inj ha hb).mp h)) (fun h => kf (fun q => h ((i32_inj ha hb).mpr q)))
theorem nCn {off : Int} (ha : a < 2147483648) (hb : b < 2147483648) (hE : mEnt mi pc = some (.if_icmp .ne off, nx, ts, d)) (kt : ¬ a = b → Ws σ mi rc rs d ml rest z P) (kf : a = b → Ws σ mi rc rs nx ml rest z P) : Ws σ mi rc rs pc ml (.int (i32 b) :: .int (i32 a) :: rest) z P := zCn hE (fun h => kt (fun q => h ((i32_inj ha hb).mpr q))) (fun h => kf ((i32_inj ha hb).mp h))
theorem nClt {off : Int} (ha : a < 2147483648) (hb : b < 2147483648) (hE : mEnt mi pc = some (.if_icmp .lt off, nx, ts, d)) (kt : a < b → Ws σ mi rc rs d ml rest z P) (kf : ¬ a < b → Ws σ mi rc rs nx ml rest z P) : Ws σ mi rc rs pc ml (.int (i32 b) :: .int (i32 a) :: rest) z P := zClt hE (fun h => kt ((i32_lt ha hb).mp h)) (fun h => kf (fun q => h ((i32_lt ha hb).mpr q)))
theorem nCge {off : Int} (ha : a < 2147483648) (hb : b < 2147483648) (hE : mEnt mi pc = some (.if_icmp .ge off, nx, ts, d)) (kt : b ≤ a → Ws σ mi rc rs d ml rest z P) (kf : ¬ b ≤ a → Ws σ mi rc rs nx ml rest z P) : Ws σ mi rc rs pc ml (.int (i32 b) :: .int (i32 a) :: rest) z P := zCge hE (fun h => kt ((i32_le hb ha).mp h)) (fun h => kf (fun q => h ((i32_le hb ha).mpr q)))
theorem nCgt {off : Int} (ha : a < 2147483648) (hb : b < 2147483648) (hE : mEnt mi pc = some (.if_icmp .gt off, nx, ts, d)) (kt : b < a → Ws σ mi rc rs d ml rest z P) (kf : ¬ b < a → Ws σ mi rc rs nx ml rest z P) : Ws σ mi rc rs pc ml (.int (i32 b) :: .int (i32 a) :: rest) z P := zCgt hE (fun h => kt ((i32_lt hb ha).mp h)) (fun h => kf (fun q => h ((i32_lt hb ha).mpr q)))
theorem nCle {off : Int} (ha : a < 2147483648) (hb : b < 2147483648) (hE : mEnt mi pc = some (.if_icmp .le off, nx, ts, d)) (kt : a ≤ b → Ws σ mi rc rs d ml rest z P) (kf : ¬ a ≤ b → Ws σ mi rc rs nx ml rest z P) : Ws σ mi rc rs pc ml (.int (i32 b) :: .int (i32 a) :: rest) z P := zCle hE (fun h => kt ((i32_le ha hb).mp h)) (fun h => kf (fun q => h ((i32_le ha hb).mpr q)))
theorem nIlt {off : Int} (ha : a < 2147483648) (hE : mEnt mi pc = some (.ifCond .lt off, nx, ts, d)) (kf : Ws σ mi rc rs nx ml rest z P) : Ws σ mi rc rs pc ml (.int (i32 a) :: rest) z P := zIflt hE (fun h => absurd h (i32_nn ha)) (fun _ => kf)
theorem nIge {off : Int} (ha : a < 2147483648) (hE : mEnt mi pc = some (.ifCond .ge off, nx, ts, d)) (kt : Ws σ mi rc rs d ml rest z P) : Ws σ mi rc rs pc ml (.int (i32 a) :: rest) z P := zIfge hE (fun _ => kt) (fun h => absurd (le_of_not_lt32 (i32_nn ha)) h)
theorem nIgt {off : Int} (ha : a < 2147483648) (hE : mEnt mi pc = some (.ifCond .gt off, nx, ts, d)) (kt : 0 < a → Ws σ mi rc rs d ml rest z P) (kf : a = 0 → Ws σ mi rc rs nx ml rest z P) : Ws σ mi rc rs pc ml (.int (i32 a) :: rest) z P := zIfgt hE (fun h => kt ((i32_lt (a := 0) (by decide) ha).mp h)) (fun h => kf (Nat.eq_zero_of_not_pos (fun q => h ((i32_lt (a := 0) (by decide) ha).mpr q))))
theorem nIle {off : Int} (ha : a < 2147483648) (hE : mEnt mi pc = some (.ifCond .le off, nx, ts, d)) (kt : a = 0 → Ws σ mi rc rs d ml rest z P) (kf : 0 < a → Ws σ mi rc rs nx ml rest z P) : Ws σ mi rc rs pc ml (.int (i32 a) :: rest) z P := zIfle hE (fun h => kt (Nat.eq_zero_of_not_pos (fun q => absurd ((i32_lt (a := 0) (by decide) ha).mpr q) (Int32.not_lt.mpr h)))) (fun h => kf ((i32_lt (a := 0) (by decide) ha).mp (Int32.not_le.mp h)))
theorem nIe {off : Int} (ha : a < 2147483648) (hE : mEnt mi pc = some (.ifCond .eq off, nx, ts, d)) (kt : a = 0 → Ws σ mi rc rs d ml rest z P) (kf : ¬ a = 0 → Ws σ mi rc rs nx ml rest z P) : Ws σ mi rc rs pc ml (.int (i32 a) :: rest) z P := zIfe hE (fun h => kt ((i32_inj (b := 0) ha (by decide)).mp h)) (fun h => kf (fun q => h ((i32_inj (b := 0) ha (by decide)).mpr q)))
theorem nIn {off : Int} (ha : a < 2147483648) (hE : mEnt mi pc = some (.ifCond .ne off, nx, ts, d)) (kt : ¬ a = 0 → Ws σ mi rc rs d ml rest z P) (kf : a = 0 → Ws σ mi rc rs nx ml rest z P) : Ws σ mi rc rs pc ml (.int (i32 a) :: rest) z P := zIfn hE (fun h => kt (fun q => h ((i32_inj (b := 0) ha (by decide)).mpr q))) (fun h => kf ((i32_inj (b := 0) ha (by decide)).mp h))
/-- switches -/
theorem zSw {E : ME} {x : Int32} (hE : mEnt mi pc = some E) (hs : (match E.1 with | .tableswitch _ _ _ _ => true | .lookupswitch _ _ => true | _ => false) = true) (k : Ws σ mi rc rs (swt E.2.2.1 E.2.2.2 x) ml rest z P) : Ws σ mi rc rs pc ml (.int x :: rest) z P := by
  obtain ⟨i, n, t, d⟩ := E
  intro w
  refine wP hE ?_ (k w)
  cases i <;> first | rfl | exact absurd hs (by simp)
end ZN
section ZM
variable {σ : Bool} {mi rc rs pc nx d t : Nat} {ml : ML} {st rest : List Value} {z : Sg} {P : MO → Sg → Prop} {ts r : List (Int32 × Nat)}
theorem zSwS {x c : Int32} (kt : x = c → Ws σ mi rc rs t ml rest z P) (kf : ¬ x = c → Ws σ mi rc rs (swt r d x) ml rest z P) : Ws σ mi rc rs (swt ((c, t) :: r) d x) ml rest z P := by
  simp only [swt]
  by_cases h : x = c
  · rw [if_pos h]; exact kt h
  · rw [if_neg h]; exact kf h
theorem zSw0 {x : Int32} (k : Ws σ mi rc rs d ml rest z P) : Ws σ mi rc rs (swt [] d x) ml rest z P := k
theorem zMax {i : Nat} {x y : Int32} {q : Unit × Nat} (hE : mEnt mi pc = some (.invokestatic i, nx, ts, d)) (hf : lk2 maxL (mCls mi) i = some q) (hb : ((Nat.ble 1 (mHt mi) && Nat.ble 21 (mLo mi)) && Nat.ble (rest.map fun v => v.category).sum 8) = true) (k : Ws σ mi rc rs nx ml (.int (if x < y then y else x) :: rest) z P) : Ws σ mi rc rs pc ml (.int y :: .int x :: rest) z P := by
  intro w
  refine wH hE rfl ?_ (k w)
  simp only [stepH, sMax, hf, hb, cond_true]
theorem i32_div {a b : Nat} (ha : a < 2147483648) (hb : 0 < b) (hb2 : b < 2147483648) : i32 a / i32 b = i32 (a / b) := by
  apply Int32.toInt_inj.mp
  have h1 : a / b ≤ a := Nat.div_le_self a b
  rw [i32_int (by omega), Int32.toInt_div_of_ne_left, i32_int ha, i32_int hb2]
  · exact Int.ofNat_tdiv a b
  · intro h
    have := congrArg Int32.toInt h
    rw [i32_int ha] at this
    have e : Int32.minValue.toInt = -2147483648 := by decide
    omega
theorem i32_mod {a b : Nat} (ha : a < 2147483648) (hb : 0 < b) (hb2 : b < 2147483648) : i32 a - i32 a / i32 b * i32 b = i32 (a % b) := by
  rw [i32_div ha hb hb2, i32_mul, i32_sub (Nat.div_mul_le_self a b)]
  congr 1
  have := Nat.div_add_mod a b
  rw [Nat.mul_comm] at this
  omega
end ZM
abbrev isN (x : Int32) : Prop := 0 ≤ x ∧ x ≤ 29
abbrev isT (x : Int32) : Prop := -1 ≤ x ∧ x ≤ 29
