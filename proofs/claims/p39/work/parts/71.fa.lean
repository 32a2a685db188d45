/-! ===== the class on memory as a number ===== -/
noncomputable def F_1 (a : Nat) (t : Int32) (l : Nat) : Nat := (Wm (Wm (Wm l (ad 2038 6 326 a) (1 : Int32)) (ad 2068 6 331 a) (-1 : Int32)) (ad 2050 6 328 a) t)
theorem t_1 (a : Nat) (t : Int32) (m9 : Nat) : f_1 a t (dec m9) = dec (F_1 a t m9) := by
  unfold f_1 F_1
  (simp only [dk_326, ud_326, dk_328, ud_328, dk_331, ud_331, bnd_d, bnd2_d, bndF_eq, bnd2F_eq, dec_bnd, d2_bnd, dP_bnd, dec_bnd2, d2_bnd2, dP_bnd2, dec_ite, d2_ite, dP_ite, d2_mk, dP_mk, qk]) <;> (repeat' first | with_reducible rfl | refine ite_t9 ?_ ?_ ?_ | refine bnd_c9 (fun _ => ?_) | refine bnd2_c9 (fun _ _ => ?_))
noncomputable def F_2 (a : Nat) (t : Int32) (l : Nat) : Nat := (Wm (Wm (Wm l (ad 2038 6 326 a) (4 : Int32)) (ad 2068 6 331 a) (-1 : Int32)) (ad 2062 6 330 a) (t + (R l (ad 2056 6 329 a))))
theorem t_2 (a : Nat) (t : Int32) (m9 : Nat) : f_2 a t (dec m9) = dec (F_2 a t m9) := by
  unfold f_2 F_2
  (simp only [dk_326, ud_326, dk_329, ud_329, dk_330, ud_330, dk_331, ud_331, bnd_d, bnd2_d, bndF_eq, bnd2F_eq, dec_bnd, d2_bnd, dP_bnd, dec_bnd2, d2_bnd2, dP_bnd2, dec_ite, d2_ite, dP_ite, d2_mk, dP_mk, qk]) <;> (repeat' first | with_reducible rfl | refine ite_t9 ?_ ?_ ?_ | refine bnd_c9 (fun _ => ?_) | refine bnd2_c9 (fun _ _ => ?_))
noncomputable def F_13 (c : Nat) (l : Nat) : Int32 := (if (R l (ad 958 60 311 c)) = (1 : Int32) then (1 : Int32) else (if ¬ (R l (ad 958 60 311 c)) = (3 : Int32) then (0 : Int32) else (1 : Int32)))
theorem t_13 (c : Nat) (m9 : Nat) : f_13 c (dec m9) = F_13 c m9 := by
  unfold f_13 F_13
  (simp only [dk_311, ud_311, bnd_d, bnd2_d, bndF_eq, bnd2F_eq, dec_bnd, d2_bnd, dP_bnd, dec_bnd2, d2_bnd2, dP_bnd2, dec_ite, d2_ite, dP_ite, d2_mk, dP_mk, qk]) <;> (repeat' first | with_reducible rfl | refine ite_t9 ?_ ?_ ?_ | refine bnd_c9 (fun _ => ?_) | refine bnd2_c9 (fun _ _ => ?_))
noncomputable def F_14 (c : Nat) (w : Int32) (l : Nat) : Int32 := (if ¬ (R l (ad 1678 60 320 c)) = w then (0 : Int32) else (if (R l (ad 958 60 311 c)) = (1 : Int32) then (1 : Int32) else (if ¬ (R l (ad 958 60 311 c)) = (3 : Int32) then (0 : Int32) else (1 : Int32))))
theorem t_14 (c : Nat) (w : Int32) (m9 : Nat) : f_14 c w (dec m9) = F_14 c w m9 := by
  unfold f_14 F_14
  (simp only [dk_311, ud_311, dk_320, ud_320, bnd_d, bnd2_d, bndF_eq, bnd2F_eq, dec_bnd, d2_bnd, dP_bnd, dec_bnd2, d2_bnd2, dP_bnd2, dec_ite, d2_ite, dP_ite, d2_mk, dP_mk, qk]) <;> (repeat' first | with_reducible rfl | refine ite_t9 ?_ ?_ ?_ | refine bnd_c9 (fun _ => ?_) | refine bnd2_c9 (fun _ _ => ?_))
noncomputable def F_15 (c : Nat) (t : Int32) (l : Nat) : Int32 := (if (R l (ad 958 60 311 c)) = (1 : Int32) then (1 : Int32) else (if ¬ (R l (ad 958 60 311 c)) = (3 : Int32) then (0 : Int32) else (if t < (R l (ad 1918 60 324 c)) then (0 : Int32) else (1 : Int32))))
theorem t_15 (c : Nat) (t : Int32) (m9 : Nat) : f_15 c t (dec m9) = F_15 c t m9 := by
  unfold f_15 F_15
  (simp only [dk_311, ud_311, dk_324, ud_324, bnd_d, bnd2_d, bndF_eq, bnd2F_eq, dec_bnd, d2_bnd, dP_bnd, dec_bnd2, d2_bnd2, dP_bnd2, dec_ite, d2_ite, dP_ite, d2_mk, dP_mk, qk]) <;> (repeat' first | with_reducible rfl | refine ite_t9 ?_ ?_ ?_ | refine bnd_c9 (fun _ => ?_) | refine bnd2_c9 (fun _ _ => ?_))
noncomputable def F_16 (c : Nat) (t : Int32) (l : Nat) : Int32 := (f_104 ((R l (ad 1738 60 321 c))) (t - (R l (ad 1798 60 322 c))))
theorem t_16 (c : Nat) (t : Int32) (m9 : Nat) : f_16 c t (dec m9) = F_16 c t m9 := by
  unfold f_16 F_16
  (simp only [dk_321, ud_321, dk_322, ud_322, bnd_d, bnd2_d, bndF_eq, bnd2F_eq, dec_bnd, d2_bnd, dP_bnd, dec_bnd2, d2_bnd2, dP_bnd2, dec_ite, d2_ite, dP_ite, d2_mk, dP_mk, qk]) <;> (repeat' first | with_reducible rfl | refine ite_t9 ?_ ?_ ?_ | refine bnd_c9 (fun _ => ?_) | refine bnd2_c9 (fun _ _ => ?_))
noncomputable def F_17 (c : Nat) (m : Nat) (t : Int32) (l : Nat) : Nat := (Wm (Wm (Wm (Wm l (ad 2194 60 420 c) (1 : Int32)) (ad 1678 60 320 c) ((R l (ad 2524 30 442 m)))) (ad 1738 60 321 c) ((R l (ad 2554 30 443 m)))) (ad 1798 60 322 c) t)
theorem t_17 (c : Nat) (m : Nat) (t : Int32) (m9 : Nat) : f_17 c m t (dec m9) = dec (F_17 c m t m9) := by
  unfold f_17 F_17
  (simp only [dk_320, ud_320, dk_321, ud_321, dk_322, ud_322, dk_420, ud_420, dk_442, ud_442, dk_443, ud_443, bnd_d, bnd2_d, bndF_eq, bnd2F_eq, dec_bnd, d2_bnd, dP_bnd, dec_bnd2, d2_bnd2, dP_bnd2, dec_ite, d2_ite, dP_ite, d2_mk, dP_mk, qk]) <;> (repeat' first | with_reducible rfl | refine ite_t9 ?_ ?_ ?_ | refine bnd_c9 (fun _ => ?_) | refine bnd2_c9 (fun _ _ => ?_))
noncomputable def F_18 (c : Nat) (l : Nat) : Nat := (Wm (Wm l (ad 2194 60 420 c) (0 : Int32)) (ad 1378 60 318 c) (0 : Int32))
theorem t_18 (c : Nat) (m9 : Nat) : f_18 c (dec m9) = dec (F_18 c m9) := by
  unfold f_18 F_18
  (simp only [dk_318, ud_318, dk_420, ud_420, bnd_d, bnd2_d, bndF_eq, bnd2F_eq, dec_bnd, d2_bnd, dP_bnd, dec_bnd2, d2_bnd2, dP_bnd2, dec_ite, d2_ite, dP_ite, d2_mk, dP_mk, qk]) <;> (repeat' first | with_reducible rfl | refine ite_t9 ?_ ?_ ?_ | refine bnd_c9 (fun _ => ?_) | refine bnd2_c9 (fun _ _ => ?_))
noncomputable def F_19 (c : Nat) (t : Int32) (l : Nat) : Nat := (Wm (Wm (Wm l (ad 1138 60 314 c) (1 : Int32)) (ad 2134 60 418 c) (0 : Int32)) (ad 1258 60 316 c) t)
theorem t_19 (c : Nat) (t : Int32) (m9 : Nat) : f_19 c t (dec m9) = dec (F_19 c t m9) := by
  unfold f_19 F_19
  (simp only [dk_314, ud_314, dk_316, ud_316, dk_418, ud_418, bnd_d, bnd2_d, bndF_eq, bnd2F_eq, dec_bnd, d2_bnd, dP_bnd, dec_bnd2, d2_bnd2, dP_bnd2, dec_ite, d2_ite, dP_ite, d2_mk, dP_mk, qk]) <;> (repeat' first | with_reducible rfl | refine ite_t9 ?_ ?_ ?_ | refine bnd_c9 (fun _ => ?_) | refine bnd2_c9 (fun _ _ => ?_))
noncomputable def F_20 (c : Nat) (g : Int32) (t : Int32) (l : Nat) : Nat := (Wm (Wm (Wm l (ad 1138 60 314 c) (((R l (ad 1138 60 314 c)) * (10 : Int32)) + g)) (ad 2134 60 418 c) ((R l (ad 2134 60 418 c)) + (1 : Int32))) (ad 1258 60 316 c) t)
theorem t_20 (c : Nat) (g : Int32) (t : Int32) (m9 : Nat) : f_20 c g t (dec m9) = dec (F_20 c g t m9) := by
  unfold f_20 F_20
  (simp only [dk_314, ud_314, dk_316, ud_316, dk_418, ud_418, bnd_d, bnd2_d, bndF_eq, bnd2F_eq, dec_bnd, d2_bnd, dP_bnd, dec_bnd2, d2_bnd2, dP_bnd2, dec_ite, d2_ite, dP_ite, d2_mk, dP_mk, qk]) <;> (repeat' first | with_reducible rfl | refine ite_t9 ?_ ?_ ?_ | refine bnd_c9 (fun _ => ?_) | refine bnd2_c9 (fun _ _ => ?_))
noncomputable def F_29 (t : Int32) (l : Nat) : Int32 := (if (t / (240 : Int32)) < 0 then (0 : Int32) else (if (84 : Int32) ≤ (t / (240 : Int32)) then (0 : Int32) else (if (R l (ad 34 84 295 ((t / (240 : Int32)).toNatClampNeg))) = 0 then (if (f_28 t) < 0 then (0 : Int32) else (if (7 : Int32) ≤ (f_28 t) then (0 : Int32) else (if (t - t / (240 : Int32) * (240 : Int32)) < (R l (ad 20 7 293 ((f_28 t).toNatClampNeg))) then (0 : Int32) else (if (R l (ad 27 7 294 ((f_28 t).toNatClampNeg))) ≤ (t - t / (240 : Int32) * (240 : Int32)) then (0 : Int32) else (1 : Int32))))) else (0 : Int32))))
theorem t_29 (t : Int32) (m9 : Nat) : f_29 t (dec m9) = F_29 t m9 := by
  unfold f_29 F_29
  (simp only [dk_293, ud_293, dk_294, ud_294, dk_295, ud_295, bnd_d, bnd2_d, bndF_eq, bnd2F_eq, dec_bnd, d2_bnd, dP_bnd, dec_bnd2, d2_bnd2, dP_bnd2, dec_ite, d2_ite, dP_ite, d2_mk, dP_mk, qk]) <;> (repeat' first | with_reducible rfl | refine ite_t9 ?_ ?_ ?_ | refine bnd_c9 (fun _ => ?_) | refine bnd2_c9 (fun _ _ => ?_))
noncomputable def G_21 (c : Nat) : Nat → Nat → Int32 → Nat → Int32
  | 0, _, a, l => (if (R l (ad 2134 60 418 c)) ≤ i32 6 then ((R l (ad 1138 60 314 c)) - a) else ((R l (ad 1138 60 314 c)) - a))
  | d + 1, j, a, l => (if (R l (ad 2134 60 418 c)) ≤ i32 j then ((R l (ad 1138 60 314 c)) - a) else G_21 c d (j + 1) (a * (10 : Int32)) l)
theorem tg_21 (c : Nat) : ∀ (d9 : Nat) (v1 : Nat) (v2 : Int32) (m9 : Nat), g_21 c d9 v1 v2 (dec m9) = G_21 c d9 v1 v2 m9 := by
  intro d9
  induction d9 with
  | zero =>
    intros
    (simp only [g_21, G_21, dk_314, ud_314, dk_418, ud_418, bnd_d, bnd2_d, bndF_eq, bnd2F_eq, dec_bnd, d2_bnd, dP_bnd, dec_bnd2, d2_bnd2, dP_bnd2, dec_ite, d2_ite, dP_ite, d2_mk, dP_mk, qk]) <;> (repeat' first | with_reducible rfl | refine ite_t9 ?_ ?_ ?_ | refine bnd_c9 (fun _ => ?_) | refine bnd2_c9 (fun _ _ => ?_))
  | succ d9 ih =>
    intros
    (simp only [g_21, G_21, ih, dk_314, ud_314, dk_418, ud_418, bnd_d, bnd2_d, bndF_eq, bnd2F_eq, dec_bnd, d2_bnd, dP_bnd, dec_bnd2, d2_bnd2, dP_bnd2, dec_ite, d2_ite, dP_ite, d2_mk, dP_mk, qk]) <;> (repeat' first | with_reducible rfl | refine ite_t9 ?_ ?_ ?_ | refine bnd_c9 (fun _ => ?_) | refine bnd2_c9 (fun _ _ => ?_))
noncomputable def F_21 (c : Nat) (l : Nat) : Int32 := G_21 c 6 0 (1 : Int32) l
theorem t_21 (c : Nat) (m9 : Nat) : f_21 c (dec m9) = F_21 c m9 := by
  unfold f_21 F_21
  (simp only [bnd_d, bnd2_d, bndF_eq, bnd2F_eq, dec_bnd, d2_bnd, dP_bnd, dec_bnd2, d2_bnd2, dP_bnd2, dec_ite, d2_ite, dP_ite, d2_mk, dP_mk, qk, tg_21]) <;> (repeat' first | with_reducible rfl | refine ite_t9 ?_ ?_ ?_ | refine bnd_c9 (fun _ => ?_) | refine bnd2_c9 (fun _ _ => ?_))
noncomputable def G_9 (m : Nat) (x : Int32) (y : Int32) : Nat → Nat → Nat → Int32 × Nat
  | 0, _, l => (if (R l (ad 298 30 306 m)) ≤ i32 10 then ((0 : Int32), l) else ((0 : Int32), l))
  | d + 1, j, l => (if (R l (ad 298 30 306 m)) ≤ i32 j then ((1 : Int32), (Wm (Wm (Wm l (ad 328 300 307 (10 * m + j)) x) (ad 628 300 308 (10 * m + j)) y) (ad 298 30 306 m) (if (R l (ad 298 30 306 m)) < i32 (j + 1) then i32 (j + 1) else (R l (ad 298 30 306 m))))) else (if (R l (ad 328 300 307 (10 * m + j))) = x then ((1 : Int32), (Wm (Wm (Wm l (ad 328 300 307 (10 * m + j)) x) (ad 628 300 308 (10 * m + j)) y) (ad 298 30 306 m) (if (R l (ad 298 30 306 m)) < i32 (j + 1) then i32 (j + 1) else (R l (ad 298 30 306 m))))) else G_9 m x y d (j + 1)  l))
theorem tg_9 (m : Nat) (x : Int32) (y : Int32) : ∀ (d9 : Nat) (v1 : Nat) (m9 : Nat), g_9 m x y d9 v1 (dec m9) = d2 (G_9 m x y d9 v1 m9) := by
  intro d9
  induction d9 with
  | zero =>
    intros
    (simp only [g_9, G_9, dk_306, ud_306, dk_307, ud_307, dk_308, ud_308, bnd_d, bnd2_d, bndF_eq, bnd2F_eq, dec_bnd, d2_bnd, dP_bnd, dec_bnd2, d2_bnd2, dP_bnd2, dec_ite, d2_ite, dP_ite, d2_mk, dP_mk, qk]) <;> (repeat' first | with_reducible rfl | refine ite_t9 ?_ ?_ ?_ | refine bnd_c9 (fun _ => ?_) | refine bnd2_c9 (fun _ _ => ?_))
  | succ d9 ih =>
    intros
    (simp only [g_9, G_9, ih, dk_306, ud_306, dk_307, ud_307, dk_308, ud_308, bnd_d, bnd2_d, bndF_eq, bnd2F_eq, dec_bnd, d2_bnd, dP_bnd, dec_bnd2, d2_bnd2, dP_bnd2, dec_ite, d2_ite, dP_ite, d2_mk, dP_mk, qk]) <;> (repeat' first | with_reducible rfl | refine ite_t9 ?_ ?_ ?_ | refine bnd_c9 (fun _ => ?_) | refine bnd2_c9 (fun _ _ => ?_))
noncomputable def F_9 (m : Nat) (x : Int32) (y : Int32) (l : Nat) : Int32 × Nat := G_9 m x y 10 0  l
theorem t_9 (m : Nat) (x : Int32) (y : Int32) (m9 : Nat) : f_9 m x y (dec m9) = d2 (F_9 m x y m9) := by
  unfold f_9 F_9
  (simp only [bnd_d, bnd2_d, bndF_eq, bnd2F_eq, dec_bnd, d2_bnd, dP_bnd, dec_bnd2, d2_bnd2, dP_bnd2, dec_ite, d2_ite, dP_ite, d2_mk, dP_mk, qk, tg_9]) <;> (repeat' first | with_reducible rfl | refine ite_t9 ?_ ?_ ?_ | refine bnd_c9 (fun _ => ?_) | refine bnd2_c9 (fun _ _ => ?_))
noncomputable def G_10 (m : Nat) (x : Int32) : Nat → Nat → Nat → Int32
  | 0, _, l => (if (R l (ad 298 30 306 m)) ≤ i32 10 then (-2 : Int32) else (-2 : Int32))
  | d + 1, j, l => (if (R l (ad 298 30 306 m)) ≤ i32 j then (-2 : Int32) else (if ¬ (R l (ad 328 300 307 (10 * m + j))) = x then G_10 m x d (j + 1)  l else (R l (ad 628 300 308 (10 * m + j)))))
theorem tg_10 (m : Nat) (x : Int32) : ∀ (d9 : Nat) (v1 : Nat) (m9 : Nat), g_10 m x d9 v1 (dec m9) = G_10 m x d9 v1 m9 := by
  intro d9
  induction d9 with
  | zero =>
    intros
    (simp only [g_10, G_10, dk_306, ud_306, dk_307, ud_307, dk_308, ud_308, bnd_d, bnd2_d, bndF_eq, bnd2F_eq, dec_bnd, d2_bnd, dP_bnd, dec_bnd2, d2_bnd2, dP_bnd2, dec_ite, d2_ite, dP_ite, d2_mk, dP_mk, qk]) <;> (repeat' first | with_reducible rfl | refine ite_t9 ?_ ?_ ?_ | refine bnd_c9 (fun _ => ?_) | refine bnd2_c9 (fun _ _ => ?_))
  | succ d9 ih =>
    intros
    (simp only [g_10, G_10, ih, dk_306, ud_306, dk_307, ud_307, dk_308, ud_308, bnd_d, bnd2_d, bndF_eq, bnd2F_eq, dec_bnd, d2_bnd, dP_bnd, dec_bnd2, d2_bnd2, dP_bnd2, dec_ite, d2_ite, dP_ite, d2_mk, dP_mk, qk]) <;> (repeat' first | with_reducible rfl | refine ite_t9 ?_ ?_ ?_ | refine bnd_c9 (fun _ => ?_) | refine bnd2_c9 (fun _ _ => ?_))
noncomputable def F_10 (m : Nat) (x : Int32) (l : Nat) : Int32 := G_10 m x 10 0  l
theorem t_10 (m : Nat) (x : Int32) (m9 : Nat) : f_10 m x (dec m9) = F_10 m x m9 := by
  unfold f_10 F_10
  (simp only [bnd_d, bnd2_d, bndF_eq, bnd2F_eq, dec_bnd, d2_bnd, dP_bnd, dec_bnd2, d2_bnd2, dP_bnd2, dec_ite, d2_ite, dP_ite, d2_mk, dP_mk, qk, tg_10]) <;> (repeat' first | with_reducible rfl | refine ite_t9 ?_ ?_ ?_ | refine bnd_c9 (fun _ => ?_) | refine bnd2_c9 (fun _ _ => ?_))
noncomputable def G_11 (m : Nat) (x : Int32) : Nat → Nat → Nat → Int32
  | 0, _, l => (if (R l (ad 298 30 306 m)) ≤ i32 10 then (0 : Int32) else (0 : Int32))
  | d + 1, j, l => (if (R l (ad 298 30 306 m)) ≤ i32 j then (0 : Int32) else (if ((R l (ad 328 300 307 (10 * m + j))) / (10 : Int32)) = x then (1 : Int32) else (if ¬ ((R l (ad 328 300 307 (10 * m + j))) / (100 : Int32)) = x then G_11 m x d (j + 1)  l else (1 : Int32))))
theorem tg_11 (m : Nat) (x : Int32) : ∀ (d9 : Nat) (v1 : Nat) (m9 : Nat), g_11 m x d9 v1 (dec m9) = G_11 m x d9 v1 m9 := by
  intro d9
  induction d9 with
  | zero =>
    intros
    (simp only [g_11, G_11, dk_306, ud_306, dk_307, ud_307, bnd_d, bnd2_d, bndF_eq, bnd2F_eq, dec_bnd, d2_bnd, dP_bnd, dec_bnd2, d2_bnd2, dP_bnd2, dec_ite, d2_ite, dP_ite, d2_mk, dP_mk, qk]) <;> (repeat' first | with_reducible rfl | refine ite_t9 ?_ ?_ ?_ | refine bnd_c9 (fun _ => ?_) | refine bnd2_c9 (fun _ _ => ?_))
  | succ d9 ih =>
    intros
    (simp only [g_11, G_11, ih, dk_306, ud_306, dk_307, ud_307, bnd_d, bnd2_d, bndF_eq, bnd2F_eq, dec_bnd, d2_bnd, dP_bnd, dec_bnd2, d2_bnd2, dP_bnd2, dec_ite, d2_ite, dP_ite, d2_mk, dP_mk, qk]) <;> (repeat' first | with_reducible rfl | refine ite_t9 ?_ ?_ ?_ | refine bnd_c9 (fun _ => ?_) | refine bnd2_c9 (fun _ _ => ?_))
noncomputable def F_11 (m : Nat) (x : Int32) (l : Nat) : Int32 := G_11 m x 10 0  l
theorem t_11 (m : Nat) (x : Int32) (m9 : Nat) : f_11 m x (dec m9) = F_11 m x m9 := by
  unfold f_11 F_11
  (simp only [bnd_d, bnd2_d, bndF_eq, bnd2F_eq, dec_bnd, d2_bnd, dP_bnd, dec_bnd2, d2_bnd2, dP_bnd2, dec_ite, d2_ite, dP_ite, d2_mk, dP_mk, qk, tg_11]) <;> (repeat' first | with_reducible rfl | refine ite_t9 ?_ ?_ ?_ | refine bnd_c9 (fun _ => ?_) | refine bnd2_c9 (fun _ _ => ?_))
noncomputable def F_26 (m : Nat) (x : Int32) (y : Int32) (l : Nat) : Int32 := (if ¬ (R l (ad 118 30 296 m)) = (2 : Int32) then (if (R l (ad 2404 30 438 m)) ≤ y then (0 : Int32) else (1 : Int32)) else (F_11 m x l))
theorem t_26 (m : Nat) (x : Int32) (y : Int32) (m9 : Nat) : f_26 m x y (dec m9) = F_26 m x y m9 := by
  unfold f_26 F_26
  (simp only [dk_296, ud_296, dk_438, ud_438, bnd_d, bnd2_d, bndF_eq, bnd2F_eq, dec_bnd, d2_bnd, dP_bnd, dec_bnd2, d2_bnd2, dP_bnd2, dec_ite, d2_ite, dP_ite, d2_mk, dP_mk, qk, t_11]) <;> (repeat' first | with_reducible rfl | refine ite_t9 ?_ ?_ ?_ | refine bnd_c9 (fun _ => ?_) | refine bnd2_c9 (fun _ _ => ?_))
noncomputable def F_25 (m : Nat) (x : Int32) (y : Int32) (w : Int32) (l : Nat) : Nat := (Wm (Wm (Wm (Wm (Wm (Wm (Wm l (ad 118 30 296 m) x) (ad 148 30 301 m) y) (ad 178 30 302 m) w) (ad 208 30 303 m) (10 : Int32)) (ad 238 30 304 m) (3 : Int32)) (ad 268 30 305 m) (2 : Int32)) (ad 298 30 306 m) (0 : Int32))
theorem t_25 (m : Nat) (x : Int32) (y : Int32) (w : Int32) (m9 : Nat) : f_25 m x y w (dec m9) = dec (F_25 m x y w m9) := by
  unfold f_25 F_25
  (simp only [dk_296, ud_296, dk_301, ud_301, dk_302, ud_302, dk_303, ud_303, dk_304, ud_304, dk_305, ud_305, dk_306, ud_306, bnd_d, bnd2_d, bndF_eq, bnd2F_eq, dec_bnd, d2_bnd, dP_bnd, dec_bnd2, d2_bnd2, dP_bnd2, dec_ite, d2_ite, dP_ite, d2_mk, dP_mk, qk]) <;> (repeat' first | with_reducible rfl | refine ite_t9 ?_ ?_ ?_ | refine bnd_c9 (fun _ => ?_) | refine bnd2_c9 (fun _ _ => ?_))
noncomputable def G_84 (s : Int32) : Nat → Nat → Nat → Int32
  | 0, _, l => (0 : Int32)
  | d + 1, j, l => (if ¬ (R l (ad 2038 6 326 j)) = (1 : Int32) then G_84 s d (j + 1)  l else (if ((R l (ad 2044 6 327 j)) &&& ((1 : Int32) <<< (s &&& 31))) = 0 then G_84 s d (j + 1)  l else (1 : Int32)))
theorem tg_84 (s : Int32) : ∀ (d9 : Nat) (v1 : Nat) (m9 : Nat), g_84 s d9 v1 (dec m9) = G_84 s d9 v1 m9 := by
  intro d9
  induction d9 with
  | zero =>
    intros
    (simp only [g_84, G_84, dk_326, ud_326, dk_327, ud_327, bnd_d, bnd2_d, bndF_eq, bnd2F_eq, dec_bnd, d2_bnd, dP_bnd, dec_bnd2, d2_bnd2, dP_bnd2, dec_ite, d2_ite, dP_ite, d2_mk, dP_mk, qk]) <;> (repeat' first | with_reducible rfl | refine ite_t9 ?_ ?_ ?_ | refine bnd_c9 (fun _ => ?_) | refine bnd2_c9 (fun _ _ => ?_))
  | succ d9 ih =>
    intros
    (simp only [g_84, G_84, ih, dk_326, ud_326, dk_327, ud_327, bnd_d, bnd2_d, bndF_eq, bnd2F_eq, dec_bnd, d2_bnd, dP_bnd, dec_bnd2, d2_bnd2, dP_bnd2, dec_ite, d2_ite, dP_ite, d2_mk, dP_mk, qk]) <;> (repeat' first | with_reducible rfl | refine ite_t9 ?_ ?_ ?_ | refine bnd_c9 (fun _ => ?_) | refine bnd2_c9 (fun _ _ => ?_))
noncomputable def F_84 (s : Int32) (l : Nat) : Int32 := G_84 s 6 0  l
theorem t_84 (s : Int32) (m9 : Nat) : f_84 s (dec m9) = F_84 s m9 := by
  unfold f_84 F_84
  (simp only [bnd_d, bnd2_d, bndF_eq, bnd2F_eq, dec_bnd, d2_bnd, dP_bnd, dec_bnd2, d2_bnd2, dP_bnd2, dec_ite, d2_ite, dP_ite, d2_mk, dP_mk, qk, tg_84]) <;> (repeat' first | with_reducible rfl | refine ite_t9 ?_ ?_ ?_ | refine bnd_c9 (fun _ => ?_) | refine bnd2_c9 (fun _ _ => ?_))
noncomputable def G_102 (n : Nat) (s : Int32) : Nat → Nat → Int32 → Nat → Int32
  | 0, _, a, l => a
  | d + 1, j, a, l => (if (F_14 j s l) = 0 then G_102 n s d (j + 1) a l else G_102 n s d (j + 1) (a + (1 : Int32)) l)
theorem tg_102 (n : Nat) (s : Int32) : ∀ (d9 : Nat) (v1 : Nat) (v2 : Int32) (m9 : Nat), g_102 n s d9 v1 v2 (dec m9) = G_102 n s d9 v1 v2 m9 := by
  intro d9
  induction d9 with
  | zero =>
    intros
    (simp only [g_102, G_102, bnd_d, bnd2_d, bndF_eq, bnd2F_eq, dec_bnd, d2_bnd, dP_bnd, dec_bnd2, d2_bnd2, dP_bnd2, dec_ite, d2_ite, dP_ite, d2_mk, dP_mk, qk, t_14]) <;> (repeat' first | with_reducible rfl | refine ite_t9 ?_ ?_ ?_ | refine bnd_c9 (fun _ => ?_) | refine bnd2_c9 (fun _ _ => ?_))
  | succ d9 ih =>
    intros
    (simp only [g_102, G_102, ih, bnd_d, bnd2_d, bndF_eq, bnd2F_eq, dec_bnd, d2_bnd, dP_bnd, dec_bnd2, d2_bnd2, dP_bnd2, dec_ite, d2_ite, dP_ite, d2_mk, dP_mk, qk, t_14]) <;> (repeat' first | with_reducible rfl | refine ite_t9 ?_ ?_ ?_ | refine bnd_c9 (fun _ => ?_) | refine bnd2_c9 (fun _ _ => ?_))
noncomputable def F_102 (n : Nat) (s : Int32) (l : Nat) : Int32 := G_102 n s n 0 (0 : Int32) l
theorem t_102 (n : Nat) (s : Int32) (m9 : Nat) : f_102 n s (dec m9) = F_102 n s m9 := by
  unfold f_102 F_102
  (simp only [bnd_d, bnd2_d, bndF_eq, bnd2F_eq, dec_bnd, d2_bnd, dP_bnd, dec_bnd2, d2_bnd2, dP_bnd2, dec_ite, d2_ite, dP_ite, d2_mk, dP_mk, qk, tg_102]) <;> (repeat' first | with_reducible rfl | refine ite_t9 ?_ ?_ ?_ | refine bnd_c9 (fun _ => ?_) | refine bnd2_c9 (fun _ _ => ?_))
noncomputable def G_98 (n : Nat) : Nat → Nat → Int32 → Nat → Int32
  | 0, _, a, l => a
  | d + 1, j, a, l => (if (F_15 j ((R l (ad 0 20 292 0))) l) = 0 then G_98 n d (j + 1) a l else G_98 n d (j + 1) (a ||| ((1 : Int32) <<< ((R l (ad 1678 60 320 j)) &&& 31))) l)
theorem tg_98 (n : Nat) : ∀ (d9 : Nat) (v1 : Nat) (v2 : Int32) (m9 : Nat), g_98 n d9 v1 v2 (dec m9) = G_98 n d9 v1 v2 m9 := by
  intro d9
  induction d9 with
  | zero =>
    intros
    (simp only [g_98, G_98, dk_292, ud_292, dk_320, ud_320, bnd_d, bnd2_d, bndF_eq, bnd2F_eq, dec_bnd, d2_bnd, dP_bnd, dec_bnd2, d2_bnd2, dP_bnd2, dec_ite, d2_ite, dP_ite, d2_mk, dP_mk, qk, t_15]) <;> (repeat' first | with_reducible rfl | refine ite_t9 ?_ ?_ ?_ | refine bnd_c9 (fun _ => ?_) | refine bnd2_c9 (fun _ _ => ?_))
  | succ d9 ih =>
    intros
    (simp only [g_98, G_98, ih, dk_292, ud_292, dk_320, ud_320, bnd_d, bnd2_d, bndF_eq, bnd2F_eq, dec_bnd, d2_bnd, dP_bnd, dec_bnd2, d2_bnd2, dP_bnd2, dec_ite, d2_ite, dP_ite, d2_mk, dP_mk, qk, t_15]) <;> (repeat' first | with_reducible rfl | refine ite_t9 ?_ ?_ ?_ | refine bnd_c9 (fun _ => ?_) | refine bnd2_c9 (fun _ _ => ?_))
noncomputable def F_98 (n : Nat) (l : Nat) : Int32 := G_98 n n 0 (0 : Int32) l
theorem t_98 (n : Nat) (m9 : Nat) : f_98 n (dec m9) = F_98 n m9 := by
  unfold f_98 F_98
  (simp only [bnd_d, bnd2_d, bndF_eq, bnd2F_eq, dec_bnd, d2_bnd, dP_bnd, dec_bnd2, d2_bnd2, dP_bnd2, dec_ite, d2_ite, dP_ite, d2_mk, dP_mk, qk, tg_98]) <;> (repeat' first | with_reducible rfl | refine ite_t9 ?_ ?_ ?_ | refine bnd_c9 (fun _ => ?_) | refine bnd2_c9 (fun _ _ => ?_))
noncomputable def G_99 (n : Nat) (s : Int32) : Nat → Nat → Int32 → Int32 → Nat → Int32
  | 0, _, a, b, l => a
  | d + 1, j, a, b, l => (if (F_15 j ((R l (ad 0 20 292 0))) l) = 0 then G_99 n s d (j + 1) a b l else (if (s &&& ((1 : Int32) <<< ((R l (ad 1678 60 320 j)) &&& 31))) = 0 then G_99 n s d (j + 1) a b l else (if a = (-1 : Int32) then G_99 n s d (j + 1) (i32 j) (F_16 j ((R l (ad 0 20 292 0))) l) l else (if (f_103 (F_16 j ((R l (ad 0 20 292 0))) l) (i32 j) b a) = 0 then G_99 n s d (j + 1) a b l else G_99 n s d (j + 1) (i32 j) (F_16 j ((R l (ad 0 20 292 0))) l) l))))
theorem tg_99 (n : Nat) (s : Int32) : ∀ (d9 : Nat) (v1 : Nat) (v2 : Int32) (v3 : Int32) (m9 : Nat), g_99 n s d9 v1 v2 v3 (dec m9) = G_99 n s d9 v1 v2 v3 m9 := by
  intro d9
  induction d9 with
  | zero =>
    intros
    (simp only [g_99, G_99, dk_292, ud_292, dk_320, ud_320, bnd_d, bnd2_d, bndF_eq, bnd2F_eq, dec_bnd, d2_bnd, dP_bnd, dec_bnd2, d2_bnd2, dP_bnd2, dec_ite, d2_ite, dP_ite, d2_mk, dP_mk, qk, t_15, t_16]) <;> (repeat' first | with_reducible rfl | refine ite_t9 ?_ ?_ ?_ | refine bnd_c9 (fun _ => ?_) | refine bnd2_c9 (fun _ _ => ?_))
  | succ d9 ih =>
    intros
    (simp only [g_99, G_99, ih, dk_292, ud_292, dk_320, ud_320, bnd_d, bnd2_d, bndF_eq, bnd2F_eq, dec_bnd, d2_bnd, dP_bnd, dec_bnd2, d2_bnd2, dP_bnd2, dec_ite, d2_ite, dP_ite, d2_mk, dP_mk, qk, t_15, t_16]) <;> (repeat' first | with_reducible rfl | refine ite_t9 ?_ ?_ ?_ | refine bnd_c9 (fun _ => ?_) | refine bnd2_c9 (fun _ _ => ?_))
noncomputable def F_99 (n : Nat) (s : Int32) (l : Nat) : Int32 := G_99 n s n 0 (-1 : Int32) (0 : Int32) l
theorem t_99 (n : Nat) (s : Int32) (m9 : Nat) : f_99 n s (dec m9) = F_99 n s m9 := by
  unfold f_99 F_99
  (simp only [bnd_d, bnd2_d, bndF_eq, bnd2F_eq, dec_bnd, d2_bnd, dP_bnd, dec_bnd2, d2_bnd2, dP_bnd2, dec_ite, d2_ite, dP_ite, d2_mk, dP_mk, qk, tg_99]) <;> (repeat' first | with_reducible rfl | refine ite_t9 ?_ ?_ ?_ | refine bnd_c9 (fun _ => ?_) | refine bnd2_c9 (fun _ _ => ?_))
noncomputable def G_97 (s : Int32) : Nat → Nat → Int32 → Int32 → Nat → Int32
  | 0, _, a, b, l => a
  | d + 1, j, a, b, l => (if ¬ (R l (ad 2038 6 326 j)) = (1 : Int32) then G_97 s d (j + 1) a b l else (if ((R l (ad 2044 6 327 j)) &&& s) = 0 then G_97 s d (j + 1) a b l else (if a = (-1 : Int32) then G_97 s d (j + 1) (i32 j) ((R l (ad 2050 6 328 j))) l else (if b ≤ (R l (ad 2050 6 328 j)) then G_97 s d (j + 1) a b l else G_97 s d (j + 1) (i32 j) ((R l (ad 2050 6 328 j))) l))))
theorem tg_97 (s : Int32) : ∀ (d9 : Nat) (v1 : Nat) (v2 : Int32) (v3 : Int32) (m9 : Nat), g_97 s d9 v1 v2 v3 (dec m9) = G_97 s d9 v1 v2 v3 m9 := by
  intro d9
  induction d9 with
  | zero =>
    intros
    (simp only [g_97, G_97, dk_326, ud_326, dk_327, ud_327, dk_328, ud_328, bnd_d, bnd2_d, bndF_eq, bnd2F_eq, dec_bnd, d2_bnd, dP_bnd, dec_bnd2, d2_bnd2, dP_bnd2, dec_ite, d2_ite, dP_ite, d2_mk, dP_mk, qk]) <;> (repeat' first | with_reducible rfl | refine ite_t9 ?_ ?_ ?_ | refine bnd_c9 (fun _ => ?_) | refine bnd2_c9 (fun _ _ => ?_))
  | succ d9 ih =>
    intros
    (simp only [g_97, G_97, ih, dk_326, ud_326, dk_327, ud_327, dk_328, ud_328, bnd_d, bnd2_d, bndF_eq, bnd2F_eq, dec_bnd, d2_bnd, dP_bnd, dec_bnd2, d2_bnd2, dP_bnd2, dec_ite, d2_ite, dP_ite, d2_mk, dP_mk, qk]) <;> (repeat' first | with_reducible rfl | refine ite_t9 ?_ ?_ ?_ | refine bnd_c9 (fun _ => ?_) | refine bnd2_c9 (fun _ _ => ?_))
noncomputable def F_97 (n : Nat) (l : Nat) : Int32 := G_97 (F_98 n l) 6 0 (-1) 0 l
theorem t_97 (n : Nat) (m9 : Nat) : f_97 n (dec m9) = F_97 n m9 := by
  unfold f_97 F_97
  (simp only [bnd_d, bnd2_d, bndF_eq, bnd2F_eq, dec_bnd, d2_bnd, dP_bnd, dec_bnd2, d2_bnd2, dP_bnd2, dec_ite, d2_ite, dP_ite, d2_mk, dP_mk, qk, t_98, tg_97]) <;> (repeat' first | with_reducible rfl | refine ite_t9 ?_ ?_ ?_ | refine bnd_c9 (fun _ => ?_) | refine bnd2_c9 (fun _ _ => ?_))
noncomputable def G_181 (v : Int32) : Nat → Nat → Nat → Nat
  | 0, _, l => l
  | d + 1, j, l => G_181 v d (j + 1)  (Wm l (ad 2615 60 475 j) v)
theorem tg_181 (v : Int32) : ∀ (d9 : Nat) (v1 : Nat) (m9 : Nat), g_181 v d9 v1 (dec m9) = dec (G_181 v d9 v1 m9) := by
  intro d9
  induction d9 with
  | zero =>
    intros
    (simp only [g_181, G_181, dk_475, ud_475, bnd_d, bnd2_d, bndF_eq, bnd2F_eq, dec_bnd, d2_bnd, dP_bnd, dec_bnd2, d2_bnd2, dP_bnd2, dec_ite, d2_ite, dP_ite, d2_mk, dP_mk, qk]) <;> (repeat' first | with_reducible rfl | refine ite_t9 ?_ ?_ ?_ | refine bnd_c9 (fun _ => ?_) | refine bnd2_c9 (fun _ _ => ?_))
  | succ d9 ih =>
    intros
    (simp only [g_181, G_181, ih, dk_475, ud_475, bnd_d, bnd2_d, bndF_eq, bnd2F_eq, dec_bnd, d2_bnd, dP_bnd, dec_bnd2, d2_bnd2, dP_bnd2, dec_ite, d2_ite, dP_ite, d2_mk, dP_mk, qk]) <;> (repeat' first | with_reducible rfl | refine ite_t9 ?_ ?_ ?_ | refine bnd_c9 (fun _ => ?_) | refine bnd2_c9 (fun _ _ => ?_))
noncomputable def F_181 (v : Int32) (l : Nat) : Nat := G_181 v 60 0  l
theorem t_181 (v : Int32) (m9 : Nat) : f_181 v (dec m9) = dec (F_181 v m9) := by
  unfold f_181 F_181
  (simp only [bnd_d, bnd2_d, bndF_eq, bnd2F_eq, dec_bnd, d2_bnd, dP_bnd, dec_bnd2, d2_bnd2, dP_bnd2, dec_ite, d2_ite, dP_ite, d2_mk, dP_mk, qk, tg_181]) <;> (repeat' first | with_reducible rfl | refine ite_t9 ?_ ?_ ?_ | refine bnd_c9 (fun _ => ?_) | refine bnd2_c9 (fun _ _ => ?_))
noncomputable def F_4 (a : Int32) (b : Int32) (e : Int32) (f : Int32) (l : Nat) : Nat := (if (1024 : Int32) ≤ (R l (ad 2614 1 470 0)) then l else (Wm (Wm (Wm (Wm (Wm l (ad 3605 1024 471 (((R l (ad 2614 1 470 0))).toNatClampNeg)) a) (ad 4629 1024 472 (((R l (ad 2614 1 470 0))).toNatClampNeg)) b) (ad 5653 1024 473 (((R l (ad 2614 1 470 0))).toNatClampNeg)) e) (ad 6677 1024 474 (((R l (ad 2614 1 470 0))).toNatClampNeg)) f) (ad 2614 1 470 0) ((R l (ad 2614 1 470 0)) + (1 : Int32))))
theorem t_4 (a : Int32) (b : Int32) (e : Int32) (f : Int32) (m9 : Nat) : f_4 a b e f (dec m9) = dec (F_4 a b e f m9) := by
  unfold f_4 F_4
  (simp only [dk_470, ud_470, dk_471, ud_471, dk_472, ud_472, dk_473, ud_473, dk_474, ud_474, bnd_d, bnd2_d, bndF_eq, bnd2F_eq, dec_bnd, d2_bnd, dP_bnd, dec_bnd2, d2_bnd2, dP_bnd2, dec_ite, d2_ite, dP_ite, d2_mk, dP_mk, qk]) <;> (repeat' first | with_reducible rfl | refine ite_t9 ?_ ?_ ?_ | refine bnd_c9 (fun _ => ?_) | refine bnd2_c9 (fun _ _ => ?_))
noncomputable def G_6  : Nat → Nat → Nat → Nat
  | 0, _, l => (if (R l (ad 2614 1 470 0)) ≤ i32 1024 then l else l)
  | d + 1, j, l => (if (R l (ad 2614 1 470 0)) ≤ i32 j then l else (if (R l (ad 3605 1024 471 j)) < 0 then G_6  d (j + 1)  l else (if (60 : Int32) ≤ (R l (ad 3605 1024 471 j)) then G_6  d (j + 1)  l else (if ¬ (R l (ad 4629 1024 472 j)) = (-1 : Int32) then G_6  d (j + 1)  (Wm l (ad 2615 60 475 (((R l (ad 3605 1024 471 j))).toNatClampNeg)) (i32 j)) else G_6  d (j + 1)  (Wm l (ad 2615 60 475 (((R l (ad 3605 1024 471 j))).toNatClampNeg)) (-1 : Int32))))))
theorem tg_6  : ∀ (d9 : Nat) (v1 : Nat) (m9 : Nat), g_6  d9 v1 (dec m9) = dec (G_6  d9 v1 m9) := by
  intro d9
  induction d9 with
  | zero =>
    intros
    (simp only [g_6, G_6, dk_470, ud_470, dk_471, ud_471, dk_472, ud_472, dk_475, ud_475, bnd_d, bnd2_d, bndF_eq, bnd2F_eq, dec_bnd, d2_bnd, dP_bnd, dec_bnd2, d2_bnd2, dP_bnd2, dec_ite, d2_ite, dP_ite, d2_mk, dP_mk, qk]) <;> (repeat' first | with_reducible rfl | refine ite_t9 ?_ ?_ ?_ | refine bnd_c9 (fun _ => ?_) | refine bnd2_c9 (fun _ _ => ?_))
  | succ d9 ih =>
    intros
    (simp only [g_6, G_6, ih, dk_470, ud_470, dk_471, ud_471, dk_472, ud_472, dk_475, ud_475, bnd_d, bnd2_d, bndF_eq, bnd2F_eq, dec_bnd, d2_bnd, dP_bnd, dec_bnd2, d2_bnd2, dP_bnd2, dec_ite, d2_ite, dP_ite, d2_mk, dP_mk, qk]) <;> (repeat' first | with_reducible rfl | refine ite_t9 ?_ ?_ ?_ | refine bnd_c9 (fun _ => ?_) | refine bnd2_c9 (fun _ _ => ?_))
noncomputable def F_6 (l : Nat) : Nat := (bndF (F_181 (-1 : Int32) l) fun l1 => G_6  1024 0  l1)
theorem t_6  (m9 : Nat) : f_6 (dec m9) = dec (F_6 m9) := by
  unfold f_6 F_6
  (simp only [bnd_d, bnd2_d, bndF_eq, bnd2F_eq, dec_bnd, d2_bnd, dP_bnd, dec_bnd2, d2_bnd2, dP_bnd2, dec_ite, d2_ite, dP_ite, d2_mk, dP_mk, qk, t_181, tg_6]) <;> (repeat' first | with_reducible rfl | refine ite_t9 ?_ ?_ ?_ | refine bnd_c9 (fun _ => ?_) | refine bnd2_c9 (fun _ _ => ?_))
noncomputable def G_5  : Nat → Nat → Nat → Nat → Nat
  | 0, _, q, l => (if (R l (ad 2614 1 470 0)) ≤ i32 1024 then (Wm l (ad 2614 1 470 0) (i32 q)) else (Wm l (ad 2614 1 470 0) (i32 q)))
  | d + 1, j, q, l => (if (R l (ad 2614 1 470 0)) ≤ i32 j then (Wm l (ad 2614 1 470 0) (i32 q)) else (if (R l (ad 3605 1024 471 j)) < 0 then G_5  d (j + 1) q l else (if (60 : Int32) ≤ (R l (ad 3605 1024 471 j)) then G_5  d (j + 1) q l else (if ¬ (R l (ad 2615 60 475 (((R l (ad 3605 1024 471 j))).toNatClampNeg))) = i32 j then G_5  d (j + 1) q l else G_5  d (j + 1) (q + 1) (Wm (Wm (Wm (Wm l (ad 3605 1024 471 q) ((R l (ad 3605 1024 471 j)))) (ad 4629 1024 472 q) ((R l (ad 4629 1024 472 j)))) (ad 5653 1024 473 q) ((R l (ad 5653 1024 473 j)))) (ad 6677 1024 474 q) ((R l (ad 6677 1024 474 j))))))))
theorem tg_5  : ∀ (d9 : Nat) (v1 : Nat) (v2 : Nat) (m9 : Nat), g_5  d9 v1 v2 (dec m9) = dec (G_5  d9 v1 v2 m9) := by
  intro d9
  induction d9 with
  | zero =>
    intros
    (simp only [g_5, G_5, dk_470, ud_470, dk_471, ud_471, dk_472, ud_472, dk_473, ud_473, dk_474, ud_474, dk_475, ud_475, bnd_d, bnd2_d, bndF_eq, bnd2F_eq, dec_bnd, d2_bnd, dP_bnd, dec_bnd2, d2_bnd2, dP_bnd2, dec_ite, d2_ite, dP_ite, d2_mk, dP_mk, qk]) <;> (repeat' first | with_reducible rfl | refine ite_t9 ?_ ?_ ?_ | refine bnd_c9 (fun _ => ?_) | refine bnd2_c9 (fun _ _ => ?_))
  | succ d9 ih =>
    intros
    (simp only [g_5, G_5, ih, dk_470, ud_470, dk_471, ud_471, dk_472, ud_472, dk_473, ud_473, dk_474, ud_474, dk_475, ud_475, bnd_d, bnd2_d, bndF_eq, bnd2F_eq, dec_bnd, d2_bnd, dP_bnd, dec_bnd2, d2_bnd2, dP_bnd2, dec_ite, d2_ite, dP_ite, d2_mk, dP_mk, qk]) <;> (repeat' first | with_reducible rfl | refine ite_t9 ?_ ?_ ?_ | refine bnd_c9 (fun _ => ?_) | refine bnd2_c9 (fun _ _ => ?_))
noncomputable def F_5 (l : Nat) : Nat := (if (512 : Int32) ≤ (R l (ad 2614 1 470 0)) then (bndF (F_6 l) fun l2 => G_5 1024 0 0 l2) else l)
theorem t_5  (m9 : Nat) : f_5 (dec m9) = dec (F_5 m9) := by
  unfold f_5 F_5
  (simp only [dk_470, ud_470, bnd_d, bnd2_d, bndF_eq, bnd2F_eq, dec_bnd, d2_bnd, dP_bnd, dec_bnd2, d2_bnd2, dP_bnd2, dec_ite, d2_ite, dP_ite, d2_mk, dP_mk, qk, t_6, tg_5]) <;> (repeat' first | with_reducible rfl | refine ite_t9 ?_ ?_ ?_ | refine bnd_c9 (fun _ => ?_) | refine bnd2_c9 (fun _ _ => ?_))
noncomputable def G_7 (x : Int32) (t : Int32) (o : Int32) (sc : Int32) : Nat → Nat → Int32 → Nat → Int32 × Nat
  | 0, _, a, l => (a, l)
  | d + 1, j, a, l => (if (R l (ad 2615 60 475 j)) < 0 then G_7 x t o sc d (j + 1) a l else (if (1024 : Int32) ≤ (R l (ad 2615 60 475 j)) then G_7 x t o sc d (j + 1) a l else (if ¬ (R l (ad 4629 1024 472 (((R l (ad 2615 60 475 j))).toNatClampNeg))) = (R l (ad 4629 1024 472 o.toNatClampNeg)) then G_7 x t o sc d (j + 1) a l else (if (f_103 (f_104 ((R l (ad 5653 1024 473 (((R l (ad 2615 60 475 j))).toNatClampNeg)))) (t - (R l (ad 6677 1024 474 (((R l (ad 2615 60 475 j))).toNatClampNeg))))) (i32 j) sc x) = 0 then G_7 x t o sc d (j + 1) a l else G_7 x t o sc d (j + 1) (a + (1 : Int32)) l))))
theorem tg_7 (x : Int32) (t : Int32) (o : Int32) (sc : Int32) : ∀ (d9 : Nat) (v1 : Nat) (v2 : Int32) (m9 : Nat), g_7 x t o sc d9 v1 v2 (dec m9) = d2 (G_7 x t o sc d9 v1 v2 m9) := by
  intro d9
  induction d9 with
  | zero =>
    intros
    (simp only [g_7, G_7, dk_472, ud_472, dk_473, ud_473, dk_474, ud_474, dk_475, ud_475, bnd_d, bnd2_d, bndF_eq, bnd2F_eq, dec_bnd, d2_bnd, dP_bnd, dec_bnd2, d2_bnd2, dP_bnd2, dec_ite, d2_ite, dP_ite, d2_mk, dP_mk, qk]) <;> (repeat' first | with_reducible rfl | refine ite_t9 ?_ ?_ ?_ | refine bnd_c9 (fun _ => ?_) | refine bnd2_c9 (fun _ _ => ?_))
  | succ d9 ih =>
    intros
    (simp only [g_7, G_7, ih, dk_472, ud_472, dk_473, ud_473, dk_474, ud_474, dk_475, ud_475, bnd_d, bnd2_d, bndF_eq, bnd2F_eq, dec_bnd, d2_bnd, dP_bnd, dec_bnd2, d2_bnd2, dP_bnd2, dec_ite, d2_ite, dP_ite, d2_mk, dP_mk, qk]) <;> (repeat' first | with_reducible rfl | refine ite_t9 ?_ ?_ ?_ | refine bnd_c9 (fun _ => ?_) | refine bnd2_c9 (fun _ _ => ?_))
noncomputable def F_7 (x : Int32) (t : Int32) (l : Nat) : Int32 × Nat := (if x < 0 then ((-1 : Int32), l) else (if x < (60 : Int32) then (bndF (F_6 l) fun l4 => (if (R l4 (ad 2615 60 475 x.toNatClampNeg)) < 0 then ((-1 : Int32), l4) else (if (R l4 (ad 2615 60 475 x.toNatClampNeg)) < (1024 : Int32) then G_7 x t ((R l4 (ad 2615 60 475 x.toNatClampNeg))) (f_104 ((R l4 (ad 5653 1024 473 (((R l4 (ad 2615 60 475 x.toNatClampNeg))).toNatClampNeg)))) (t - (R l4 (ad 6677 1024 474 (((R l4 (ad 2615 60 475 x.toNatClampNeg))).toNatClampNeg))))) 60 0 0 l4 else ((-1 : Int32), l4)))) else ((-1 : Int32), l)))
theorem t_7 (x : Int32) (t : Int32) (m9 : Nat) : f_7 x t (dec m9) = d2 (F_7 x t m9) := by
  unfold f_7 F_7
  (simp only [dk_473, ud_473, dk_474, ud_474, dk_475, ud_475, bnd_d, bnd2_d, bndF_eq, bnd2F_eq, dec_bnd, d2_bnd, dP_bnd, dec_bnd2, d2_bnd2, dP_bnd2, dec_ite, d2_ite, dP_ite, d2_mk, dP_mk, qk, t_6, tg_7]) <;> (repeat' first | with_reducible rfl | refine ite_t9 ?_ ?_ ?_ | refine bnd_c9 (fun _ => ?_) | refine bnd2_c9 (fun _ _ => ?_))
noncomputable def F_22 (c : Nat) (x : Int32) (l : Nat) : Int32 × Nat := (if (R l (ad 1378 60 318 c)) < 0 then ((0 : Int32), l) else (if (R l (ad 1378 60 318 c)) < (4 : Int32) then ((1 : Int32), (Wm (Wm l (ad 1438 240 319 (4 * c + (((R l (ad 1378 60 318 c))).toNatClampNeg))) x) (ad 1378 60 318 c) ((R l (ad 1378 60 318 c)) + (1 : Int32)))) else ((0 : Int32), l)))
theorem t_22 (c : Nat) (x : Int32) (m9 : Nat) : f_22 c x (dec m9) = d2 (F_22 c x m9) := by
  unfold f_22 F_22
  (simp only [dk_318, ud_318, dk_319, ud_319, bnd_d, bnd2_d, bndF_eq, bnd2F_eq, dec_bnd, d2_bnd, dP_bnd, dec_bnd2, d2_bnd2, dP_bnd2, dec_ite, d2_ite, dP_ite, d2_mk, dP_mk, qk]) <;> (repeat' first | with_reducible rfl | refine ite_t9 ?_ ?_ ?_ | refine bnd_c9 (fun _ => ?_) | refine bnd2_c9 (fun _ _ => ?_))
noncomputable def F_23 (c : Nat) (l : Nat) : Int32 × Nat := (if (R l (ad 1378 60 318 c)) ≤ 0 then ((-1 : Int32), l) else (if (R l (ad 1378 60 318 c)) ≤ (4 : Int32) then ((R l (ad 1438 240 319 (4 * c + (((R l (ad 1378 60 318 c)) - (1 : Int32)).toNatClampNeg)))), (Wm l (ad 1378 60 318 c) ((R l (ad 1378 60 318 c)) - (1 : Int32)))) else ((-1 : Int32), l)))
theorem t_23 (c : Nat) (m9 : Nat) : f_23 c (dec m9) = d2 (F_23 c m9) := by
  unfold f_23 F_23
  (simp only [dk_318, ud_318, dk_319, ud_319, bnd_d, bnd2_d, bndF_eq, bnd2F_eq, dec_bnd, d2_bnd, dP_bnd, dec_bnd2, d2_bnd2, dP_bnd2, dec_ite, d2_ite, dP_ite, d2_mk, dP_mk, qk]) <;> (repeat' first | with_reducible rfl | refine ite_t9 ?_ ?_ ?_ | refine bnd_c9 (fun _ => ?_) | refine bnd2_c9 (fun _ _ => ?_))
noncomputable def F_92 (c : Nat) (s : Int32) (l : Nat) : Nat := (if (F_13 c l) = 0 then (if (F_13 c (Wm l (ad 958 60 311 c) s)) = 0 then (Wm l (ad 958 60 311 c) s) else (bndF (F_4 ((R l (ad 2074 60 410 c))) ((R l (ad 1678 60 320 c))) ((R l (ad 1738 60 321 c))) ((R l (ad 1798 60 322 c))) (Wm l (ad 958 60 311 c) s)) fun l3 => l3)) else (bndF (F_4 ((R l (ad 2074 60 410 c))) (-1 : Int32) (0 : Int32) ((R l (ad 0 20 292 0))) l) fun l4 => (if (F_13 c (Wm l4 (ad 958 60 311 c) s)) = 0 then (Wm l4 (ad 958 60 311 c) s) else (bndF (F_4 ((R l4 (ad 2074 60 410 c))) ((R l4 (ad 1678 60 320 c))) ((R l4 (ad 1738 60 321 c))) ((R l4 (ad 1798 60 322 c))) (Wm l4 (ad 958 60 311 c) s)) fun l6 => l6))))
theorem t_92 (c : Nat) (s : Int32) (m9 : Nat) : f_92 c s (dec m9) = dec (F_92 c s m9) := by
  unfold f_92 F_92
  (simp only [dk_292, ud_292, dk_311, ud_311, dk_320, ud_320, dk_321, ud_321, dk_322, ud_322, dk_410, ud_410, bnd_d, bnd2_d, bndF_eq, bnd2F_eq, dec_bnd, d2_bnd, dP_bnd, dec_bnd2, d2_bnd2, dP_bnd2, dec_ite, d2_ite, dP_ite, d2_mk, dP_mk, qk, t_13, t_4]) <;> (repeat' first | with_reducible rfl | refine ite_t9 ?_ ?_ ?_ | refine bnd_c9 (fun _ => ?_) | refine bnd2_c9 (fun _ _ => ?_))
noncomputable def F_101 (c : Nat) (l : Nat) : Nat := (if isA ((R l (ad 1978 60 325 c))) then (if ¬ (R l (ad 958 60 311 c)) = (2 : Int32) then (bndF (F_1 (((R l (ad 1978 60 325 c))).toNatClampNeg) ((R l (ad 0 20 292 0))) (Wm l (ad 1978 60 325 c) (-1 : Int32))) fun l4 => l4) else (if (R l (ad 2056 6 329 (((R l (ad 1978 60 325 c))).toNatClampNeg))) ≤ 0 then (bndF (F_1 (((R l (ad 1978 60 325 c))).toNatClampNeg) ((R l (ad 0 20 292 0))) (Wm l (ad 1978 60 325 c) (-1 : Int32))) fun l6 => l6) else (bndF (F_2 (((R l (ad 1978 60 325 c))).toNatClampNeg) ((R l (ad 0 20 292 0))) (Wm l (ad 1978 60 325 c) (-1 : Int32))) fun l7 => l7))) else l)
theorem t_101 (c : Nat) (m9 : Nat) : f_101 c (dec m9) = dec (F_101 c m9) := by
  unfold f_101 F_101
  (simp only [dk_292, ud_292, dk_311, ud_311, dk_325, ud_325, dk_329, ud_329, bnd_d, bnd2_d, bndF_eq, bnd2F_eq, dec_bnd, d2_bnd, dP_bnd, dec_bnd2, d2_bnd2, dP_bnd2, dec_ite, d2_ite, dP_ite, d2_mk, dP_mk, qk, t_1, t_2]) <;> (repeat' first | with_reducible rfl | refine ite_t9 ?_ ?_ ?_ | refine bnd_c9 (fun _ => ?_) | refine bnd2_c9 (fun _ _ => ?_))
noncomputable def F_91 (c : Nat) (w : Int32) (l : Nat) : Nat := (bndF (F_101 c l) fun l1 => (bndF (F_92 c (5 : Int32) l1) fun l2 => (Wm (Wm l2 (ad 1018 60 312 c) w) (ad 1078 60 313 c) (-1 : Int32))))
theorem t_91 (c : Nat) (w : Int32) (m9 : Nat) : f_91 c w (dec m9) = dec (F_91 c w m9) := by
  unfold f_91 F_91
  (simp only [dk_312, ud_312, dk_313, ud_313, bnd_d, bnd2_d, bndF_eq, bnd2F_eq, dec_bnd, d2_bnd, dP_bnd, dec_bnd2, d2_bnd2, dP_bnd2, dec_ite, d2_ite, dP_ite, d2_mk, dP_mk, qk, t_101, t_92]) <;> (repeat' first | with_reducible rfl | refine ite_t9 ?_ ?_ ?_ | refine bnd_c9 (fun _ => ?_) | refine bnd2_c9 (fun _ _ => ?_))
noncomputable def F_93 (fr : Int32) (to : Int32) (l : Nat) : Nat := (if isN fr then (if to = (-1 : Int32) then (Wm l (ad 2675 930 309 (31 * fr.toNatClampNeg + 30)) ((R l (ad 2675 930 309 (31 * fr.toNatClampNeg + 30))) + (1 : Int32))) else (if isN to then (Wm l (ad 2675 930 309 (31 * fr.toNatClampNeg + to.toNatClampNeg)) ((R l (ad 2675 930 309 (31 * fr.toNatClampNeg + to.toNatClampNeg))) + (1 : Int32))) else l)) else l)
theorem t_93 (fr : Int32) (to : Int32) (m9 : Nat) : f_93 fr to (dec m9) = dec (F_93 fr to m9) := by
  unfold f_93 F_93
  (simp only [dk_309, ud_309, bnd_d, bnd2_d, bndF_eq, bnd2F_eq, dec_bnd, d2_bnd, dP_bnd, dec_bnd2, d2_bnd2, dP_bnd2, dec_ite, d2_ite, dP_ite, d2_mk, dP_mk, qk]) <;> (repeat' first | with_reducible rfl | refine ite_t9 ?_ ?_ ?_ | refine bnd_c9 (fun _ => ?_) | refine bnd2_c9 (fun _ _ => ?_))
noncomputable def F_90 (c : Nat) (l : Nat) : Nat := (if ((R l (ad 1858 60 323 c)) + (1 : Int32)) < (2 : Int32) then (bndF (F_101 c (Wm l (ad 1858 60 323 c) ((R l (ad 1858 60 323 c)) + (1 : Int32)))) fun l2 => (bndF (F_92 c (3 : Int32) (Wm l2 (ad 1918 60 324 c) ((R l2 (ad 0 20 292 0)) + (30 : Int32)))) fun l3 => l3)) else (bndF (F_91 c (5 : Int32) (Wm l (ad 1858 60 323 c) ((R l (ad 1858 60 323 c)) + (1 : Int32)))) fun l4 => l4))
theorem t_90 (c : Nat) (m9 : Nat) : f_90 c (dec m9) = dec (F_90 c m9) := by
  unfold f_90 F_90
  (simp only [dk_292, ud_292, dk_323, ud_323, dk_324, ud_324, bnd_d, bnd2_d, bndF_eq, bnd2F_eq, dec_bnd, d2_bnd, dP_bnd, dec_bnd2, d2_bnd2, dP_bnd2, dec_ite, d2_ite, dP_ite, d2_mk, dP_mk, qk, t_101, t_91, t_92]) <;> (repeat' first | with_reducible rfl | refine ite_t9 ?_ ?_ ?_ | refine bnd_c9 (fun _ => ?_) | refine bnd2_c9 (fun _ _ => ?_))
noncomputable def F_100 (a : Int32) (c : Nat) (l : Nat) : Nat := (if ¬ (R l (ad 958 60 311 c)) = (1 : Int32) then (bndF (F_92 c (4 : Int32) l) fun l2 => (Wm (Wm (Wm (Wm (Wm l2 (ad 1978 60 325 c) a) (ad 1078 60 313 c) (-1 : Int32)) (ad 1258 60 316 c) ((R l2 (ad 0 20 292 0)) + (6 : Int32))) (ad 2068 6 331 a.toNatClampNeg) ((R l2 (ad 2074 60 410 c)))) (ad 2038 6 326 a.toNatClampNeg) (3 : Int32))) else (bndF (F_92 c (2 : Int32) l) fun l3 => (Wm (Wm (Wm (Wm (Wm l3 (ad 1978 60 325 c) a) (ad 1078 60 313 c) (-1 : Int32)) (ad 1258 60 316 c) ((R l3 (ad 0 20 292 0)) + (6 : Int32))) (ad 2068 6 331 a.toNatClampNeg) ((R l3 (ad 2074 60 410 c)))) (ad 2038 6 326 a.toNatClampNeg) (2 : Int32))))
theorem t_100 (a : Int32) (c : Nat) (m9 : Nat) : f_100 a c (dec m9) = dec (F_100 a c m9) := by
  unfold f_100 F_100
  (simp only [dk_292, ud_292, dk_311, ud_311, dk_313, ud_313, dk_316, ud_316, dk_325, ud_325, dk_326, ud_326, dk_331, ud_331, dk_410, ud_410, bnd_d, bnd2_d, bndF_eq, bnd2F_eq, dec_bnd, d2_bnd, dP_bnd, dec_bnd2, d2_bnd2, dP_bnd2, dec_ite, d2_ite, dP_ite, d2_mk, dP_mk, qk, t_92]) <;> (repeat' first | with_reducible rfl | refine ite_t9 ?_ ?_ ?_ | refine bnd_c9 (fun _ => ?_) | refine bnd2_c9 (fun _ _ => ?_))
noncomputable def F_83 (n : Nat) (c : Nat) (m : Nat) (l : Nat) : Int32 := (if (R l (ad 2434 30 439 m)) = (0 : Int32) then (F_29 ((R l (ad 0 20 292 0))) l) else (if (R l (ad 2434 30 439 m)) = (1 : Int32) then (if (R l (ad 1318 60 317 c)) < (R l (ad 2464 30 440 m)) then (0 : Int32) else (1 : Int32)) else (if (R l (ad 2434 30 439 m)) = (2 : Int32) then (if (F_102 n ((R l (ad 2464 30 440 m))) l) < (R l (ad 2494 30 441 m)) then (0 : Int32) else (1 : Int32)) else (if (R l (ad 2434 30 439 m)) = (3 : Int32) then (if ¬ (f_28 ((R l (ad 0 20 292 0)))) = (R l (ad 2464 30 440 m)) then (0 : Int32) else (1 : Int32)) else (F_84 ((R l (ad 2464 30 440 m))) l)))))
theorem t_83 (n : Nat) (c : Nat) (m : Nat) (m9 : Nat) : f_83 n c m (dec m9) = F_83 n c m m9 := by
  unfold f_83 F_83
  (simp only [dk_292, ud_292, dk_317, ud_317, dk_439, ud_439, dk_440, ud_440, dk_441, ud_441, bnd_d, bnd2_d, bndF_eq, bnd2F_eq, dec_bnd, d2_bnd, dP_bnd, dec_bnd2, d2_bnd2, dP_bnd2, dec_ite, d2_ite, dP_ite, d2_mk, dP_mk, qk, t_102, t_29, t_84]) <;> (repeat' first | with_reducible rfl | refine ite_t9 ?_ ?_ ?_ | refine bnd_c9 (fun _ => ?_) | refine bnd2_c9 (fun _ _ => ?_))
