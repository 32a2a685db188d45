/-! ===== the class on memory as a number ===== -/
noncomputable def F_82 (n : Nat) (c : Nat) (m : Nat) (l : Nat) : Int32 × Nat := (if (R l (ad 118 30 296 m)) = (1 : Int32) then ((-2 : Int32), (Wm l (ad 1258 60 316 c) ((R l (ad 0 20 292 0)) + (R l (ad 2254 30 433 m))))) else (if (R l (ad 118 30 296 m)) = (2 : Int32) then (bndF (F_19 c ((R l (ad 0 20 292 0)) + (R l (ad 208 30 303 m))) (Wm l (ad 1198 60 315 c) (0 : Int32))) fun l3 => ((-2 : Int32), l3)) else (if (R l (ad 118 30 296 m)) = (3 : Int32) then (bndF (F_19 c ((R l (ad 0 20 292 0)) + (R l (ad 208 30 303 m))) (Wm l (ad 1198 60 315 c) (0 : Int32))) fun l5 => ((-2 : Int32), l5)) else (if (R l (ad 118 30 296 m)) = (4 : Int32) then (if (F_83 n c m l) = 0 then ((R l (ad 178 30 302 m)), l) else ((R l (ad 148 30 301 m)), l)) else (if (R l (ad 118 30 296 m)) = (5 : Int32) then (bnd2F (F_22 c ((R l (ad 178 30 302 m))) l) fun v9 l9 => (if ¬ v9 = 0 then ((R l9 (ad 148 30 301 m)), l9) else (bndF (F_91 c (3 : Int32) l9) fun l11 => ((-2 : Int32), l11)))) else (if (R l (ad 118 30 296 m)) = (6 : Int32) then (bnd2F (F_23 c l) fun v13 l13 => (v13, l13)) else (if (R l (ad 118 30 296 m)) = (7 : Int32) then (bndF (F_17 c m ((R l (ad 0 20 292 0))) l) fun l15 => (if (F_102 n ((R l15 (ad 2524 30 442 m))) l15) < (R l15 (ad 2584 30 444 m)) then (bndF (F_92 c (1 : Int32) (Wm l15 (ad 1258 60 316 c) ((R l15 (ad 0 20 292 0)) + (R l15 (ad 2404 30 438 m))))) fun l17 => ((-2 : Int32), l17)) else ((R l15 (ad 148 30 301 m)), l15))) else (if (R l (ad 118 30 296 m)) = (8 : Int32) then (if ¬ (R l (ad 2194 60 420 c)) = 0 then (bndF (F_92 c (3 : Int32) (Wm (Wm l (ad 1078 60 313 c) (-1 : Int32)) (ad 1858 60 323 c) (0 : Int32))) fun l20 => ((-2 : Int32), l20)) else (bndF (F_91 c (0 : Int32) l) fun l21 => ((-2 : Int32), l21))) else ((-1 : Int32), l)))))))))
theorem t_82 (n : Nat) (c : Nat) (m : Nat) (m9 : Nat) : f_82 n c m (dec m9) = d2 (F_82 n c m m9) := by
  unfold f_82 F_82
  (simp only [dk_292, ud_292, dk_296, ud_296, dk_301, ud_301, dk_302, ud_302, dk_303, ud_303, dk_313, ud_313, dk_315, ud_315, dk_316, ud_316, dk_323, ud_323, dk_420, ud_420, dk_433, ud_433, dk_438, ud_438, dk_442, ud_442, dk_444, ud_444, bnd_d, bnd2_d, bndF_eq, bnd2F_eq, dec_bnd, d2_bnd, dP_bnd, dec_bnd2, d2_bnd2, dP_bnd2, dec_ite, d2_ite, dP_ite, d2_mk, dP_mk, qk, t_102, t_17, t_19, t_22, t_23, t_83, t_91, t_92]) <;> (repeat' first | with_reducible rfl | refine ite_t9 ?_ ?_ ?_ | refine bnd_c9 (fun _ => ?_) | refine bnd2_c9 (fun _ _ => ?_))
noncomputable def G_81 (n : Nat) (c : Nat) : Nat → Nat → Int32 → Nat → Nat
  | 0, _, a, l => l
  | d + 1, j, a, l => (if a = (-2 : Int32) then l else (if ¬ j = 20 then (bndF (F_93 ((R l (ad 1078 60 313 c))) a l) fun l4 => (if isN a then (bnd2F (F_82 n c a.toNatClampNeg (Wm l4 (ad 1078 60 313 c) a)) fun v7 l7 => G_81 n c d (j + 1) v7 l7) else (bndF (F_91 c (0 : Int32) l4) fun l8 => l8))) else (if isN a then (bndF (F_91 c (2 : Int32) l) fun l11 => l11) else (bndF (F_93 ((R l (ad 1078 60 313 c))) a l) fun l12 => (if isN a then (bnd2F (F_82 n c a.toNatClampNeg (Wm l12 (ad 1078 60 313 c) a)) fun v15 l15 => G_81 n c d (j + 1) v15 l15) else (bndF (F_91 c (0 : Int32) l12) fun l16 => l16))))))
theorem tg_81 (n : Nat) (c : Nat) : ∀ (d9 : Nat) (v1 : Nat) (v2 : Int32) (m9 : Nat), g_81 n c d9 v1 v2 (dec m9) = dec (G_81 n c d9 v1 v2 m9) := by
  intro d9
  induction d9 with
  | zero =>
    intros
    (simp only [g_81, G_81, dk_313, ud_313, bnd_d, bnd2_d, bndF_eq, bnd2F_eq, dec_bnd, d2_bnd, dP_bnd, dec_bnd2, d2_bnd2, dP_bnd2, dec_ite, d2_ite, dP_ite, d2_mk, dP_mk, qk, t_82, t_91, t_93]) <;> (repeat' first | with_reducible rfl | refine ite_t9 ?_ ?_ ?_ | refine bnd_c9 (fun _ => ?_) | refine bnd2_c9 (fun _ _ => ?_))
  | succ d9 ih =>
    intros
    (simp only [g_81, G_81, ih, dk_313, ud_313, bnd_d, bnd2_d, bndF_eq, bnd2F_eq, dec_bnd, d2_bnd, dP_bnd, dec_bnd2, d2_bnd2, dP_bnd2, dec_ite, d2_ite, dP_ite, d2_mk, dP_mk, qk, t_82, t_91, t_93]) <;> (repeat' first | with_reducible rfl | refine ite_t9 ?_ ?_ ?_ | refine bnd_c9 (fun _ => ?_) | refine bnd2_c9 (fun _ _ => ?_))
noncomputable def F_81 (n : Nat) (c : Nat) (t : Int32) (l : Nat) : Nat := (bndF (F_92 c (0 : Int32) l) fun l1 => G_81 n c 21 0 t l1)
theorem t_81 (n : Nat) (c : Nat) (t : Int32) (m9 : Nat) : f_81 n c t (dec m9) = dec (F_81 n c t m9) := by
  unfold f_81 F_81
  (simp only [bnd_d, bnd2_d, bndF_eq, bnd2F_eq, dec_bnd, d2_bnd, dP_bnd, dec_bnd2, d2_bnd2, dP_bnd2, dec_ite, d2_ite, dP_ite, d2_mk, dP_mk, qk, t_92, tg_81]) <;> (repeat' first | with_reducible rfl | refine ite_t9 ?_ ?_ ?_ | refine bnd_c9 (fun _ => ?_) | refine bnd2_c9 (fun _ _ => ?_))
noncomputable def F_80 (n : Nat) (c : Nat) (t : Int32) (l : Nat) : Nat := (if isN t then (bndF (F_81 n c t (Wm l (ad 928 30 310 t.toNatClampNeg) ((R l (ad 928 30 310 t.toNatClampNeg)) + (1 : Int32)))) fun l3 => l3) else (bndF (F_81 n c t l) fun l4 => l4))
theorem t_80 (n : Nat) (c : Nat) (t : Int32) (m9 : Nat) : f_80 n c t (dec m9) = dec (F_80 n c t m9) := by
  unfold f_80 F_80
  (simp only [dk_310, ud_310, bnd_d, bnd2_d, bndF_eq, bnd2F_eq, dec_bnd, d2_bnd, dP_bnd, dec_bnd2, d2_bnd2, dP_bnd2, dec_ite, d2_ite, dP_ite, d2_mk, dP_mk, qk, t_81]) <;> (repeat' first | with_reducible rfl | refine ite_t9 ?_ ?_ ?_ | refine bnd_c9 (fun _ => ?_) | refine bnd2_c9 (fun _ _ => ?_))
noncomputable def F_87 (c : Nat) (m : Nat) (l : Nat) : Int32 × Nat := (if ¬ (R l (ad 118 30 296 m)) = (2 : Int32) then (if (R l (ad 2134 60 418 c)) < (R l (ad 2374 30 437 m)) then (if ((R l (ad 1198 60 315 c)) + (1 : Int32)) < (R l (ad 268 30 305 m)) then (bndF (F_19 c ((R l (ad 0 20 292 0)) + (R l (ad 208 30 303 m))) (Wm l (ad 1198 60 315 c) ((R l (ad 1198 60 315 c)) + (1 : Int32)))) fun l4 => ((-2 : Int32), l4)) else ((R l (ad 178 30 302 m)), (Wm l (ad 1198 60 315 c) ((R l (ad 1198 60 315 c)) + (1 : Int32))))) else (if (R l (ad 148 30 301 m)) = (-2 : Int32) then (if ((R l (ad 1198 60 315 c)) + (1 : Int32)) < (R l (ad 268 30 305 m)) then (bndF (F_19 c ((R l (ad 0 20 292 0)) + (R l (ad 208 30 303 m))) (Wm (Wm l (ad 1318 60 317 c) (F_21 c l)) (ad 1198 60 315 c) ((R l (ad 1198 60 315 c)) + (1 : Int32)))) fun l7 => ((-2 : Int32), l7)) else ((R l (ad 178 30 302 m)), (Wm (Wm l (ad 1318 60 317 c) (F_21 c l)) (ad 1198 60 315 c) ((R l (ad 1198 60 315 c)) + (1 : Int32))))) else ((R l (ad 148 30 301 m)), (Wm l (ad 1318 60 317 c) (F_21 c l))))) else (if (F_10 m ((R l (ad 1138 60 314 c))) l) = (-2 : Int32) then (if ((R l (ad 1198 60 315 c)) + (1 : Int32)) < (R l (ad 268 30 305 m)) then (bndF (F_19 c ((R l (ad 0 20 292 0)) + (R l (ad 208 30 303 m))) (Wm l (ad 1198 60 315 c) ((R l (ad 1198 60 315 c)) + (1 : Int32)))) fun l10 => ((-2 : Int32), l10)) else ((R l (ad 178 30 302 m)), (Wm l (ad 1198 60 315 c) ((R l (ad 1198 60 315 c)) + (1 : Int32))))) else ((F_10 m ((R l (ad 1138 60 314 c))) l), l)))
theorem t_87 (c : Nat) (m : Nat) (m9 : Nat) : f_87 c m (dec m9) = d2 (F_87 c m m9) := by
  unfold f_87 F_87
  (simp only [dk_292, ud_292, dk_296, ud_296, dk_301, ud_301, dk_302, ud_302, dk_303, ud_303, dk_305, ud_305, dk_314, ud_314, dk_315, ud_315, dk_317, ud_317, dk_418, ud_418, dk_437, ud_437, bnd_d, bnd2_d, bndF_eq, bnd2F_eq, dec_bnd, d2_bnd, dP_bnd, dec_bnd2, d2_bnd2, dP_bnd2, dec_ite, d2_ite, dP_ite, d2_mk, dP_mk, qk, t_10, t_19, t_21]) <;> (repeat' first | with_reducible rfl | refine ite_t9 ?_ ?_ ?_ | refine bnd_c9 (fun _ => ?_) | refine bnd2_c9 (fun _ _ => ?_))
noncomputable def F_86 (c : Nat) (m : Nat) (g : Int32) (l : Nat) : Int32 × Nat := (if ¬ g = (10 : Int32) then (if ¬ g = (11 : Int32) then (bndF (F_20 c g ((R l (ad 0 20 292 0)) + (R l (ad 238 30 304 m))) l) fun l3 => (if (F_26 m ((R l3 (ad 1138 60 314 c))) ((R l3 (ad 2134 60 418 c))) l3) = 0 then (bnd2F (F_87 c m l3) fun v5 l5 => (v5, l5)) else ((-2 : Int32), l3))) else (bnd2F (F_87 c m l) fun v6 l6 => (v6, l6))) else (bndF (F_19 c ((R l (ad 0 20 292 0)) + (R l (ad 208 30 303 m))) l) fun l7 => ((-2 : Int32), l7)))
theorem t_86 (c : Nat) (m : Nat) (g : Int32) (m9 : Nat) : f_86 c m g (dec m9) = d2 (F_86 c m g m9) := by
  unfold f_86 F_86
  (simp only [dk_292, ud_292, dk_303, ud_303, dk_304, ud_304, dk_314, ud_314, dk_418, ud_418, bnd_d, bnd2_d, bndF_eq, bnd2F_eq, dec_bnd, d2_bnd, dP_bnd, dec_bnd2, d2_bnd2, dP_bnd2, dec_ite, d2_ite, dP_ite, d2_mk, dP_mk, qk, t_19, t_20, t_26, t_87]) <;> (repeat' first | with_reducible rfl | refine ite_t9 ?_ ?_ ?_ | refine bnd_c9 (fun _ => ?_) | refine bnd2_c9 (fun _ _ => ?_))
noncomputable def F_85 (c : Nat) (g : Int32) (l : Nat) : Int32 × Nat := (if isN ((R l (ad 1078 60 313 c))) then (if (R l (ad 118 30 296 (((R l (ad 1078 60 313 c))).toNatClampNeg))) = (2 : Int32) then (bnd2F (F_86 c (((R l (ad 1078 60 313 c))).toNatClampNeg) g l) fun v4 l4 => (v4, l4)) else (if (R l (ad 118 30 296 (((R l (ad 1078 60 313 c))).toNatClampNeg))) = (3 : Int32) then (bnd2F (F_86 c (((R l (ad 1078 60 313 c))).toNatClampNeg) g l) fun v6 l6 => (v6, l6)) else (if (R l (ad 118 30 296 (((R l (ad 1078 60 313 c))).toNatClampNeg))) = (7 : Int32) then (if ¬ g = (1 : Int32) then ((-2 : Int32), l) else ((R l (ad 178 30 302 (((R l (ad 1078 60 313 c))).toNatClampNeg))), l)) else ((-2 : Int32), l)))) else ((-2 : Int32), l))
theorem t_85 (c : Nat) (g : Int32) (m9 : Nat) : f_85 c g (dec m9) = d2 (F_85 c g m9) := by
  unfold f_85 F_85
  (simp only [dk_296, ud_296, dk_302, ud_302, dk_313, ud_313, bnd_d, bnd2_d, bndF_eq, bnd2F_eq, dec_bnd, d2_bnd, dP_bnd, dec_bnd2, d2_bnd2, dP_bnd2, dec_ite, d2_ite, dP_ite, d2_mk, dP_mk, qk, t_86]) <;> (repeat' first | with_reducible rfl | refine ite_t9 ?_ ?_ ?_ | refine bnd_c9 (fun _ => ?_) | refine bnd2_c9 (fun _ _ => ?_))
noncomputable def F_89 (c : Nat) (l : Nat) : Int32 × Nat := (if isN ((R l (ad 1078 60 313 c))) then (if (R l (ad 118 30 296 (((R l (ad 1078 60 313 c))).toNatClampNeg))) = (2 : Int32) then (bnd2F (F_87 c (((R l (ad 1078 60 313 c))).toNatClampNeg) l) fun v4 l4 => (v4, l4)) else (if ¬ (R l (ad 118 30 296 (((R l (ad 1078 60 313 c))).toNatClampNeg))) = (3 : Int32) then ((R l (ad 148 30 301 (((R l (ad 1078 60 313 c))).toNatClampNeg))), l) else (bnd2F (F_87 c (((R l (ad 1078 60 313 c))).toNatClampNeg) l) fun v6 l6 => (v6, l6)))) else ((-2 : Int32), l))
theorem t_89 (c : Nat) (m9 : Nat) : f_89 c (dec m9) = d2 (F_89 c m9) := by
  unfold f_89 F_89
  (simp only [dk_296, ud_296, dk_301, ud_301, dk_313, ud_313, bnd_d, bnd2_d, bndF_eq, bnd2F_eq, dec_bnd, d2_bnd, dP_bnd, dec_bnd2, d2_bnd2, dP_bnd2, dec_ite, d2_ite, dP_ite, d2_mk, dP_mk, qk, t_87]) <;> (repeat' first | with_reducible rfl | refine ite_t9 ?_ ?_ ?_ | refine bnd_c9 (fun _ => ?_) | refine bnd2_c9 (fun _ _ => ?_))
noncomputable def G_88 (n : Nat) : Nat → Nat → Nat → Nat
  | 0, _, l => l
  | d + 1, j, l => (if (R l (ad 1258 60 316 j)) = (R l (ad 0 20 292 0)) then (if ¬ (R l (ad 958 60 311 j)) = (4 : Int32) then (if (R l (ad 958 60 311 j)) = 0 then (bnd2F (F_89 j l) fun v5 l5 => (if v5 = (-2 : Int32) then G_88 n d (j + 1)  l5 else (bndF (F_81 n j v5 l5) fun l7 => G_88 n d (j + 1)  l7))) else (if ¬ (R l (ad 958 60 311 j)) = (1 : Int32) then G_88 n d (j + 1)  l else (bnd2F (F_89 j l) fun v9 l9 => (if v9 = (-2 : Int32) then G_88 n d (j + 1)  l9 else (bndF (F_81 n j v9 l9) fun l11 => G_88 n d (j + 1)  l11))))) else (bndF (F_90 j l) fun l12 => G_88 n d (j + 1)  l12)) else G_88 n d (j + 1)  l)
theorem tg_88 (n : Nat) : ∀ (d9 : Nat) (v1 : Nat) (m9 : Nat), g_88 n d9 v1 (dec m9) = dec (G_88 n d9 v1 m9) := by
  intro d9
  induction d9 with
  | zero =>
    intros
    (simp only [g_88, G_88, dk_292, ud_292, dk_311, ud_311, dk_316, ud_316, bnd_d, bnd2_d, bndF_eq, bnd2F_eq, dec_bnd, d2_bnd, dP_bnd, dec_bnd2, d2_bnd2, dP_bnd2, dec_ite, d2_ite, dP_ite, d2_mk, dP_mk, qk, t_81, t_89, t_90]) <;> (repeat' first | with_reducible rfl | refine ite_t9 ?_ ?_ ?_ | refine bnd_c9 (fun _ => ?_) | refine bnd2_c9 (fun _ _ => ?_))
  | succ d9 ih =>
    intros
    (simp only [g_88, G_88, ih, dk_292, ud_292, dk_311, ud_311, dk_316, ud_316, bnd_d, bnd2_d, bndF_eq, bnd2F_eq, dec_bnd, d2_bnd, dP_bnd, dec_bnd2, d2_bnd2, dP_bnd2, dec_ite, d2_ite, dP_ite, d2_mk, dP_mk, qk, t_81, t_89, t_90]) <;> (repeat' first | with_reducible rfl | refine ite_t9 ?_ ?_ ?_ | refine bnd_c9 (fun _ => ?_) | refine bnd2_c9 (fun _ _ => ?_))
noncomputable def F_88 (n : Nat) (l : Nat) : Nat := G_88 n n 0  l
theorem t_88 (n : Nat) (m9 : Nat) : f_88 n (dec m9) = dec (F_88 n m9) := by
  unfold f_88 F_88
  (simp only [bnd_d, bnd2_d, bndF_eq, bnd2F_eq, dec_bnd, d2_bnd, dP_bnd, dec_bnd2, d2_bnd2, dP_bnd2, dec_ite, d2_ite, dP_ite, d2_mk, dP_mk, qk, tg_88]) <;> (repeat' first | with_reducible rfl | refine ite_t9 ?_ ?_ ?_ | refine bnd_c9 (fun _ => ?_) | refine bnd2_c9 (fun _ _ => ?_))
noncomputable def G_94  : Nat → Nat → Nat → Nat
  | 0, _, l => l
  | d + 1, j, l => (if ¬ (R l (ad 2038 6 326 j)) = (4 : Int32) then G_94  d (j + 1)  l else (if (R l (ad 0 20 292 0)) < (R l (ad 2062 6 330 j)) then G_94  d (j + 1)  l else (bndF (F_1 j ((R l (ad 0 20 292 0))) l) fun l4 => G_94  d (j + 1)  l4)))
theorem tg_94  : ∀ (d9 : Nat) (v1 : Nat) (m9 : Nat), g_94  d9 v1 (dec m9) = dec (G_94  d9 v1 m9) := by
  intro d9
  induction d9 with
  | zero =>
    intros
    (simp only [g_94, G_94, dk_292, ud_292, dk_326, ud_326, dk_330, ud_330, bnd_d, bnd2_d, bndF_eq, bnd2F_eq, dec_bnd, d2_bnd, dP_bnd, dec_bnd2, d2_bnd2, dP_bnd2, dec_ite, d2_ite, dP_ite, d2_mk, dP_mk, qk, t_1]) <;> (repeat' first | with_reducible rfl | refine ite_t9 ?_ ?_ ?_ | refine bnd_c9 (fun _ => ?_) | refine bnd2_c9 (fun _ _ => ?_))
  | succ d9 ih =>
    intros
    (simp only [g_94, G_94, ih, dk_292, ud_292, dk_326, ud_326, dk_330, ud_330, bnd_d, bnd2_d, bndF_eq, bnd2F_eq, dec_bnd, d2_bnd, dP_bnd, dec_bnd2, d2_bnd2, dP_bnd2, dec_ite, d2_ite, dP_ite, d2_mk, dP_mk, qk, t_1]) <;> (repeat' first | with_reducible rfl | refine ite_t9 ?_ ?_ ?_ | refine bnd_c9 (fun _ => ?_) | refine bnd2_c9 (fun _ _ => ?_))
noncomputable def F_94 (l : Nat) : Nat := G_94  6 0  l
theorem t_94  (m9 : Nat) : f_94 (dec m9) = dec (F_94 m9) := by
  unfold f_94 F_94
  (simp only [bnd_d, bnd2_d, bndF_eq, bnd2F_eq, dec_bnd, d2_bnd, dP_bnd, dec_bnd2, d2_bnd2, dP_bnd2, dec_ite, d2_ite, dP_ite, d2_mk, dP_mk, qk, tg_94]) <;> (repeat' first | with_reducible rfl | refine ite_t9 ?_ ?_ ?_ | refine bnd_c9 (fun _ => ?_) | refine bnd2_c9 (fun _ _ => ?_))
noncomputable def G_96 (n : Nat) : Nat → Nat → Nat → Nat
  | 0, _, l => l
  | d + 1, j, l => (if isA (F_97 n l) then (if isCl n (F_99 n ((R l (ad 2044 6 327 ((F_97 n l).toNatClampNeg)))) l) then (bndF (F_100 (F_97 n l) ((F_99 n ((R l (ad 2044 6 327 ((F_97 n l).toNatClampNeg)))) l).toNatClampNeg) l) fun l6 => G_96 n d (j + 1)  l6) else G_96 n d (j + 1)  l) else l)
theorem tg_96 (n : Nat) : ∀ (d9 : Nat) (v1 : Nat) (m9 : Nat), g_96 n d9 v1 (dec m9) = dec (G_96 n d9 v1 m9) := by
  intro d9
  induction d9 with
  | zero =>
    intros
    (simp only [g_96, G_96, dk_327, ud_327, bnd_d, bnd2_d, bndF_eq, bnd2F_eq, dec_bnd, d2_bnd, dP_bnd, dec_bnd2, d2_bnd2, dP_bnd2, dec_ite, d2_ite, dP_ite, d2_mk, dP_mk, qk, t_100, t_97, t_99]) <;> (repeat' first | with_reducible rfl | refine ite_t9 ?_ ?_ ?_ | refine bnd_c9 (fun _ => ?_) | refine bnd2_c9 (fun _ _ => ?_))
  | succ d9 ih =>
    intros
    (simp only [g_96, G_96, ih, dk_327, ud_327, bnd_d, bnd2_d, bndF_eq, bnd2F_eq, dec_bnd, d2_bnd, dP_bnd, dec_bnd2, d2_bnd2, dP_bnd2, dec_ite, d2_ite, dP_ite, d2_mk, dP_mk, qk, t_100, t_97, t_99]) <;> (repeat' first | with_reducible rfl | refine ite_t9 ?_ ?_ ?_ | refine bnd_c9 (fun _ => ?_) | refine bnd2_c9 (fun _ _ => ?_))
noncomputable def F_96 (n : Nat) (l : Nat) : Nat := G_96 n 6 0  l
theorem t_96 (n : Nat) (m9 : Nat) : f_96 n (dec m9) = dec (F_96 n m9) := by
  unfold f_96 F_96
  (simp only [bnd_d, bnd2_d, bndF_eq, bnd2F_eq, dec_bnd, d2_bnd, dP_bnd, dec_bnd2, d2_bnd2, dP_bnd2, dec_ite, d2_ite, dP_ite, d2_mk, dP_mk, qk, tg_96]) <;> (repeat' first | with_reducible rfl | refine ite_t9 ?_ ?_ ?_ | refine bnd_c9 (fun _ => ?_) | refine bnd2_c9 (fun _ _ => ?_))
noncomputable def F_95 (n : Nat) (l : Nat) : Nat := (bndF (F_96 n l) fun l1 => (bndF (F_5 l1) fun l2 => l2))
theorem t_95 (n : Nat) (m9 : Nat) : f_95 n (dec m9) = dec (F_95 n m9) := by
  unfold f_95 F_95
  (simp only [bnd_d, bnd2_d, bndF_eq, bnd2F_eq, dec_bnd, d2_bnd, dP_bnd, dec_bnd2, d2_bnd2, dP_bnd2, dec_ite, d2_ite, dP_ite, d2_mk, dP_mk, qk, t_5, t_96]) <;> (repeat' first | with_reducible rfl | refine ite_t9 ?_ ?_ ?_ | refine bnd_c9 (fun _ => ?_) | refine bnd2_c9 (fun _ _ => ?_))
