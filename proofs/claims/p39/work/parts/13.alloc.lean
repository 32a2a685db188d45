/-! ===== making arrays and grids, each cell at the next place ===== -/
section MALLOC
variable {p : Program} {l : Launch} {e : Env} {R : Room} {s : State} {m : MethodId} {args : Array Value} {below : List Frame} {meth : Method} {c : Code} {H : Heap} {locs : List Loc} {cells slots : Nat} {Q : State → Prop}
variable {cc : ByteArray} {pc nL b : Nat} {ls : Array Slot} {rest : List Value} {D : va_G} {cl : List vw_C} {tys : List (ClassId × FieldType)} {cy : Nat → ClassId} {h h' : MH} {own C : String} {index t0 : Nat} {n : Int32}
theorem nb_le {a k : Nat} (h : a ≤ 100000) (hk : k ≤ 8) : a * k ≤ 536870912 := Nat.le_trans (Nat.mul_le_mul h hk) (by decide)
theorem rep_gd {β : Type} (f : Value → β) (v : Value) (N : Nat) (h : f v = f .null) : (fun j => f ((List.replicate N v).getD j .null)) = fun _ => f v := by
  funext j
  rw [List.getD_eq_getElem?_getD, List.getElem?_replicate]
  split
  · rfl
  · exact h.symm
theorem wsOf_grow {H1 : Heap} {x : MC} (hP : va_P D cl (wsOf b cy h) H) (o : ∀ q, q < H.size → H1[q]? = H[q]?) (hx : va_at D cl (b + h.length, trC b cy x) H1) : va_P D cl (wsOf b cy (h ++ [x])) H1 := by
  have hP1 := (hP.kept (fun k y hy => o y.1 ((hP k y hy).lt))).app (w2 := [(b + h.length, trC b cy x)]) (fun k y hy => by
    have hz : k < 1 := (List.getElem?_eq_some_iff.mp hy).1
    rw [show k = 0 by omega] at hy
    cases hy
    exact hx)
  rw [wsOf_push] at hP1
  exact hP1
theorem va_S_grow {A : Nat → Prop} {H0 H1 : Heap} {locs : List Loc} (hS : va_S A H0 H locs) (z : H.size ≤ H1.size) (o : ∀ q, q < H.size → H1[q]? = H[q]?) : va_S A H0 H1 locs :=
  ⟨Nat.le_trans hS.1 z, fun x h1 h2 => (o x (Nat.lt_of_lt_of_le h1 hS.1)).trans (hS.2.1 x h1 h2), hS.2.2⟩
theorem h_newi (hx : p.tables.exec = Jvm.exec) (hb : c.code = cc) (harr : (Cond.arrayClass .int).before args s = true) (hK : va_K D cl tys s) (hP : va_P D cl (wsOf b cy h) H) (hS : va_S (fun q => b ≤ q) s.heap H locs) (ht : tys[t0]? = some (cy 100, .int)) (hsz : H.size = b + h.length)
    (hn : ¬ n < 0) (hbytes : n.toNatClampNeg ≤ 100000) (hcells : cells + 1 ≤ R.cells) (hslots : slots + n.toNatClampNeg ≤ R.slots) (hdg : decode cc pc = .ok (.newarray .int, 2))
    (kk : ∀ (H1 : Heap), H1.size = b + (h ++ [((100, List.replicate n.toNatClampNeg (.int 0)) : MC)]).length → va_P D cl (wsOf b cy (h ++ [((100, List.replicate n.toNatClampNeg (.int 0)) : MC)])) H1 → va_S (fun q => b ≤ q) s.heap H1 locs →
      W p l e R s m args below meth c H1 locs (cells + 1) (slots + n.toNatClampNeg) Q (F0 m (pc + 2) ls (.ref (b + h.length) :: rest))) : W p l e R s m args below meth c H locs cells slots Q (F0 m pc ls (.int n :: rest)) := by
  refine va_newaK (N := n.toNatClampNeg) (rest := rest) (atype := .int) hx hb harr rfl hdg rfl hn rfl (nb_le hbytes (by decide)) hcells hslots hsz fun H1 cA e1 z1 o1 f1 f2 => ?_
  have hc : cA = cy 100 := Option.some.inj (f2.symm.trans ((hK.2 t0 _ ht).2 : s.vm.findClass _ = some (cy 100)))
  subst hc
  refine kk H1 (by rw [z1, List.length_append]; rfl) (wsOf_grow hP (fun q hq => o1 q (by rw [← hsz]; exact hq)) ?_) (va_S_grow hS (by omega) (fun q hq => o1 q (by rw [← hsz]; exact hq)))
  rw [trC_int, rep_gd vi (.int 0) _ rfl, List.length_replicate]
  exact e1
theorem h_newz (hx : p.tables.exec = Jvm.exec) (hb : c.code = cc) (harr : (Cond.arrayClass .boolean).before args s = true) (hK : va_K D cl tys s) (hP : va_P D cl (wsOf b cy h) H) (hS : va_S (fun q => b ≤ q) s.heap H locs) (ht : tys[t0]? = some (cy 101, .boolean)) (hsz : H.size = b + h.length)
    (hn : ¬ n < 0) (hbytes : n.toNatClampNeg ≤ 100000) (hcells : cells + 1 ≤ R.cells) (hslots : slots + n.toNatClampNeg ≤ R.slots) (hdg : decode cc pc = .ok (.newarray .boolean, 2))
    (kk : ∀ (H1 : Heap), H1.size = b + (h ++ [((101, List.replicate n.toNatClampNeg (.int 0)) : MC)]).length → va_P D cl (wsOf b cy (h ++ [((101, List.replicate n.toNatClampNeg (.int 0)) : MC)])) H1 → va_S (fun q => b ≤ q) s.heap H1 locs →
      W p l e R s m args below meth c H1 locs (cells + 1) (slots + n.toNatClampNeg) Q (F0 m (pc + 2) ls (.ref (b + h.length) :: rest))) : W p l e R s m args below meth c H locs cells slots Q (F0 m pc ls (.int n :: rest)) := by
  refine va_newaK (N := n.toNatClampNeg) (rest := rest) (atype := .boolean) hx hb harr rfl hdg rfl hn rfl (nb_le hbytes (by decide)) hcells hslots hsz fun H1 cA e1 z1 o1 f1 f2 => ?_
  have hc : cA = cy 101 := Option.some.inj (f2.symm.trans ((hK.2 t0 _ ht).2 : s.vm.findClass _ = some (cy 101)))
  subst hc
  refine kk H1 (by rw [z1, List.length_append]; rfl) (wsOf_grow hP (fun q hq => o1 q (by rw [← hsz]; exact hq)) ?_) (va_S_grow hS (by omega) (fun q hq => o1 q (by rw [← hsz]; exact hq)))
  rw [trC_bool, rep_gd vi (.int 0) _ rfl, List.length_replicate]
  exact e1
theorem h_newl (hx : p.tables.exec = Jvm.exec) (hb : c.code = cc) (harr : (Cond.arrayClass .long).before args s = true) (hK : va_K D cl tys s) (hP : va_P D cl (wsOf b cy h) H) (hS : va_S (fun q => b ≤ q) s.heap H locs) (ht : tys[t0]? = some (cy 102, .long)) (hsz : H.size = b + h.length)
    (hn : ¬ n < 0) (hbytes : n.toNatClampNeg ≤ 100000) (hcells : cells + 1 ≤ R.cells) (hslots : slots + n.toNatClampNeg ≤ R.slots) (hdg : decode cc pc = .ok (.newarray .long, 2))
    (kk : ∀ (H1 : Heap), H1.size = b + (h ++ [((102, List.replicate n.toNatClampNeg (.long 0)) : MC)]).length → va_P D cl (wsOf b cy (h ++ [((102, List.replicate n.toNatClampNeg (.long 0)) : MC)])) H1 → va_S (fun q => b ≤ q) s.heap H1 locs →
      W p l e R s m args below meth c H1 locs (cells + 1) (slots + n.toNatClampNeg) Q (F0 m (pc + 2) ls (.ref (b + h.length) :: rest))) : W p l e R s m args below meth c H locs cells slots Q (F0 m pc ls (.int n :: rest)) := by
  refine va_newaK (N := n.toNatClampNeg) (rest := rest) (atype := .long) hx hb harr rfl hdg rfl hn rfl (nb_le hbytes (by decide)) hcells hslots hsz fun H1 cA e1 z1 o1 f1 f2 => ?_
  have hc : cA = cy 102 := Option.some.inj (f2.symm.trans ((hK.2 t0 _ ht).2 : s.vm.findClass _ = some (cy 102)))
  subst hc
  refine kk H1 (by rw [z1, List.length_append]; rfl) (wsOf_grow hP (fun q hq => o1 q (by rw [← hsz]; exact hq)) ?_) (va_S_grow hS (by omega) (fun q hq => o1 q (by rw [← hsz]; exact hq)))
  rw [trC_long, rep_gd vl (.long 0) _ rfl, List.length_replicate]
  exact e1
theorem h_newq {t : Nat} (hx : p.tables.exec = Jvm.exec) (hb : c.code = cc) (hown : s.vm.findClass own = some m.cls) (hclink : (Cond.classLink own index C).before args s = true) (hover : (Cond.arrayOver (.object C)).before args s = true) (hK : va_K D cl tys s) (hP : va_P D cl (wsOf b cy h) H) (hS : va_S (fun q => b ≤ q) s.heap H locs) (ht : tys[t0]? = some (cy t, .object C)) (h102 : 102 < t) (hsz : H.size = b + h.length)
    (hn : ¬ n < 0) (hbytes : n.toNatClampNeg ≤ 100000) (hcells : cells + 1 ≤ R.cells) (hslots : slots + n.toNatClampNeg ≤ R.slots) (hdg : decode cc pc = .ok (.anewarray index, 3))
    (kk : ∀ (H1 : Heap), H1.size = b + (h ++ [((t, List.replicate n.toNatClampNeg .null) : MC)]).length → va_P D cl (wsOf b cy (h ++ [((t, List.replicate n.toNatClampNeg .null) : MC)])) H1 → va_S (fun q => b ≤ q) s.heap H1 locs →
      W p l e R s m args below meth c H1 locs (cells + 1) (slots + n.toNatClampNeg) Q (F0 m (pc + 3) ls (.ref (b + h.length) :: rest))) : W p l e R s m args below meth c H locs cells slots Q (F0 m pc ls (.int n :: rest)) := by
  refine W.anew hx hb hown hclink hover rfl hdg rfl hn (by omega) hcells hslots fun cA kA comp f1 f2 f3 f4 => ?_
  obtain ⟨kA', comp', g1, g2, g3, g4⟩ := (hK.2 t0 _ ht).2
  have hc : cA = cy t := Option.some.inj (f1.symm.trans g4)
  subst hc
  rw [hsz]
  have o1 : ∀ q : Nat, q < H.size → (H.push ({ cls := cy t, slots := Array.replicate n.toNatClampNeg .null, vm := .none } : Cell))[q]? = H[q]? := fun q hq => by rw [Array.getElem?_push, if_neg (Nat.ne_of_lt hq)]
  refine kk _ (by rw [Array.size_push, hsz, List.length_append]; rfl) (wsOf_grow hP o1 ?_) (va_S_grow hS (by rw [Array.size_push]; omega) o1)
  rw [trC_ref h102, rep_gd (fun v => (vr v).map (fun k => b + k)) .null _ rfl, List.length_replicate]
  show (H.push _)[b + h.length]? = some (vp_cell _ _)
  rw [← hsz, Array.getElem?_push_size, vp_cell_q]
  exact congrArg some (arrV_new _ _ _)
end MALLOC
