/-! ===== new int[n][k]: the outer row at the next place, the inner ones behind it ===== -/
section MGRID
variable {p : Program} {l : Launch} {e : Env} {R : Room} {s : State} {m : MethodId} {args : Array Value} {below : List Frame} {meth : Method} {c : Code} {H : Heap} {locs : List Loc} {cells slots : Nat} {Q : State → Prop}
variable {cc : ByteArray} {pc nL b : Nat} {ls : Array Slot} {rest : List Value} {D : va_G} {cl : List vw_C} {tys : List (ClassId × FieldType)} {cy : Nat → ClassId} {h : MH} {own : String} {index t0 t1 t : Nat} {n k : Int32}
def gridC (t n k z : Nat) : MH := ((t, (List.range n).map (fun i => Value.ref (z + 1 + i))) : MC) :: List.replicate n ((100, List.replicate k (Value.int 0)) : MC)
theorem h_mna (hx : p.tables.exec = Jvm.exec) (hb : c.code = cc) (hown : s.vm.findClass own = some m.cls) (hclink : (Cond.classLink own index "[[I").before args s = true) (hover : (Cond.arrayOver (.array .int)).before args s = true) (harr : (Cond.arrayClass .int).before args s = true)
    (hK : va_K D cl tys s) (hP : va_P D cl (wsOf b cy h) H) (hS : va_S (fun q => b ≤ q) s.heap H locs) (ht : tys[t0]? = some (cy 100, .int)) (ht1 : tys[t1]? = some (cy t, .array .int)) (h102 : 102 < t) (hsz : H.size = b + h.length) (hn : ¬ n < 0) (hk : ¬ k < 0) (hb1 : n.toNatClampNeg ≤ 100000) (hb2 : k.toNatClampNeg ≤ 100000)
    (hcells : cells + (1 + n.toNatClampNeg) ≤ R.cells) (hslots : slots + (n.toNatClampNeg + n.toNatClampNeg * k.toNatClampNeg) ≤ R.slots) (hdg : decode cc pc = .ok (.multianewarray index 2, 4))
    (kk : ∀ (H1 : Heap), H1.size = b + (h ++ gridC t n.toNatClampNeg k.toNatClampNeg h.length).length → va_P D cl (wsOf b cy (h ++ gridC t n.toNatClampNeg k.toNatClampNeg h.length)) H1 → va_S (fun q => b ≤ q) s.heap H1 locs →
      W p l e R s m args below meth c H1 locs (cells + 1 + n.toNatClampNeg) (slots + n.toNatClampNeg + n.toNatClampNeg * k.toNatClampNeg) Q (F0 m (pc + 4) ls (.ref (b + h.length) :: rest))) : W p l e R s m args below meth c H locs cells slots Q (F0 m pc ls (.int k :: .int n :: rest)) := by
  intro T hT Xs
  obtain ⟨vm₁, cA, comp, -, fA, fC, hO, -, X', step⟩ := Xs.multianewarray2F hx hown (ty := .int) hclink hover harr (g := F0 m pc ls (.int k :: .int n :: rest)) rfl (by rw [hb]; exact hdg) rfl hn hk (nb_le hb1 (by decide)) (nb_le hb2 (by decide)) (by omega) rfl rfl hcells hslots
  have e1 : cA = cy t := by
    have h9 : s.vm.findClass ("[" ++ (FieldType.array .int).toString) = some (cy t) := (hK.2 t1 _ ht1).2
    exact Option.some.inj (fA.symm.trans h9)
  have e2 : comp = cy 100 := by
    have h9 : s.vm.findClass ("[" ++ (FieldType.int).toString) = some (cy 100) := (hK.2 t0 _ ht).2
    exact Option.some.inj (fC.symm.trans h9)
  subst e1
  subst e2
  generalize hF : Jvm.Free.Multi.fill (T.setVm vm₁) (cy t) (cy 100) n.toNatClampNeg k.toNatClampNeg (defaultValue .int) n.toNatClampNeg = F at X' step
  have hTh : (T.setVm vm₁).heap = H := hT
  obtain ⟨f1, f2, -, -⟩ := Jvm.Free.Multi.fill_facts (T.setVm vm₁) (cy t) (cy 100) n.toNatClampNeg k.toNatClampNeg (defaultValue .int) n.toNatClampNeg
  rw [hF, hTh] at f1 f2
  have hold : ∀ x : Nat, x < H.size → F.heap[x]? = H[x]? := fun x hx => by
    have := Jvm.Free.Multi.fill_old (T.setVm vm₁) (cy t) (cy 100) n.toNatClampNeg k.toNatClampNeg (defaultValue .int) (a := x) (by rw [hTh]; exact hx) n.toNatClampNeg
    rw [hF, hTh] at this
    exact this
  have hrow : ∀ j : Nat, j < n.toNatClampNeg → F.heap[H.size + 1 + j]? = some (vp_cell (cy 100) (k.toNatClampNeg, .inl (fun _ => 0))) := fun j hj => by
    have := Jvm.Free.Multi.fill_inner (T.setVm vm₁) (cy t) (cy 100) n.toNatClampNeg k.toNatClampNeg (defaultValue .int) n.toNatClampNeg j hj
    rw [hF, hTh] at this
    rw [this]
    exact congrArg some (arrV_new _ _ _)
  rw [vr_outer] at f2
  have hP1 : va_P D cl (wsOf b cy (h ++ gridC t n.toNatClampNeg k.toNatClampNeg h.length)) F.heap := by
    intro q x hq
    simp only [wsOf, List.getElem?_mapIdx] at hq
    by_cases hl : q < h.length
    · rw [List.getElem?_append_left hl] at hq
      refine (hP q x ?_).kept (hold x.1 ?_)
      · simp only [wsOf, List.getElem?_mapIdx]; exact hq
      · rw [List.getElem?_eq_getElem hl] at hq
        cases hq
        show b + q < H.size
        omega
    · rw [List.getElem?_append_right (by omega)] at hq
      cases hz : q - h.length with
      | zero =>
        rw [hz] at hq
        cases hq
        have hqe : q = h.length := by omega
        subst hqe
        show va_at D cl (b + h.length, trC b cy (t, (List.range n.toNatClampNeg).map (fun i => Value.ref (h.length + 1 + i)))) F.heap
        rw [trC_ref h102]
        show F.heap[b + h.length]? = some (vp_cell _ _)
        rw [← hsz, f2, vp_cell_q, List.length_map, List.length_range]
        congr 2
        funext j
        by_cases hj : j < n.toNatClampNeg
        · have h9 : ((List.range n.toNatClampNeg).map (fun i => Value.ref (h.length + 1 + i)))[j]? = some (.ref (h.length + 1 + j)) := by
            rw [List.getElem?_map, List.getElem?_range hj]; rfl
          rw [gd_of h9, if_pos hj]
          show Value.ref (Array.size H + 1 + j) = Value.ref (b + (h.length + 1 + j))
          exact congrArg Value.ref (show (Array.size H + 1 + j : Nat) = b + (h.length + 1 + j) by omega)
        · have h9 : ((List.range n.toNatClampNeg).map (fun i => Value.ref (h.length + 1 + i)))[j]? = none := List.getElem?_eq_none (by rw [List.length_map, List.length_range]; omega)
          rw [List.getD_eq_getElem?_getD, h9, if_neg hj]
          rfl
      | succ i =>
        rw [hz] at hq
        simp only [gridC, List.getElem?_cons_succ, List.getElem?_replicate] at hq
        split at hq
        · rename_i hi
          cases hq
          show va_at D cl (b + q, trC b cy (100, List.replicate k.toNatClampNeg (Value.int 0))) F.heap
          rw [trC_int, rep_gd vi (.int 0) _ rfl, List.length_replicate]
          have h9 := hrow i hi
          rw [show H.size + 1 + i = b + q by omega] at h9
          exact h9
        · cases hq
  obtain ⟨t2, a1, b1⟩ := kk F.heap (by rw [f1, hsz, List.length_append]; simp [gridC]; omega) hP1 (va_S_grow hS (by rw [f1]; omega) hold) F rfl X'
  refine ⟨t2, step t2 ?_, b1⟩
  have e : T.heap.size = b + h.length := by rw [hT, hsz]
  rw [e]
  exact a1
end MGRID
