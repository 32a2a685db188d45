/-! ===== the mini heap and the machine's: cell k lies at b + k ===== -/
def vi : Value → Int32
  | .int x => x
  | _ => 0
def vl : Value → Int64
  | .long x => x
  | _ => 0
def vr : Value → Option Nat
  | .ref k => some k
  | _ => none
/-- tags: below 100 an object of that class; 100 int[], 101 boolean[], 102 long[], from 103 on arrays of references -/
def trC (b : Nat) (cy : Nat → ClassId) (c : MC) : va_E :=
  if c.1 < 100 then .inr (c.1, c.2.map (tv b))
  else if c.1 < 102 then .inl (cy c.1, c.2.length, .inl (fun j => vi (c.2.getD j .null)))
  else if c.1 = 102 then .inl (cy c.1, c.2.length, .inr (.inl (fun j => vl (c.2.getD j .null))))
  else .inl (cy c.1, c.2.length, .inr (.inr (.inr (.inr (fun j => (vr (c.2.getD j .null)).map (fun k => b + k))))))
def wsOf (b : Nat) (cy : Nat → ClassId) (h : MH) : va_W := h.mapIdx (fun k c => (b + k, trC b cy c))
def gF (h : MH) (k t j : Nat) : Option Value := match h[k]? with
  | some c => bif c.1 == t then c.2[j]? else none
  | none => none
def pF (h : MH) (k t j : Nat) (v : Value) : Option MH := match h[k]? with
  | some c => bif c.1 == t && Nat.blt j c.2.length then some (h.set k (t, c.2.set j v)) else none
  | none => none
def gA (h : MH) (k t : Nat) (i : Int32) : Option Value := if i < 0 then none else gF h k t i.toNatClampNeg
def pA (h : MH) (k t : Nat) (i : Int32) (v : Value) : Option MH := if i < 0 then none else pF h k t i.toNatClampNeg v
theorem gF_spec {h : MH} {k t j : Nat} {v : Value} (hg : gF h k t j = some v) : ∃ vs, h[k]? = some (t, vs) ∧ vs[j]? = some v := by
  unfold gF at hg
  split at hg
  · rename_i c hc
    cases hq : c.1 == t
    · rw [hq] at hg; cases hg
    · rw [hq] at hg
      have e := beq_iff_eq.mp hq
      exact ⟨c.2, by rw [hc, ← e], hg⟩
  · cases hg
theorem pF_spec {h h' : MH} {k t j : Nat} {v : Value} (hg : pF h k t j v = some h') : ∃ vs, h[k]? = some (t, vs) ∧ j < vs.length ∧ h' = h.set k (t, vs.set j v) := by
  unfold pF at hg
  split at hg
  · rename_i c hc
    cases hq : c.1 == t && Nat.blt j c.2.length
    · rw [hq] at hg; cases hg
    · rw [hq] at hg
      rw [Bool.and_eq_true] at hq
      have e := beq_iff_eq.mp hq.1
      refine ⟨c.2, by rw [hc, ← e], Nat.blt_eq ▸ hq.2, ?_⟩
      cases hg
      rfl
  · cases hg
theorem gA_spec {h : MH} {k t : Nat} {i : Int32} {v : Value} (hg : gA h k t i = some v) : ∃ vs, h[k]? = some (t, vs) ∧ vs[i.toNatClampNeg]? = some v ∧ vp_in i vs.length := by
  unfold gA at hg
  split at hg
  · cases hg
  · rename_i h0
    obtain ⟨vs, h1, h2⟩ := gF_spec hg
    have hl := (List.getElem?_eq_some_iff.mp h2).1
    exact ⟨vs, h1, h2, fun z => z.elim h0 (fun z => absurd hl (Nat.not_lt.mpr z))⟩
theorem pA_spec {h h' : MH} {k t : Nat} {i : Int32} {v : Value} (hg : pA h k t i v = some h') : ∃ vs, h[k]? = some (t, vs) ∧ vp_in i vs.length ∧ i.toNatClampNeg < vs.length ∧ h' = h.set k (t, vs.set i.toNatClampNeg v) := by
  unfold pA at hg
  split at hg
  · cases hg
  · rename_i h0
    obtain ⟨vs, h1, h2, h3⟩ := pF_spec hg
    exact ⟨vs, h1, fun z => z.elim h0 (fun z => absurd h2 (Nat.not_lt.mpr z)), h2, h3⟩
theorem wsOf_get {b : Nat} {cy : Nat → ClassId} {h : MH} {k : Nat} {c : MC} (hk : h[k]? = some c) : (wsOf b cy h)[k]? = some (b + k, trC b cy c) := by
  simp [wsOf, hk]
theorem wsOf_len {b : Nat} {cy : Nat → ClassId} {h : MH} : (wsOf b cy h).length = h.length := by simp [wsOf]
theorem wsOf_set {b : Nat} {cy : Nat → ClassId} {h : MH} {k : Nat} {c : MC} : (wsOf b cy h).set k (b + k, trC b cy c) = wsOf b cy (h.set k c) := by
  apply List.ext_getElem?
  intro i
  simp only [wsOf, List.getElem?_mapIdx, List.getElem?_set, List.length_mapIdx]
  by_cases hki : k = i
  · subst hki
    simp only [if_true]
    split <;> simp
  · simp only [if_neg hki]
theorem wsOf_push {b : Nat} {cy : Nat → ClassId} {h : MH} {c : MC} : wsOf b cy h ++ [(b + h.length, trC b cy c)] = wsOf b cy (h ++ [c]) := by
  simp [wsOf, List.mapIdx_append]
theorem wsOf_D {b : Nat} {cy : Nat → ClassId} {h : MH} : va_D (fun q => b ≤ q) (wsOf b cy h) := by
  have key : ∀ (i : Nat) (x : Nat × va_E), (wsOf b cy h)[i]? = some x → x.1 = b + i := by
    intro i x hx
    simp only [wsOf, List.getElem?_mapIdx] at hx
    cases hi : h[i]? with
    | none => rw [hi] at hx; cases hx
    | some c => rw [hi] at hx; cases hx; rfl
  refine ⟨fun i j x y hi hj hxy => ?_, fun i x hi => ?_⟩
  · have := key i x hi
    have := key j y hj
    omega
  · have h9 := key i x hi
    show b ≤ x.1
    omega
theorem trC_obj {b : Nat} {cy : Nat → ClassId} {t : Nat} {vs : List Value} (h : t < 100) : trC b cy (t, vs) = .inr (t, vs.map (tv b)) := if_pos h
theorem trC_int {b : Nat} {cy : Nat → ClassId} {vs : List Value} : trC b cy (100, vs) = .inl (cy 100, vs.length, .inl (fun j => vi (vs.getD j .null))) := rfl
theorem trC_bool {b : Nat} {cy : Nat → ClassId} {vs : List Value} : trC b cy (101, vs) = .inl (cy 101, vs.length, .inl (fun j => vi (vs.getD j .null))) := rfl
theorem trC_long {b : Nat} {cy : Nat → ClassId} {vs : List Value} : trC b cy (102, vs) = .inl (cy 102, vs.length, .inr (.inl (fun j => vl (vs.getD j .null)))) := rfl
theorem trC_ref {b : Nat} {cy : Nat → ClassId} {t : Nat} {vs : List Value} (h : 102 < t) : trC b cy (t, vs) = .inl (cy t, vs.length, .inr (.inr (.inr (.inr (fun j => (vr (vs.getD j .null)).map (fun k => b + k)))))) := by
  unfold trC
  rw [if_neg (by simp only; omega), if_neg (by simp only; omega), if_neg (by simp only; omega)]
theorem set_fn {β : Type} (f : Value → β) {vs : List Value} {j : Nat} (hj : j < vs.length) (v : Value) : (fun i => f ((vs.set j v).getD i .null)) = fun i => if i = j then f v else f (vs.getD i .null) := by
  funext i
  simp only [List.getD_eq_getElem?_getD, List.getElem?_set]
  by_cases h : j = i
  · subst h
    simp [hj]
  · rw [if_neg h, if_neg (fun q => h q.symm)]
section MHEAP
variable {p : Program} {l : Launch} {e : Env} {R : Room} {s : State} {m : MethodId} {args : Array Value} {below : List Frame} {meth : Method} {c : Code} {H : Heap} {locs : List Loc} {cells slots : Nat} {Q : State → Prop}
variable {cc : ByteArray} {pc nL b : Nat} {ls : Array Slot} {rest : List Value} {D : va_G} {cl : List vw_C} {tys : List (ClassId × FieldType)} {cy : Nat → ClassId} {h h' : MH} {Ts : List Jvm.Cond} {own C ref : String} {T : u_T} {N ci index j k : Nat} {v : Value}
theorem h_get (hx : p.tables.exec = Jvm.exec) (hb : c.code = cc) (hts : ∀ w ∈ Ts, w.before args s = true) (hin : ∀ w ∈ u_ws C T N, w ∈ Ts) (hown : s.vm.findClass own = some m.cls) (hK : va_K D cl tys s) (hP : va_P D cl (wsOf b cy h) H) (hc : cl[ci]? = some (C, T, N)) (hj : j < N)
    (hlink : (Cond.fieldLink own index ref (T j).2.1 (T j).2.2.1).before args s = true) (href : (T j).1 = ref) (hci : ci < 100) (hg : gF h k ci j = some v) (hdg : decode cc pc = .ok (.getfield index, 3))
    (kk : W p l e R s m args below meth c H locs cells slots Q (F0 m (pc + 3) ls (tv b v :: rest))) : W p l e R s m args below meth c H locs cells slots Q (F0 m pc ls (.ref (b + k) :: rest)) := by
  obtain ⟨vs, h1, h2⟩ := gF_spec hg
  have he := wsOf_get (b := b) (cy := cy) h1
  rw [trC_obj hci] at he
  subst href
  exact va_get hx hb hts hin hown hK hP k he hc j hj hlink (fun _ h9 => h9) (by rw [List.getElem?_map, h2]; rfl) hdg kk
theorem h_put (hx : p.tables.exec = Jvm.exec) (hb : c.code = cc) (hts : ∀ w ∈ Ts, w.before args s = true) (hin : ∀ w ∈ u_ws C T N, w ∈ Ts) (ty0 : Nat → FieldType) (hty : ∀ k, k < N → parseFieldDescriptor (T k).2.2.1 = some (ty0 k)) (hnm : ∀ a, a < N → ∀ b, b < N → a ≠ b → (T a).2.1 ≠ (T b).2.1)
    (hown : s.vm.findClass own = some m.cls) (hK : va_K D cl tys s) (hP : va_P D cl (wsOf b cy h) H) (hS : va_S (fun q => b ≤ q) s.heap H locs) (hc : cl[ci]? = some (C, T, N)) (hj : j < N)
    (hlink : (Cond.fieldLink own index ref (T j).2.1 (T j).2.2.1).before args s = true) (href : (T j).1 = ref) (hfin : (T j).2.2.2 = false) (hn : narrow (ty0 j) (tv b v) = tv b v) (hfit : fits (ty0 j) (tv b v) = true) (hci : ci < 100) (hg : pF h k ci j v = some h') (hdg : decode cc pc = .ok (.putfield index, 3))
    (kk : ∀ (H1 : Heap) (locs1 : List Loc), H1.size = H.size → va_P D cl (wsOf b cy h') H1 → va_S (fun q => b ≤ q) s.heap H1 locs1 → W p l e R s m args below meth c H1 locs1 cells slots Q (F0 m (pc + 3) ls rest)) : W p l e R s m args below meth c H locs cells slots Q (F0 m pc ls (tv b v :: .ref (b + k) :: rest)) := by
  obtain ⟨vs, g1, g2, rfl⟩ := pF_spec hg
  have he := wsOf_get (b := b) (cy := cy) g1
  rw [trC_obj hci] at he
  subst href
  have hl : j < (vs.map (tv b)).length := by rw [List.length_map]; exact g2
  have hap := va_apart (own := own) hts hin ty0 hty hnm hK hc
  obtain ⟨r, h1, cell, q1, q2, q3, q4⟩ := hP k _ he
  have hr : r = (C, T, N) := Option.some.inj (h1.symm.trans hc)
  subst hr
  obtain ⟨hSl, hfc, kC, hkC, hkind⟩ := hK.1 ci _ hc
  obtain ⟨cf, kf, fi, f, hi, hsl⟩ := hSl j hj
  have hlay := hts _ (hin _ (u_in_lay hj))
  unfold u_lay at hlay
  rw [if_neg (by rw [hfin]; decide)] at hlay
  have hst := (u_facts hfc hkC (u_lays hts hin hj) hi).1
  have h6 := u_store hfc hkC hkind hlay hi (hty j hj) hn hfit
  refine W.putK hx hb (f := f) ⟨hown, hlink, ⟨_, _, _, hi⟩, hst⟩ (by rw [q2]; exact h6) q1 q3 (by rw [hsl]; exact k2_hasslot (q4 j hj)) rfl rfl hdg fun H' e1 e2 e3 => ?_
  rw [hsl] at e1 ⊢
  have hP1 := hP.set (wsOf_D (b := b)) he (e := .inr (ci, (vs.map (tv b)).set j (tv b v))) ⟨_, hc, t_OB.to (V := updV (vp_V (vs.map (tv b))) j (tv b v)) ⟨_, e1, q2, q3, t_set q4 hap hj (tv b v)⟩ (fun i _ => vp_updV_set hl (tv b v) i)⟩ e3
  rw [← List.map_set, ← trC_obj (b := b) (cy := cy) hci, wsOf_set] at hP1
  exact kk H' _ e2 hP1 (hS.put e2 e3 (Nat.le_add_right b k))
theorem h_putF (hx : p.tables.exec = Jvm.exec) (hb : c.code = cc) (hts : ∀ w ∈ Ts, w.before args s = true) (hin : ∀ w ∈ u_ws C T N, w ∈ Ts) (ty0 : Nat → FieldType) (hty : ∀ k, k < N → parseFieldDescriptor (T k).2.2.1 = some (ty0 k)) (hnm : ∀ a, a < N → ∀ b, b < N → a ≠ b → (T a).2.1 ≠ (T b).2.1)
    (hown : s.vm.findClass own = some m.cls) (hK : va_K D cl tys s) (hP : va_P D cl (wsOf b cy h) H) (hS : va_S (fun q => b ≤ q) s.heap H locs) (hc : cl[ci]? = some (C, T, N)) (hj : j < N)
    (hlink : (Cond.fieldLink own index ref (T j).2.1 (T j).2.2.1).before args s = true) (href : (T j).1 = ref) (hfin : (T j).2.2.2 = true) (hin2 : meth.name = "<init>") (hdecl : (T j).1 = own) (hn : narrow (ty0 j) (tv b v) = tv b v) (hfit : fits (ty0 j) (tv b v) = true) (hci : ci < 100) (hg : pF h k ci j v = some h') (hdg : decode cc pc = .ok (.putfield index, 3))
    (kk : ∀ (H1 : Heap) (locs1 : List Loc), H1.size = H.size → va_P D cl (wsOf b cy h') H1 → va_S (fun q => b ≤ q) s.heap H1 locs1 → W p l e R s m args below meth c H1 locs1 cells slots Q (F0 m (pc + 3) ls rest)) : W p l e R s m args below meth c H locs cells slots Q (F0 m pc ls (tv b v :: .ref (b + k) :: rest)) := by
  obtain ⟨vs, g1, g2, rfl⟩ := pF_spec hg
  have he := wsOf_get (b := b) (cy := cy) g1
  rw [trC_obj hci] at he
  subst href
  have hl : j < (vs.map (tv b)).length := by rw [List.length_map]; exact g2
  have hap := va_apart (own := own) hts hin ty0 hty hnm hK hc
  obtain ⟨r, h1, cell, q1, q2, q3, q4⟩ := hP k _ he
  have hr : r = (C, T, N) := Option.some.inj (h1.symm.trans hc)
  subst hr
  obtain ⟨hSl, hfc, kC, hkC, hkind⟩ := hK.1 ci _ hc
  obtain ⟨cf, kf, fi, f, hi, hsl⟩ := hSl j hj
  have hlay := hts _ (hin _ (u_in_lay hj))
  unfold u_lay at hlay
  rw [if_pos hfin] at hlay
  have hst := (u_facts hfc hkC (u_lays hts hin hj) hi).1
  have hcf : m.cls = cf := by
    obtain ⟨_, _, c', _, _, _, -, -, hf', -, -, -, hown2, -⟩ := Cond.laysFinal_spec hlay
    have e1 : c' = cf := by have := hi.symm.trans hf'; simp at this; exact this.1.symm
    rw [hdecl] at hown2
    rw [← e1]; exact Option.some.inj (hown.symm.trans hown2)
  have h6 := u_fits hfc hkC hkind (Or.inr hlay) hi (hty j hj) hn hfit
  refine W.putFinK hx hb hown hlink hi hst hcf hin2 (by rw [q2]; exact h6) q1 q3 (by rw [hsl]; exact k2_hasslot (q4 j hj)) rfl rfl hdg fun H' e1 e2 e3 => ?_
  rw [hsl] at e1 ⊢
  have hP1 := hP.set (wsOf_D (b := b)) he (e := .inr (ci, (vs.map (tv b)).set j (tv b v))) ⟨_, hc, t_OB.to (V := updV (vp_V (vs.map (tv b))) j (tv b v)) ⟨_, e1, q2, q3, t_set q4 hap hj (tv b v)⟩ (fun i _ => vp_updV_set hl (tv b v) i)⟩ e3
  rw [← List.map_set, ← trC_obj (b := b) (cy := cy) hci, wsOf_set] at hP1
  exact kk H' _ e2 hP1 (hS.put e2 e3 (Nat.le_add_right b k))
variable {t0 : Nat} {i x : Int32}
theorem gd_of {vs : List Value} {j : Nat} {v : Value} (h : vs[j]? = some v) : vs.getD j .null = v := by rw [List.getD_eq_getElem?_getD, h]; rfl
theorem h_iald (hx : p.tables.exec = Jvm.exec) (hb : c.code = cc) (hK : va_K D cl tys s) (hP : va_P D cl (wsOf b cy h) H) (ht : tys[t0]? = some (cy 100, .int)) (hg : gA h k 100 i = some (.int x)) (hdg : decode cc pc = .ok (.iaload, 1))
    (kk : W p l e R s m args below meth c H locs cells slots Q (F0 m (pc + 1) ls (.int x :: rest))) : W p l e R s m args below meth c H locs cells slots Q (F0 m pc ls (.int i :: .ref (b + k) :: rest)) := by
  obtain ⟨vs, g1, g2, g3⟩ := gA_spec hg
  have he := wsOf_get (b := b) (cy := cy) g1
  rw [trC_int] at he
  refine va_iald hx hb hK hP k t0 he ht g3 hdg ?_
  rw [gd_of g2]
  exact kk
theorem h_zald (hx : p.tables.exec = Jvm.exec) (hb : c.code = cc) (hK : va_K D cl tys s) (hP : va_P D cl (wsOf b cy h) H) (ht : tys[t0]? = some (cy 101, .boolean)) (hg : gA h k 101 i = some (.int x)) (hdg : decode cc pc = .ok (.baload, 1))
    (kk : W p l e R s m args below meth c H locs cells slots Q (F0 m (pc + 1) ls (.int x :: rest))) : W p l e R s m args below meth c H locs cells slots Q (F0 m pc ls (.int i :: .ref (b + k) :: rest)) := by
  obtain ⟨vs, g1, g2, g3⟩ := gA_spec hg
  have he := wsOf_get (b := b) (cy := cy) g1
  rw [trC_bool] at he
  refine va_zald hx hb hK hP k t0 he ht g3 hdg ?_
  rw [gd_of g2]
  exact kk
theorem h_lald {y : Int64} (hx : p.tables.exec = Jvm.exec) (hb : c.code = cc) (hK : va_K D cl tys s) (hP : va_P D cl (wsOf b cy h) H) (ht : tys[t0]? = some (cy 102, .long)) (hg : gA h k 102 i = some (.long y)) (hdg : decode cc pc = .ok (.laload, 1))
    (kk : W p l e R s m args below meth c H locs cells slots Q (F0 m (pc + 1) ls (.long y :: rest))) : W p l e R s m args below meth c H locs cells slots Q (F0 m pc ls (.int i :: .ref (b + k) :: rest)) := by
  obtain ⟨vs, g1, g2, g3⟩ := gA_spec hg
  have he := wsOf_get (b := b) (cy := cy) g1
  rw [trC_long] at he
  refine va_lald hx hb hK hP k t0 he ht g3 hdg ?_
  rw [gd_of g2]
  exact kk
theorem h_aald {t k1 : Nat} {ty : FieldType} (hx : p.tables.exec = Jvm.exec) (hb : c.code = cc) (hK : va_K D cl tys s) (hP : va_P D cl (wsOf b cy h) H) (ht : tys[t0]? = some (cy t, ty)) (hty : ty.isReference = true) (h102 : 102 < t) (hg : gA h k t i = some (.ref k1)) (hdg : decode cc pc = .ok (.aaload, 1))
    (kk : W p l e R s m args below meth c H locs cells slots Q (F0 m (pc + 1) ls (.ref (b + k1) :: rest))) : W p l e R s m args below meth c H locs cells slots Q (F0 m pc ls (.int i :: .ref (b + k) :: rest)) := by
  obtain ⟨vs, g1, g2, g3⟩ := gA_spec hg
  have he := wsOf_get (b := b) (cy := cy) g1
  rw [trC_ref h102] at he
  have hlt : i.toNatClampNeg < vs.length := Nat.not_le.mp fun q => g3 (Or.inr q)
  refine W.aald (v := .ref (b + k1)) (ty := ty) hx hb (hP k _ he) ((hK.2 t0 _ ht).1 vs.length (fun j => va_rf ((vr (vs.getD j .null)).map (fun k => b + k)))) hty (fun q => by cases q) (by show ¬ (i < 0 ∨ (arrV _ _ _).slots.size ≤ _); rw [arrV_size]; exact g3) (by show (arrV _ _ _).slots[_]? = _; rw [arrV_read _ _ hlt]; show some (va_rf ((vr (vs.getD i.toNatClampNeg .null)).map (fun k => b + k))) = _; rw [gd_of g2]; rfl) rfl rfl hdg kk
theorem h_alen {y : Int32} {t : Nat} {vs : List Value} {ty : FieldType} (hx : p.tables.exec = Jvm.exec) (hb : c.code = cc) (hK : va_K D cl tys s) (hP : va_P D cl (wsOf b cy h) H) (ht : tys[t0]? = some (cy t, ty)) (h100 : t = 100) (hg : h[k]? = some (t, vs)) (hy : Int32.ofNat vs.length = y) (hdg : decode cc pc = .ok (.arraylength, 1))
    (kk : W p l e R s m args below meth c H locs cells slots Q (F0 m (pc + 1) ls (.int y :: rest))) : W p l e R s m args below meth c H locs cells slots Q (F0 m pc ls (.ref (b + k) :: rest)) := by
  subst h100
  have he := wsOf_get (b := b) (cy := cy) hg
  rw [trC_int] at he
  exact va_alen hx hb hK hP k t0 he ht hy hdg kk
theorem h_iast (hx : p.tables.exec = Jvm.exec) (hb : c.code = cc) (hK : va_K D cl tys s) (hP : va_P D cl (wsOf b cy h) H) (hS : va_S (fun q => b ≤ q) s.heap H locs) (ht : tys[t0]? = some (cy 100, .int)) (hg : pA h k 100 i (.int x) = some h') (hdg : decode cc pc = .ok (.iastore, 1))
    (kk : ∀ (H1 : Heap) (locs1 : List Loc), H1.size = H.size → va_P D cl (wsOf b cy h') H1 → va_S (fun q => b ≤ q) s.heap H1 locs1 → W p l e R s m args below meth c H1 locs1 cells slots Q (F0 m (pc + 1) ls rest)) : W p l e R s m args below meth c H locs cells slots Q (F0 m pc ls (.int x :: .int i :: .ref (b + k) :: rest)) := by
  obtain ⟨vs, g1, g2, g3, rfl⟩ := pA_spec hg
  have he := wsOf_get (b := b) (cy := cy) g1
  rw [trC_int] at he
  refine W.iast hx hb (hP k _ he) ((hK.2 t0 _ ht).1 vs.length (fun j => .int (vi (vs.getD j .null)))) (fun q => by cases q) (by show ¬ (i < 0 ∨ (arrV _ _ _).slots.size ≤ _); rw [arrV_size]; exact g2) rfl rfl hdg fun H1 e1 z oq => ?_
  have hP1 := hP.set (wsOf_D (b := b)) he (e := trC b cy (100, vs.set i.toNatClampNeg (.int x))) (by
    rw [trC_int]
    show H1[b + k]? = some (vp_cell _ _)
    rw [e1, vp_cell_i, vp_cell_i, arrV_store, List.length_set]
    congr 2
    funext q
    have := congrFun (set_fn vi g3 (.int x)) q
    by_cases hq : q = i.toNatClampNeg
    · rw [if_pos hq] at this
      simp only [updV, if_pos hq, this]
      rfl
    · rw [if_neg hq] at this
      simp only [updV, if_neg hq, this]) oq
  rw [wsOf_set] at hP1
  exact kk H1 _ z hP1 (hS.put z oq (Nat.le_add_right b k))
theorem h_zast (hx : p.tables.exec = Jvm.exec) (hb : c.code = cc) (hK : va_K D cl tys s) (hP : va_P D cl (wsOf b cy h) H) (hS : va_S (fun q => b ≤ q) s.heap H locs) (ht : tys[t0]? = some (cy 101, .boolean)) (hg : pA h k 101 i (.int x) = some h') (h01 : x = 0 ∨ x = 1) (hdg : decode cc pc = .ok (.bastore, 1))
    (kk : ∀ (H1 : Heap) (locs1 : List Loc), va_P D cl (wsOf b cy h') H1 → va_S (fun q => b ≤ q) s.heap H1 locs1 → W p l e R s m args below meth c H1 locs1 cells slots Q (F0 m (pc + 1) ls rest)) : W p l e R s m args below meth c H locs cells slots Q (F0 m pc ls (.int x :: .int i :: .ref (b + k) :: rest)) := by
  obtain ⟨vs, g1, g2, g3, rfl⟩ := pA_spec hg
  have he := wsOf_get (b := b) (cy := cy) g1
  rw [trC_bool] at he
  refine va_zast hx hb hK hP (wsOf_D (b := b)) hS k t0 he ht g2 hdg fun H1 locs1 hP1 _ hS1 => kk H1 locs1 ?_ hS1
  have e : (cy 101, vs.length, Sum.inl (upd (fun j => vi (vs.getD j .null)) i.toNatClampNeg (vp_nar .boolean x))) = ((cy 101, (vs.set i.toNatClampNeg (.int x)).length, Sum.inl (fun j => vi ((vs.set i.toNatClampNeg (.int x)).getD j .null))) : ClassId × vp_A) := by
    have hnx : vp_nar .boolean x = x := by rcases h01 with rfl | rfl <;> rfl
    rw [List.length_set, set_fn vi g3 (.int x), hnx]
    rfl
  rw [e, ← trC_bool, wsOf_set] at hP1
  exact hP1
theorem h_last {y : Int64} (hx : p.tables.exec = Jvm.exec) (hb : c.code = cc) (hK : va_K D cl tys s) (hP : va_P D cl (wsOf b cy h) H) (hS : va_S (fun q => b ≤ q) s.heap H locs) (ht : tys[t0]? = some (cy 102, .long)) (hg : pA h k 102 i (.long y) = some h') (hdg : decode cc pc = .ok (.lastore, 1))
    (kk : ∀ (H1 : Heap) (locs1 : List Loc), va_P D cl (wsOf b cy h') H1 → va_S (fun q => b ≤ q) s.heap H1 locs1 → W p l e R s m args below meth c H1 locs1 cells slots Q (F0 m (pc + 1) ls rest)) : W p l e R s m args below meth c H locs cells slots Q (F0 m pc ls (.long y :: .int i :: .ref (b + k) :: rest)) := by
  obtain ⟨vs, g1, g2, g3, rfl⟩ := pA_spec hg
  have he := wsOf_get (b := b) (cy := cy) g1
  rw [trC_long] at he
  refine va_last hx hb hK hP (wsOf_D (b := b)) hS k t0 he ht g2 hdg fun H1 locs1 hP1 _ hS1 => kk H1 locs1 ?_ hS1
  have e : (cy 102, vs.length, Sum.inr (Sum.inl (vp_updL (fun j => vl (vs.getD j .null)) i.toNatClampNeg y))) = ((cy 102, (vs.set i.toNatClampNeg (.long y)).length, Sum.inr (Sum.inl (fun j => vl ((vs.set i.toNatClampNeg (.long y)).getD j .null)))) : ClassId × vp_A) := by
    rw [List.length_set, set_fn vl g3 (.long y)]
    rfl
  rw [e, ← trC_long, wsOf_set] at hP1
  exact hP1
theorem h_aast {t k1 : Nat} {vs1 : List Value} {r : vw_C} (hx : p.tables.exec = Jvm.exec) (hb : c.code = cc) (hK : va_K D cl tys s) (hP : va_P D cl (wsOf b cy h) H) (hS : va_S (fun q => b ≤ q) s.heap H locs) (ht : tys[t0]? = some (cy t, .object r.1)) (h102 : 102 < t) (hc : cl[ci]? = some r) (hci : ci < 100) (hv : h[k1]? = some (ci, vs1)) (hg : pA h k t i (.ref k1) = some h') (hdg : decode cc pc = .ok (.aastore, 1))
    (kk : ∀ (H1 : Heap) (locs1 : List Loc), H1.size = H.size → va_P D cl (wsOf b cy h') H1 → va_S (fun q => b ≤ q) s.heap H1 locs1 → W p l e R s m args below meth c H1 locs1 cells slots Q (F0 m (pc + 1) ls rest)) : W p l e R s m args below meth c H locs cells slots Q (F0 m pc ls (.ref (b + k1) :: .int i :: .ref (b + k) :: rest)) := by
  obtain ⟨vs, g1, g2, g3, rfl⟩ := pA_spec hg
  have he := wsOf_get (b := b) (cy := cy) g1
  have hev := wsOf_get (b := b) (cy := cy) hv
  rw [trC_ref h102] at he
  rw [trC_obj hci] at hev
  have h0 : ¬ i < 0 := fun q => g2 (Or.inl q)
  obtain ⟨r', hr', cellV, c1, c2, c3, -⟩ := hP k1 _ hev
  have hcls := (hK.1 ci r hc).2
  obtain ⟨kA, comp, j1, j2, j3, -⟩ := (hK.2 t0 _ ht).2
  have hcomp : comp = D.1 ci := Option.some.inj (j3.symm.trans hcls.1)
  subst hcomp
  obtain ⟨kC, hkC, -⟩ := hcls.2
  refine W.aast hx hb (hP k _ he) (fun q h => by cases h) (fun h => by cases h) j1 j2 rfl hkC ⟨h0, by show _ < (arrV _ _ _).slots.size; rw [arrV_size]; exact g3⟩ c1 (fun q h => by rw [c3] at h; cases h) (by rw [c2]; exact hkC) (by rw [c2]; exact va_assign hcls) rfl rfl hdg fun H1 e1 z oq => ?_
  have hP1 := hP.set (wsOf_D (b := b)) he (e := trC b cy (t, vs.set i.toNatClampNeg (.ref k1))) (by
    rw [trC_ref h102]
    show H1[b + k]? = some (vp_cell _ _)
    rw [e1, vp_cell_q, vp_cell_q, arrV_store, List.length_set]
    congr 2
    funext q
    have := congrFun (set_fn vr g3 (.ref k1)) q
    by_cases hq : q = i.toNatClampNeg
    · rw [if_pos hq] at this
      simp only [updV, if_pos hq, this]
      rfl
    · rw [if_neg hq] at this
      simp only [updV, if_neg hq, this]) oq
  rw [wsOf_set] at hP1
  exact kk H1 _ z hP1 (hS.put z oq (Nat.le_add_right b k))
theorem h_new {ty0 : Nat → FieldType} {vs : List Value} (hx : p.tables.exec = Jvm.exec) (hb : c.code = cc) (hts : ∀ w ∈ Ts, w.before args s = true) (hin : ∀ w ∈ u_ws C T N, w ∈ Ts) (hty : ∀ k, k < N → parseFieldDescriptor (T k).2.2.1 = some (ty0 k)) (hown : s.vm.findClass own = some m.cls) (hcl : (Cond.classLink own index C).before args s = true) (hinst : (Cond.instantiable C N).before args s = true) (hini : (Cond.initialized C).before args s = true)
    (hK : va_K D cl tys s) (hP : va_P D cl (wsOf b cy h) H) (hS : va_S (fun q => b ≤ q) s.heap H locs) (hc : cl[ci]? = some (C, T, N)) (hci : ci < 100) (hsz : H.size = b + h.length) (hfs : ∀ j, j < N → defaultValue (ty0 j) = vp_V (vs.map (tv b)) j) (hcells : cells + 1 ≤ R.cells) (hslots : slots + N ≤ R.slots) (hdg : decode cc pc = .ok (.new index, 3))
    (kk : ∀ (H1 : Heap), H1.size = b + (h ++ [(ci, vs)]).length → va_P D cl (wsOf b cy (h ++ [(ci, vs)])) H1 → va_S (fun q => b ≤ q) s.heap H1 locs →
      W p l e R s m args below meth c H1 locs (cells + 1) (slots + N) Q (F0 m (pc + 3) ls (.ref (b + h.length) :: rest))) : W p l e R s m args below meth c H locs cells slots Q (F0 m pc ls rest) := by
  have hKn := hK.1 ci _ hc
  refine W.newcK hx hb hown hcl hinst hini rfl hdg hcells hslots hKn.2.1 hsz fun H1 kC hkC e1 z1 o1 => ?_
  have hk : ∀ (k : Nat) (x : Nat × va_E), (wsOf b cy h)[k]? = some x → H1[x.1]? = H[x.1]? := fun k x hx => o1 x.1 (by rw [← hsz]; exact (hP k x hx).lt)
  have hP1 := (hP.kept hk).app (w2 := [(b + h.length, trC b cy (ci, vs))]) (fun k x hx => by
    have hz : k < 1 := (List.getElem?_eq_some_iff.mp hx).1
    rw [show k = 0 by omega] at hx
    cases hx
    rw [trC_obj hci]
    exact ⟨_, hc, (u_born ty0 hts hin hKn hkC e1 hty).to hfs⟩)
  rw [wsOf_push] at hP1
  exact kk H1 (by rw [z1, List.length_append]; rfl) hP1 ⟨Nat.le_trans hS.1 (by omega), fun x h1 h2 => (o1 x (by have := hS.1; omega)).trans (hS.2.1 x h1 h2), hS.2.2⟩
end MHEAP
