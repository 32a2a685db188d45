/-! ===== the mini machine runs ===== -/
abbrev MO : Type := Option Value ⊕ Nat
def dflt (ci : Nat) : List Value := (List.range (clN ci)).map (fun j => defaultValue (clY ci j))
def okV (ty : Nat) (v : Value) : Bool := match ty, v with
  | 0, .int _ => true
  | 1, .int x => x == 0 || x == 1
  | 2, .ref _ => true
  | _, _ => false
def elT (t : Nat) : Nat := match t with
  | 103 => 4
  | 104 => 3
  | 105 => 0
  | _ => 99
abbrev MR : Type := List Value × MH × Nat × Nat
def sLdc (cls i : Nat) (st : List Value) (h : MH) (rc rs : Nat) : Option MR := match lk2 ldcL cls i with
  | some q => some (.int q.1 :: st, h, rc, rs)
  | none => none
def sGet (cls i : Nat) (st : List Value) (h : MH) (rc rs : Nat) : Option MR := match lk2 fldL cls i, st with
  | some q, .ref k :: st => match gF h k q.1.1 q.1.2.1 with
    | some v => some (v :: st, h, rc, rs)
    | none => none
  | _, _ => none
def sPut (ini : Bool) (cls i : Nat) (st : List Value) (h : MH) (rc rs : Nat) : Option MR := match lk2 fldL cls i, st with
  | some q, v :: .ref k :: st => bif okV q.1.2.2.1 v && (!q.1.2.2.2 || (ini && cls == q.1.1)) then
      match pF h k q.1.1 q.1.2.1 v with
      | some h' => some (st, h', rc, rs)
      | none => none
    else none
  | _, _ => none
def sIal (st : List Value) (h : MH) (rc rs : Nat) : Option MR := match st with
  | .int i :: .ref k :: st => match gA h k 100 i with
    | some (.int x) => some (.int x :: st, h, rc, rs)
    | _ => none
  | _ => none
def sZal (st : List Value) (h : MH) (rc rs : Nat) : Option MR := match st with
  | .int i :: .ref k :: st => match gA h k 101 i with
    | some (.int x) => some (.int x :: st, h, rc, rs)
    | _ => none
  | _ => none
def sLal (st : List Value) (h : MH) (rc rs : Nat) : Option MR := match st with
  | .int i :: .ref k :: st => match gA h k 102 i with
    | some (.long x) => some (.long x :: st, h, rc, rs)
    | _ => none
  | _ => none
def gT (h : MH) (k : Nat) : Nat := match h[k]? with
  | some c => c.1
  | none => 999
def tyAt (t : Nat) : Bool := t == 103 || t == 104 || t == 105 || t == 106
def sAal (st : List Value) (h : MH) (rc rs : Nat) : Option MR := match st with
  | .int i :: .ref k :: st => bif tyAt (gT h k) then match gA h k (gT h k) i with
      | some (.ref x) => some (.ref x :: st, h, rc, rs)
      | _ => none
    else none
  | _ => none
def sIas (st : List Value) (h : MH) (rc rs : Nat) : Option MR := match st with
  | .int x :: .int i :: .ref k :: st => match pA h k 100 i (.int x) with
    | some h' => some (st, h', rc, rs)
    | none => none
  | _ => none
def sZas (st : List Value) (h : MH) (rc rs : Nat) : Option MR := match st with
  | .int x :: .int i :: .ref k :: st => bif x == 0 || x == 1 then match pA h k 101 i (.int x) with
      | some h' => some (st, h', rc, rs)
      | none => none
    else none
  | _ => none
def sLas (st : List Value) (h : MH) (rc rs : Nat) : Option MR := match st with
  | .long x :: .int i :: .ref k :: st => match pA h k 102 i (.long x) with
    | some h' => some (st, h', rc, rs)
    | none => none
  | _ => none
def sAas (st : List Value) (h : MH) (rc rs : Nat) : Option MR := match st with
  | .ref x :: .int i :: .ref k :: st => bif Nat.blt 102 (gT h k) && (Nat.blt (gT h k) 106 && gT h x == elT (gT h k)) then match pA h k (gT h k) i (.ref x) with
      | some h' => some (st, h', rc, rs)
      | none => none
    else none
  | _ => none
def sLen (st : List Value) (h : MH) (rc rs : Nat) : Option MR := match st with
  | .ref k :: st => match h[k]? with
    | some c => bif c.1 == 100 then some (.int (Int32.ofNat c.2.length) :: st, h, rc, rs) else none
    | none => none
  | _ => none
def sNew (cls i : Nat) (st : List Value) (h : MH) (rc rs : Nat) : Option MR := match lk2 newL cls i with
  | some q => bif Nat.ble 1 rc && Nat.ble (clN q.1) rs then some (.ref h.length :: st, h ++ [(q.1, dflt q.1)], rc - 1, rs - clN q.1) else none
  | none => none
def sNarr (t : ArrayType) (st : List Value) (h : MH) (rc rs : Nat) : Option MR := match st with
  | .int n :: st => bif !(decide (n < 0)) && (Nat.ble n.toNatClampNeg 100000 && (Nat.ble 1 rc && Nat.ble n.toNatClampNeg rs)) then
      match t with
      | .int => some (.ref h.length :: st, h ++ [(100, List.replicate n.toNatClampNeg (.int 0))], rc - 1, rs - n.toNatClampNeg)
      | .boolean => some (.ref h.length :: st, h ++ [(101, List.replicate n.toNatClampNeg (.int 0))], rc - 1, rs - n.toNatClampNeg)
      | _ => none
    else none
  | _ => none
def sArr (cls i : Nat) (st : List Value) (h : MH) (rc rs : Nat) : Option MR := match lk2 arrL cls i, st with
  | some q, .int n :: st => bif !(decide (n < 0)) && (Nat.ble n.toNatClampNeg 100000 && (Nat.ble 1 rc && (Nat.ble n.toNatClampNeg rs && Nat.blt q.1 106))) then
      some (.ref h.length :: st, h ++ [(q.1, List.replicate n.toNatClampNeg .null)], rc - 1, rs - n.toNatClampNeg)
    else none
  | _, _ => none
def sMul (cls i d : Nat) (st : List Value) (h : MH) (rc rs : Nat) : Option MR := match lk2 arrL cls i, st with
  | some q, .int k :: .int n :: st => bif (d == 2 && q.1 == 106) && ((!(decide (n < 0)) && (Nat.ble n.toNatClampNeg 100000 && !(decide (k < 0)))) && (Nat.ble k.toNatClampNeg 100000 && (Nat.ble (1 + n.toNatClampNeg) rc && Nat.ble (n.toNatClampNeg + n.toNatClampNeg * k.toNatClampNeg) rs))) then
      some (.ref h.length :: st, h ++ gridC 106 n.toNatClampNeg k.toNatClampNeg h.length, rc - 1 - n.toNatClampNeg, rs - n.toNatClampNeg - n.toNatClampNeg * k.toNatClampNeg)
    else none
  | _, _ => none
def sObj (mi i : Nat) (st : List Value) (h : MH) (rc rs : Nat) : Option MR := match lk2 objL (mCls mi) i, st with
  | some _, [.ref _] => bif Nat.ble 1 (mHt mi) && Nat.ble 12 (mLo mi) then some ([], h, rc, rs) else none
  | _, _ => none
def sMax (mi i : Nat) (st : List Value) (h : MH) (rc rs : Nat) : Option MR := match lk2 maxL (mCls mi) i, st with
  | some _, .int y :: .int x :: st => bif (Nat.ble 1 (mHt mi) && Nat.ble 21 (mLo mi)) && Nat.ble (st.map fun v => v.category).sum 8 then some (.int (if x < y then y else x) :: st, h, rc, rs) else none
  | _, _ => none
def stepH (mi : Nat) (al : Bool) (rc rs : Nat) (E : ME) (st : List Value) (h : MH) : Option MR := match E.1 with
  | .ldc i => sLdc (mCls mi) i st h rc rs
  | .ldc_w i => sLdc (mCls mi) i st h rc rs
  | .getfield i => sGet (mCls mi) i st h rc rs
  | .putfield i => sPut (mIni mi) (mCls mi) i st h rc rs
  | .iaload => sIal st h rc rs
  | .baload => sZal st h rc rs
  | .aaload => sAal st h rc rs
  | .iastore => sIas st h rc rs
  | .bastore => bif al then none else sZas st h rc rs
  | .aastore => sAas st h rc rs
  | .arraylength => sLen st h rc rs
  | .new i => bif al then sNew (mCls mi) i st h rc rs else none
  | .newarray t => bif al then sNarr t st h rc rs else none
  | .anewarray i => bif al then sArr (mCls mi) i st h rc rs else none
  | .multianewarray i d => bif al then sMul (mCls mi) i d st h rc rs else none
  | .invokespecial i => sObj mi i st h rc rs
  | .invokestatic i => sMax mi i st h rc rs
  | _ => none
/-- the receiver, under n - 1 arguments, is an object of class t -/
def rcv (n : Nat) (st : List Value) (h : MH) (t : Nat) : Bool := match n with
  | 0 => false
  | n + 1 => match st[n]? with
    | some (.ref k) => match h[k]? with
      | some c => c.1 == t
      | none => false
    | _ => false
def callP (op cls i : Nat) (st : List Value) (h : MH) : Option (Nat × List Value × List Value) := match lk2 calL cls i with
  | some q => bif (q.1.2 % 3 == op && (Nat.ble (mNA q.1.1) st.length && (op == 0 || rcv (mNA q.1.1) st h (mCls q.1.1)))) && ((q.1.2 == 0 || (mHh q.1.1).isEmpty) && (Nat.ble (mNA q.1.1) (mNL q.1.1) && ((st.take (mNA q.1.1)).all (fun v => v.category == 1) && Nat.ble ((st.drop (mNA q.1.1)).map fun v => v.category).sum 8))) then some (q.1.1, (st.take (mNA q.1.1)).reverse, st.drop (mNA q.1.1)) else none
  | none => none
def stepC (cls : Nat) (E : ME) (st : List Value) (h : MH) : Option (Nat × List Value × List Value) := match E.1 with
  | .invokestatic i => callP 0 cls i st h
  | .invokevirtual i => callP 1 cls i st h
  | .invokespecial i => callP 2 cls i st h
  | _ => none
def stepR (mi pc rc rs : Nat) (al : Bool) (E : ME) (st : List Value) : Option MO := match E.1 with
  | .return_ => match st, mRt mi with
    | [], none => some (.inl none)
    | _, _ => none
  | .ireturn => match st, mRt mi with
    | [.int v], some .int => some (.inl (some (.int v)))
    | [.int v], some .boolean => bif v == 0 || v == 1 then some (.inl (some (.int v))) else none
    | _, _ => none
  | .new _ => match st, lk2 thrL mi pc with
    | [], some q => bif (!al && (Nat.ble 1 rc && Nat.ble 6 rs)) && (Nat.ble 6 (mHt mi) && (Nat.ble 82 (mLo mi) && (mHh mi).isEmpty)) then some (.inr q.1.1) else none
    | _, _ => none
  | _ => none
def rmOk (mi mj rc rs : Nat) : Bool := (Nat.ble (mHt mj + 1) (mHt mi) && Nat.ble (19 + mNL mj + mLo mj) (mLo mi)) && (Nat.ble (mMc mj) rc && Nat.ble (mMs mj) rs)
def run : Nat → Nat → Nat → Nat → Bool → Nat → ML → List Value → MH → Option (MO × MH)
  | 0, _, _, _, _, _, _, _, _ => none
  | n + 1, mi, rc, rs, al, pc, l, st, h => match mEnt mi pc with
    | none => none
    | some E => match stepP (mNL mi) E l st with
      | some q => run n mi rc rs al q.1 q.2.1 q.2.2 h
      | none => match stepH mi al rc rs E st h with
        | some q => run n mi q.2.2.1 q.2.2.2 al E.2.1 l q.1 q.2.1
        | none => match stepC (mCls mi) E st h with
          | some q => bif rmOk mi q.1 rc rs then match run n q.1 (mMc q.1) (mMs q.1) al 0 (lv_args 0 q.2.1) [] h with
              | some (.inl v, h1) => run n mi (rc - mMc q.1) (rs - mMs q.1) al E.2.1 l (v.toList ++ q.2.2) h1
              | some (.inr x, h1) => match mHh mi with
                | [] => some (.inr x, h1)
                | _ :: _ => match lk2 hanL mi x with
                  | some v => bif !al && (mHh mi).all (fun r => Nat.ble r.1 pc && Nat.blt pc r.2.1) then some (.inl (some (.int v.2.2.2.1)), h1) else none
                  | none => none
              | none => none
            else none
          | none => match stepR mi pc rc rs al E st with
            | some o => some (o, h)
            | none => none
