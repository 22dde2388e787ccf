/-! AN INTERPRETER over small numbers for addresses, and what ties it to the machine. -/
abbrev ai_C : Type := Nat × Nat × (Nat → Value)
abbrev ai_H : Type := List ai_C
abbrev ai_L : Type := List (Nat × Value)
abbrev ai_I : Type := Instr × Nat × Nat × Nat × Value
/-- a method: its name, its code, its variables, what it returns, its handlers (from, to, at, the entry, the exception's number) -/
abbrev ai_M : Type := MethodName × ByteArray × Nat × Option FieldType × List (Nat × Nat × Nat × Nat × Nat)
/-- a program: instructions, methods, the types of a class's fields, the classes of arrays' elements, how many cells were there before -/
abbrev ai_P : Type := (Nat → Nat → Option ai_I) × (Nat → ai_M) × (Nat → Nat → FieldType) × (Nat → String) × Nat × (Nat → Nat → Bool)
abbrev ai_P.tab (P : ai_P) : Nat → Nat → Option ai_I := P.1
abbrev ai_P.mth (P : ai_P) : Nat → ai_M := P.2.1
abbrev ai_P.ty (P : ai_P) : Nat → Nat → FieldType := P.2.2.1
abbrev ai_P.rc (P : ai_P) : Nat → String := P.2.2.2.1
abbrev ai_P.p0 (P : ai_P) : Nat := P.2.2.2.2.1
/-- which class may be stored into which arrays of references -/
abbrev ai_P.ac (P : ai_P) : Nat → Nat → Bool := P.2.2.2.2.2
abbrev ai_I.ins (q : ai_I) : Instr := q.1
abbrev ai_I.len (q : ai_I) : Nat := q.2.1
abbrev ai_I.r1 (q : ai_I) : Nat := q.2.2.1
abbrev ai_I.r2 (q : ai_I) : Nat := q.2.2.2.1
abbrev ai_I.rv (q : ai_I) : Value := q.2.2.2.2
abbrev ai_M.y (q : ai_M) : MethodName := q.1
abbrev ai_M.code (q : ai_M) : ByteArray := q.2.1
abbrev ai_M.maxL (q : ai_M) : Nat := q.2.2.1
abbrev ai_M.ret (q : ai_M) : Option FieldType := q.2.2.2.1
abbrev ai_M.hs (q : ai_M) : List (Nat × Nat × Nat × Nat × Nat) := q.2.2.2.2
/-- what a step does to the heap: nothing, one cell's contents anew, a new cell -/
abbrev ai_E : Type := Unit ⊕ (Nat × (Nat → Value)) ⊕ ai_C
abbrev ai_O : Type := (Nat × ai_L × List Value × ai_E) ⊕ (Nat × List Value × List Value) ⊕ (Option Value) ⊕ Nat
def ai_st1 (i : Nat) (v : Value) (lv : ai_L) : ai_L := (i, v) :: lv.filter (fun q => !(q.1 == i) && !(q.1 + 1 == i && q.2.category == 2))
def ai_st2 (i : Nat) (v : Value) (lv : ai_L) : ai_L := (i, v) :: lv.filter (fun q => !(q.1 == i) && (!(q.1 == i + 1) && !(q.1 + 1 == i && q.2.category == 2)))
def ai_app (h : ai_H) (x : ai_E) : ai_H := match x with
  | .inl _ => h
  | .inr (.inl (k, f)) => match h[k]? with
    | some c => h.set k (c.1, c.2.1, f)
    | none => h
  | .inr (.inr c) => h ++ [c]
def ai_nx (pc : Nat) (lv : ai_L) (st : List Value) : Option ai_O := some (.inl (pc, lv, st, .inl ()))
def ai_nxE (pc : Nat) (lv : ai_L) (st : List Value) (x : ai_E) : Option ai_O := some (.inl (pc, lv, st, x))
/-- the number of an array's kind, and its type -/
def ai_ty (rc : Nat → String) (t : Nat) : FieldType := if t = 100 then .byte else if t = 101 then .boolean else if t = 102 then .int else if t = 103 then .long else if t = 104 then .char else .object (rc t)
def ai_idx (j : Int32) (n : Nat) : Bool := decide (0 ≤ j.toInt) && decide (j.toInt < n)
def ai_bin (f : Int32 → Int32 → Int32) (pc : Nat) (lv : ai_L) (st : List Value) : Option ai_O := match st with
  | .int y :: .int x :: r => ai_nx (pc + 1) lv (.int (f x y) :: r)
  | _ => none
def ai_binL (f : Int64 → Int64 → Int64) (pc : Nat) (lv : ai_L) (st : List Value) : Option ai_O := match st with
  | .long y :: .long x :: r => ai_nx (pc + 1) lv (.long (f x y) :: r)
  | _ => none
def ai_binS (f : Int64 → Int32 → Int64) (pc : Nat) (lv : ai_L) (st : List Value) : Option ai_O := match st with
  | .int y :: .long x :: r => ai_nx (pc + 1) lv (.long (f x y) :: r)
  | _ => none
def ai_div (f : Int32 → Int32 → Int32) (pc : Nat) (lv : ai_L) (st : List Value) : Option ai_O := match st with
  | .int y :: .int x :: r => if y = 0 then none else ai_nx (pc + 1) lv (.int (f x y) :: r)
  | _ => none
def ai_un (f : Int32 → Int32) (pc : Nat) (lv : ai_L) (st : List Value) : Option ai_O := match st with
  | .int x :: r => ai_nx (pc + 1) lv (.int (f x) :: r)
  | _ => none
def ai_if (c : Int32 → Bool) (tgt pc : Nat) (lv : ai_L) (st : List Value) : Option ai_O := match st with
  | .int x :: r => if c x then ai_nx tgt lv r else ai_nx (pc + 3) lv r
  | _ => none
def ai_cmp (c : Int32 → Int32 → Bool) (tgt pc : Nat) (lv : ai_L) (st : List Value) : Option ai_O := match st with
  | .int y :: .int x :: r => if c x y then ai_nx tgt lv r else ai_nx (pc + 3) lv r
  | _ => none
def ai_ld (i : Nat) (ok : Value → Bool) (len pc : Nat) (lv : ai_L) (st : List Value) : Option ai_O := match lv.lookup i with
  | some v => if ok v then ai_nx (pc + len) lv (v :: st) else none
  | none => none
def ai_sto (i : Nat) (ok : Value → Bool) (len nL pc : Nat) (lv : ai_L) (st : List Value) : Option ai_O := match st with
  | v :: r => if ok v && decide (i < nL) then ai_nx (pc + len) (ai_st1 i v lv) r else none
  | _ => none
def ai_stoL (i : Nat) (len nL pc : Nat) (lv : ai_L) (st : List Value) : Option ai_O := match st with
  | .long v :: r => if i + 1 < nL then ai_nx (pc + len) (ai_st2 i (.long v) lv) r else none
  | _ => none
def ai_isI (v : Value) : Bool := match v with | .int _ => true | _ => false
def ai_isJ (v : Value) : Bool := match v with | .long _ => true | _ => false
def ai_isA (v : Value) : Bool := match v with | .ref _ => true | .null => true | _ => false
/-- an array's load and store -/
def ai_ald (ok : Nat → Bool) (pc : Nat) (lv : ai_L) (st : List Value) (h : ai_H) : Option ai_O := match st with
  | .int j :: .ref a :: r => match h[a]? with
    | some (t, n, f) => if ok t && ai_idx j n then ai_nx (pc + 1) lv (f j.toNatClampNeg :: r) else none
    | none => none
  | _ => none
def ai_ast (ok : Nat → Bool) (nar : Nat → Value → Option Value) (P0 pc : Nat) (lv : ai_L) (st : List Value) (h : ai_H) : Option ai_O := match st with
  | v :: .int j :: .ref a :: r => match h[a]? with
    | some (t, n, f) => match nar t v with
      | some w => if ok t && ai_idx j n && decide (P0 ≤ a) then ai_nxE (pc + 1) lv r (.inr (.inl (a, va_up f j.toNatClampNeg w))) else none
      | none => none
    | none => none
  | _ => none
def ai_narI (t : Nat) (v : Value) : Option Value := match v with | .int x => some (.int x) | _ => none
def ai_narB (t : Nat) (v : Value) : Option Value := match v with | .int x => if t = 100 then some (.int (vp_nar .byte x)) else some (.int (vp_nar .boolean x)) | _ => none
def ai_narJ (t : Nat) (v : Value) : Option Value := match v with | .long x => some (.long x) | _ => none
def ai_default (ty : FieldType) : Value := defaultValue ty
