/-! one instruction -/
def ai_ret (st : List Value) (ok : Value → Bool) : Option ai_O := match st with
  | [v] => if ok v then some (.inr (.inr (.inl (some v)))) else none
  | _ => none
def ai_inc (i : Nat) (rv : Value) (nL pc : Nat) (lv : ai_L) (st : List Value) : Option ai_O := match lv.lookup i, rv with
  | some (.int x), .int k => if i < nL then ai_nx (pc + 3) (ai_st1 i (.int (x + k)) lv) st else none
  | _, _ => none
def ai_retok (ty : Option FieldType) (v : Value) : Bool := match ty, v with
  | some .int, .int _ => true
  | some .boolean, .int x => x == 0 || x == 1
  | some .byte, .int x => x.toInt8.toInt32 == x
  | some .char, .int x => x.toUInt32.toUInt16.toUInt32.toInt32 == x
  | _, _ => false
def ai_rtJ (ty : Option FieldType) : Bool := match ty with | some .long => true | _ => false
def ai_rtA (ty : Option FieldType) : Bool := match ty with | some (.object _) => true | some (.array _) => true | _ => false
def ai_sw (lo hi : Int) (dflt : Int) (offs : Array Int) (pc : Nat) (lv : ai_L) (st : List Value) : Option ai_O := match st with
  | .int x :: r => if x.toInt < lo ∨ hi < x.toInt then (if 0 ≤ (pc : Int) + dflt then ai_nx ((pc : Int) + dflt).toNat lv r else none) else match offs[(x.toInt - lo).toNat]? with
    | some off => if 0 ≤ (pc : Int) + off then ai_nx ((pc : Int) + off).toNat lv r else none
    | none => none
  | _ => none
def ai_inv (virt : Bool) (q : ai_I) (pc : Nat) (lv : ai_L) (st : List Value) (h : ai_H) : Option ai_O :=
  if st.length < q.r2 then none else if virt then (match (st.take q.r2).reverse with
    | .ref a :: _ => match h[a]? with
      | some (t, _, _) => if q.rv = .retAddr t then some (.inr (.inl (q.r1, (st.take q.r2).reverse, st.drop q.r2))) else none
      | none => none
    | _ => none) else some (.inr (.inl (q.r1, (st.take q.r2).reverse, st.drop q.r2)))
def ai_wt (st : List Value) : Nat := (st.map fun v => v.category).sum
/-- Math.min, max over int (5002, 5003), max over long (5004) -/
def ai_math (k d w pc : Nat) (lv : ai_L) (st : List Value) : Option ai_O := match st with
  | .int y :: .int x :: r => if 1 ≤ d ∧ ai_wt r + 13 ≤ w then (if k = 5002 then ai_nx (pc + 3) lv (.int (if y < x then y else x) :: r) else if k = 5003 then ai_nx (pc + 3) lv (.int (if x < y then y else x) :: r) else none) else none
  | .long y :: .long x :: r => if 1 ≤ d ∧ ai_wt r + 15 ≤ w ∧ k = 5004 then ai_nx (pc + 3) lv (.long (if y < x then x else y) :: r) else none
  | _ => none
def ai_ex (P : ai_P) (d w nL : Nat) (rt : Option FieldType) (q : ai_I) (pc : Nat) (lv : ai_L) (st : List Value) (h : ai_H) : Option ai_O := match q.ins with
  | .iconst _ => ai_nx (pc + 1) lv (q.rv :: st)
  | .bipush _ => ai_nx (pc + 2) lv (q.rv :: st)
  | .sipush _ => ai_nx (pc + 3) lv (q.rv :: st)
  | .lconst _ => ai_nx (pc + 1) lv (q.rv :: st)
  | .ldc _ => ai_nx (pc + 2) lv (q.rv :: st)
  | .ldc_w _ => ai_nx (pc + 3) lv (q.rv :: st)
  | .ldc2_w _ => ai_nx (pc + 3) lv (q.rv :: st)
  | .getstatic _ => ai_nx (pc + 3) lv (q.rv :: st)
  | .aconst_null => ai_nx (pc + 1) lv (.null :: st)
  | .iload i => ai_ld i ai_isI 2 pc lv st
  | .iload_n i => ai_ld i ai_isI 1 pc lv st
  | .lload i => ai_ld i ai_isJ 2 pc lv st
  | .lload_n i => ai_ld i ai_isJ 1 pc lv st
  | .aload i => ai_ld i ai_isA 2 pc lv st
  | .aload_n i => ai_ld i ai_isA 1 pc lv st
  | .istore i => ai_sto i ai_isI 2 nL pc lv st
  | .istore_n i => ai_sto i ai_isI 1 nL pc lv st
  | .astore i => ai_sto i ai_isA 2 nL pc lv st
  | .astore_n i => ai_sto i ai_isA 1 nL pc lv st
  | .lstore i => ai_stoL i 2 nL pc lv st
  | .lstore_n i => ai_stoL i 1 nL pc lv st
  | .iinc i _ => ai_inc i q.rv nL pc lv st
  | .iadd => ai_bin (fun x y => x + y) pc lv st
  | .isub => ai_bin (fun x y => x - y) pc lv st
  | .imul => ai_bin (fun x y => x * y) pc lv st
  | .iand => ai_bin (fun x y => x &&& y) pc lv st
  | .ior => ai_bin (fun x y => x ||| y) pc lv st
  | .ixor => ai_bin (fun x y => x ^^^ y) pc lv st
  | .ishl => ai_bin (fun x y => x <<< (y &&& 31)) pc lv st
  | .ishr => ai_bin (fun x y => x >>> (y &&& 31)) pc lv st
  | .iushr => ai_bin (fun x y => (x.toUInt32 >>> (y.toUInt32 &&& Int32.toUInt32 31)).toInt32) pc lv st
  | .ladd => ai_binL (fun x y => x + y) pc lv st
  | .lsub => ai_binL (fun x y => x - y) pc lv st
  | .lmul => ai_binL (fun x y => x * y) pc lv st
  | .land => ai_binL (fun x y => x &&& y) pc lv st
  | .lor => ai_binL (fun x y => x ||| y) pc lv st
  | .lxor => ai_binL (fun x y => x ^^^ y) pc lv st
  | .lshl => ai_binS (fun x y => x <<< (y.toInt64 &&& 63)) pc lv st
  | .lshr => ai_binS (fun x y => x >>> (y.toInt64 &&& 63)) pc lv st
  | .idiv => ai_div (fun x y => x / y) pc lv st
  | .irem => ai_div (fun x y => x - x / y * y) pc lv st
  | .i2b => ai_un (fun x => x.toInt8.toInt32) pc lv st
  | .i2c => ai_un (fun x => (x.toUInt32 % 65536).toInt32) pc lv st
  | .i2l => (match st with | .int x :: r => ai_nx (pc + 1) lv (.long x.toInt64 :: r) | _ => none)
  | .l2i => (match st with | .long x :: r => ai_nx (pc + 1) lv (.int x.toInt32 :: r) | _ => none)
  | .lcmp => (match st with | .long y :: .long x :: r => ai_nx (pc + 1) lv (.int (lg_cmp x y) :: r) | _ => none)
  | .dup => (match st with | v :: r => if v.category = 1 then ai_nx (pc + 1) lv (v :: v :: r) else none | _ => none)
  | .pop => (match st with | v :: r => if v.category = 1 then ai_nx (pc + 1) lv r else none | _ => none)
  | .dup2 => (match st with | v :: w :: r => if v.category = 1 ∧ w.category = 1 then ai_nx (pc + 1) lv (v :: w :: v :: w :: r) else none | _ => none)
  | .dup_x1 => (match st with | v :: w :: r => if v.category = 1 ∧ w.category = 1 then ai_nx (pc + 1) lv (v :: w :: v :: r) else none | _ => none)
  | .ifCond k _ => (match k with
    | .eq => ai_if (fun x => x == 0) q.r1 pc lv st
    | .ne => ai_if (fun x => !(x == 0)) q.r1 pc lv st
    | .lt => ai_if (fun x => decide (x < 0)) q.r1 pc lv st
    | .ge => ai_if (fun x => decide (0 ≤ x)) q.r1 pc lv st
    | .gt => ai_if (fun x => decide (0 < x)) q.r1 pc lv st
    | .le => ai_if (fun x => decide (x ≤ 0)) q.r1 pc lv st)
  | .if_icmp k _ => (match k with
    | .eq => ai_cmp (fun x y => x == y) q.r1 pc lv st
    | .ne => ai_cmp (fun x y => !(x == y)) q.r1 pc lv st
    | .lt => ai_cmp (fun x y => decide (x < y)) q.r1 pc lv st
    | .ge => ai_cmp (fun x y => decide (y ≤ x)) q.r1 pc lv st
    | .gt => ai_cmp (fun x y => decide (y < x)) q.r1 pc lv st
    | .le => ai_cmp (fun x y => decide (x ≤ y)) q.r1 pc lv st)
  | .ifnull _ => (match st with | .null :: r => ai_nx q.r1 lv r | .ref _ :: r => ai_nx (pc + 3) lv r | _ => none)
  | .ifnonnull _ => (match st with | .null :: r => ai_nx (pc + 3) lv r | .ref _ :: r => ai_nx q.r1 lv r | _ => none)
  | .goto _ => ai_nx q.r1 lv st
  | .tableswitch d lo hi offs => ai_sw lo hi d offs pc lv st
  | .getfield _ => ai_get q.r1 q.r2 pc lv st h
  | .putfield _ => ai_put (P.ty q.r1 q.r2) P.p0 q.r1 q.r2 pc lv st h
  | .new _ => if q.r2 = 9999 then some (.inr (.inr (.inr q.r1))) else ai_newo (P.ty q.r1) q.r1 q.r2 pc lv st h
  | .newarray t => ai_newa (newarray.typeOf t) q.r1 2 pc lv st h
  | .anewarray _ => ai_newa (.object (P.rc q.r1)) q.r1 3 pc lv st h
  | .iaload => ai_ald (fun t => t == 102) pc lv st h
  | .baload => ai_ald (fun t => t == 100 || t == 101) pc lv st h
  | .laload => ai_ald (fun t => t == 103) pc lv st h
  | .aaload => ai_ald (fun t => decide (110 ≤ t) && decide (t < 200)) pc lv st h
  | .iastore => ai_ast (fun t => t == 102) ai_narI P.p0 pc lv st h
  | .bastore => ai_ast (fun t => t == 100 || t == 101) ai_narB P.p0 pc lv st h
  | .lastore => ai_ast (fun t => t == 103) ai_narJ P.p0 pc lv st h
  | .arraylength => ai_len pc lv st h
  | .checkcast _ => (match st with | .null :: r => ai_nx (pc + 3) lv (.null :: r) | .ref a :: r => (match h[a]? with | some (t, _, _) => if t = q.r1 then ai_nx (pc + 3) lv (.ref a :: r) else none | none => none) | _ => none)
  | .invokestatic _ => if q.r1 = 5001 then ai_copy P.rc P.p0 d w pc lv st h else if 5002 ≤ q.r1 ∧ q.r1 ≤ 5004 then ai_math q.r1 d w pc lv st else ai_inv false q pc lv st h
  | .aastore => ai_ast (fun t => decide (110 ≤ t) && decide (t < 200)) (ai_narA P.ac h) P.p0 pc lv st h
  | .if_acmp k _ => (match k with
    | .eq => ai_acmp true P.p0 q.r1 pc lv st h
    | .ne => ai_acmp false P.p0 q.r1 pc lv st h)
  | .invokevirtual _ => ai_inv true q pc lv st h
  | .invokespecial _ => if q.r1 = 5000 then (match st with | .ref _ :: r => if 1 ≤ d ∧ 20 ≤ w ∧ ai_wt r ≤ 8 then ai_nx (pc + 3) lv r else none | _ => none) else (match (st.take q.r2).reverse with | .ref _ :: _ => ai_inv false q pc lv st h | _ => none)
  | .ireturn => ai_ret st (ai_retok rt)
  | .lreturn => ai_ret st (fun v => ai_isJ v && ai_rtJ rt)
  | .areturn => ai_ret st (fun v => ai_isA v && ai_rtA rt)
  | .return_ => (match st, rt with | [], none => some (.inr (.inr (.inl none))) | _, _ => none)
  | _ => none
