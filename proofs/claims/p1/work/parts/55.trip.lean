/-! runs with what holds at their end; made by wip/tools/trip.py -/
def aW (P : ai_P) (mid d w pc : Nat) (lv : ai_L) (st : List Value) (h : ai_H) (Q : (Option Value ⊕ Nat) → ai_H → Prop) : Prop := ∃ o h', ai_Runs P mid d w pc lv st h (o, h') ∧ Q o h'
section TRIP
variable {P : ai_P} {mid d w pc len r1 r2 : Nat} {rv : Value} {lv : ai_L} {st : List Value} {h : ai_H} {Q : (Option Value ⊕ Nat) → ai_H → Prop}
theorem aW_of {o : Option Value ⊕ Nat} {h' : ai_H} (C : ai_Runs P mid d w pc lv st h (o, h')) (q : Q o h') : aW P mid d w pc lv st h Q := ⟨o, h', C, q⟩
theorem aW_mono {R : (Option Value ⊕ Nat) → ai_H → Prop} (C : aW P mid d w pc lv st h R) (k : ∀ o h', R o h' → Q o h') : aW P mid d w pc lv st h Q := by
  obtain ⟨o, h', C, q⟩ := C
  exact ⟨o, h', C, k o h' q⟩
theorem aW_lv {l m : ai_L} (k : aW P mid d w pc l st h Q) (h1 : ndB (l.map Prod.fst) = true) (h2 : ndB (m.map Prod.fst) = true) (hi : inL m l) : aW P mid d w pc m st h Q := by
  obtain ⟨o, h', C, q⟩ := k
  exact ⟨o, h', lvS' C h1 h2 hi, q⟩
theorem q_iconst {z : Int} (ht : P.tab mid pc = some (.iconst z, len, r1, r2, rv)) (K : aW P mid d w (pc + 1) lv (rv :: st) h Q) : aW P mid d w pc lv st h Q := by obtain ⟨o, hZ, K, q⟩ := K; exact ⟨o, hZ, r_iconst ht K, q⟩
theorem q_bipush {z : Int} (ht : P.tab mid pc = some (.bipush z, len, r1, r2, rv)) (K : aW P mid d w (pc + 2) lv (rv :: st) h Q) : aW P mid d w pc lv st h Q := by obtain ⟨o, hZ, K, q⟩ := K; exact ⟨o, hZ, r_bipush ht K, q⟩
theorem q_sipush {z : Int} (ht : P.tab mid pc = some (.sipush z, len, r1, r2, rv)) (K : aW P mid d w (pc + 3) lv (rv :: st) h Q) : aW P mid d w pc lv st h Q := by obtain ⟨o, hZ, K, q⟩ := K; exact ⟨o, hZ, r_sipush ht K, q⟩
theorem q_lconst {z : Fin 2} (ht : P.tab mid pc = some (.lconst z, len, r1, r2, rv)) (K : aW P mid d w (pc + 1) lv (rv :: st) h Q) : aW P mid d w pc lv st h Q := by obtain ⟨o, hZ, K, q⟩ := K; exact ⟨o, hZ, r_lconst ht K, q⟩
theorem q_ldc {z : Nat} (ht : P.tab mid pc = some (.ldc z, len, r1, r2, rv)) (K : aW P mid d w (pc + 2) lv (rv :: st) h Q) : aW P mid d w pc lv st h Q := by obtain ⟨o, hZ, K, q⟩ := K; exact ⟨o, hZ, r_ldc ht K, q⟩
theorem q_ldc_w {z : Nat} (ht : P.tab mid pc = some (.ldc_w z, len, r1, r2, rv)) (K : aW P mid d w (pc + 3) lv (rv :: st) h Q) : aW P mid d w pc lv st h Q := by obtain ⟨o, hZ, K, q⟩ := K; exact ⟨o, hZ, r_ldc_w ht K, q⟩
theorem q_ldc2_w {z : Nat} (ht : P.tab mid pc = some (.ldc2_w z, len, r1, r2, rv)) (K : aW P mid d w (pc + 3) lv (rv :: st) h Q) : aW P mid d w pc lv st h Q := by obtain ⟨o, hZ, K, q⟩ := K; exact ⟨o, hZ, r_ldc2_w ht K, q⟩
theorem q_getstatic {z : Nat} (ht : P.tab mid pc = some (.getstatic z, len, r1, r2, rv)) (K : aW P mid d w (pc + 3) lv (rv :: st) h Q) : aW P mid d w pc lv st h Q := by obtain ⟨o, hZ, K, q⟩ := K; exact ⟨o, hZ, r_getstatic ht K, q⟩
theorem q_null (ht : P.tab mid pc = some (.aconst_null, len, r1, r2, rv)) (K : aW P mid d w (pc + 1) lv (.null :: st) h Q) : aW P mid d w pc lv st h Q := by obtain ⟨o, hZ, K, q⟩ := K; exact ⟨o, hZ, r_null ht K, q⟩
theorem q_iload {i : Nat} {x : Int32} (ht : P.tab mid pc = some (.iload i, len, r1, r2, rv)) (hl : lv.lookup i = some (.int x)) (K : aW P mid d w (pc + 2) lv (.int x :: st) h Q) : aW P mid d w pc lv st h Q := by obtain ⟨o, hZ, K, q⟩ := K; exact ⟨o, hZ, r_iload ht hl K, q⟩
theorem q_iload_n {i : Fin 4} {x : Int32} (ht : P.tab mid pc = some (.iload_n i, len, r1, r2, rv)) (hl : lv.lookup (i : Nat) = some (.int x)) (K : aW P mid d w (pc + 1) lv (.int x :: st) h Q) : aW P mid d w pc lv st h Q := by obtain ⟨o, hZ, K, q⟩ := K; exact ⟨o, hZ, r_iload_n ht hl K, q⟩
theorem q_lload {i : Nat} {x : Int64} (ht : P.tab mid pc = some (.lload i, len, r1, r2, rv)) (hl : lv.lookup i = some (.long x)) (K : aW P mid d w (pc + 2) lv (.long x :: st) h Q) : aW P mid d w pc lv st h Q := by obtain ⟨o, hZ, K, q⟩ := K; exact ⟨o, hZ, r_lload ht hl K, q⟩
theorem q_lload_n {i : Fin 4} {x : Int64} (ht : P.tab mid pc = some (.lload_n i, len, r1, r2, rv)) (hl : lv.lookup (i : Nat) = some (.long x)) (K : aW P mid d w (pc + 1) lv (.long x :: st) h Q) : aW P mid d w pc lv st h Q := by obtain ⟨o, hZ, K, q⟩ := K; exact ⟨o, hZ, r_lload_n ht hl K, q⟩
theorem q_aload {i : Nat} {x : Nat} (ht : P.tab mid pc = some (.aload i, len, r1, r2, rv)) (hl : lv.lookup i = some (.ref x)) (K : aW P mid d w (pc + 2) lv (.ref x :: st) h Q) : aW P mid d w pc lv st h Q := by obtain ⟨o, hZ, K, q⟩ := K; exact ⟨o, hZ, r_aload ht hl K, q⟩
theorem q_aload_n {i : Fin 4} {x : Nat} (ht : P.tab mid pc = some (.aload_n i, len, r1, r2, rv)) (hl : lv.lookup (i : Nat) = some (.ref x)) (K : aW P mid d w (pc + 1) lv (.ref x :: st) h Q) : aW P mid d w pc lv st h Q := by obtain ⟨o, hZ, K, q⟩ := K; exact ⟨o, hZ, r_aload_n ht hl K, q⟩
theorem q_aloadN {i : Nat} (ht : P.tab mid pc = some (.aload i, len, r1, r2, rv)) (hl : lv.lookup i = some .null) (K : aW P mid d w (pc + 2) lv (.null :: st) h Q) : aW P mid d w pc lv st h Q := by obtain ⟨o, hZ, K, q⟩ := K; exact ⟨o, hZ, r_aloadN ht hl K, q⟩
theorem q_aload_nN {i : Fin 4} (ht : P.tab mid pc = some (.aload_n i, len, r1, r2, rv)) (hl : lv.lookup (i : Nat) = some .null) (K : aW P mid d w (pc + 1) lv (.null :: st) h Q) : aW P mid d w pc lv st h Q := by obtain ⟨o, hZ, K, q⟩ := K; exact ⟨o, hZ, r_aload_nN ht hl K, q⟩
theorem q_istore {i : Nat} {x : Int32} (ht : P.tab mid pc = some (.istore i, len, r1, r2, rv)) (hn : i < (P.mth mid).maxL) (K : aW P mid d w (pc + 2) (ai_st1 i (.int x) lv) st h Q) : aW P mid d w pc lv (.int x :: st) h Q := by obtain ⟨o, hZ, K, q⟩ := K; exact ⟨o, hZ, r_istore ht hn K, q⟩
theorem q_istore_n {i : Fin 4} {x : Int32} (ht : P.tab mid pc = some (.istore_n i, len, r1, r2, rv)) (hn : (i : Nat) < (P.mth mid).maxL) (K : aW P mid d w (pc + 1) (ai_st1 (i : Nat) (.int x) lv) st h Q) : aW P mid d w pc lv (.int x :: st) h Q := by obtain ⟨o, hZ, K, q⟩ := K; exact ⟨o, hZ, r_istore_n ht hn K, q⟩
theorem q_astore {i : Nat} {x : Nat} (ht : P.tab mid pc = some (.astore i, len, r1, r2, rv)) (hn : i < (P.mth mid).maxL) (K : aW P mid d w (pc + 2) (ai_st1 i (.ref x) lv) st h Q) : aW P mid d w pc lv (.ref x :: st) h Q := by obtain ⟨o, hZ, K, q⟩ := K; exact ⟨o, hZ, r_astore ht hn K, q⟩
theorem q_astore_n {i : Fin 4} {x : Nat} (ht : P.tab mid pc = some (.astore_n i, len, r1, r2, rv)) (hn : (i : Nat) < (P.mth mid).maxL) (K : aW P mid d w (pc + 1) (ai_st1 (i : Nat) (.ref x) lv) st h Q) : aW P mid d w pc lv (.ref x :: st) h Q := by obtain ⟨o, hZ, K, q⟩ := K; exact ⟨o, hZ, r_astore_n ht hn K, q⟩
theorem q_astoreN {i : Nat} (ht : P.tab mid pc = some (.astore i, len, r1, r2, rv)) (hn : i < (P.mth mid).maxL) (K : aW P mid d w (pc + 2) (ai_st1 i .null lv) st h Q) : aW P mid d w pc lv (.null :: st) h Q := by obtain ⟨o, hZ, K, q⟩ := K; exact ⟨o, hZ, r_astoreN ht hn K, q⟩
theorem q_astore_nN {i : Fin 4} (ht : P.tab mid pc = some (.astore_n i, len, r1, r2, rv)) (hn : (i : Nat) < (P.mth mid).maxL) (K : aW P mid d w (pc + 1) (ai_st1 (i : Nat) .null lv) st h Q) : aW P mid d w pc lv (.null :: st) h Q := by obtain ⟨o, hZ, K, q⟩ := K; exact ⟨o, hZ, r_astore_nN ht hn K, q⟩
theorem q_lstore {i : Nat} {x : Int64} (ht : P.tab mid pc = some (.lstore i, len, r1, r2, rv)) (hn : i + 1 < (P.mth mid).maxL) (K : aW P mid d w (pc + 2) (ai_st2 i (.long x) lv) st h Q) : aW P mid d w pc lv (.long x :: st) h Q := by obtain ⟨o, hZ, K, q⟩ := K; exact ⟨o, hZ, r_lstore ht hn K, q⟩
theorem q_lstore_n {i : Fin 4} {x : Int64} (ht : P.tab mid pc = some (.lstore_n i, len, r1, r2, rv)) (hn : (i : Nat) + 1 < (P.mth mid).maxL) (K : aW P mid d w (pc + 1) (ai_st2 (i : Nat) (.long x) lv) st h Q) : aW P mid d w pc lv (.long x :: st) h Q := by obtain ⟨o, hZ, K, q⟩ := K; exact ⟨o, hZ, r_lstore_n ht hn K, q⟩
theorem q_iinc {i : Nat} {z : Int} {x k : Int32} (ht : P.tab mid pc = some (.iinc i z, len, r1, r2, .int k)) (hl : lv.lookup i = some (.int x)) (hn : i < (P.mth mid).maxL) (K : aW P mid d w (pc + 3) (ai_st1 i (.int (x + k)) lv) st h Q) : aW P mid d w pc lv st h Q := by obtain ⟨o, hZ, K, q⟩ := K; exact ⟨o, hZ, r_iinc ht hl hn K, q⟩
theorem q_iadd {x y : Int32} (ht : P.tab mid pc = some (.iadd, len, r1, r2, rv)) (K : aW P mid d w (pc + 1) lv (.int (x + y) :: st) h Q) : aW P mid d w pc lv (.int y :: .int x :: st) h Q := by obtain ⟨o, hZ, K, q⟩ := K; exact ⟨o, hZ, r_iadd ht K, q⟩
theorem q_isub {x y : Int32} (ht : P.tab mid pc = some (.isub, len, r1, r2, rv)) (K : aW P mid d w (pc + 1) lv (.int (x - y) :: st) h Q) : aW P mid d w pc lv (.int y :: .int x :: st) h Q := by obtain ⟨o, hZ, K, q⟩ := K; exact ⟨o, hZ, r_isub ht K, q⟩
theorem q_imul {x y : Int32} (ht : P.tab mid pc = some (.imul, len, r1, r2, rv)) (K : aW P mid d w (pc + 1) lv (.int (x * y) :: st) h Q) : aW P mid d w pc lv (.int y :: .int x :: st) h Q := by obtain ⟨o, hZ, K, q⟩ := K; exact ⟨o, hZ, r_imul ht K, q⟩
theorem q_iand {x y : Int32} (ht : P.tab mid pc = some (.iand, len, r1, r2, rv)) (K : aW P mid d w (pc + 1) lv (.int (x &&& y) :: st) h Q) : aW P mid d w pc lv (.int y :: .int x :: st) h Q := by obtain ⟨o, hZ, K, q⟩ := K; exact ⟨o, hZ, r_iand ht K, q⟩
theorem q_ior {x y : Int32} (ht : P.tab mid pc = some (.ior, len, r1, r2, rv)) (K : aW P mid d w (pc + 1) lv (.int (x ||| y) :: st) h Q) : aW P mid d w pc lv (.int y :: .int x :: st) h Q := by obtain ⟨o, hZ, K, q⟩ := K; exact ⟨o, hZ, r_ior ht K, q⟩
theorem q_ixor {x y : Int32} (ht : P.tab mid pc = some (.ixor, len, r1, r2, rv)) (K : aW P mid d w (pc + 1) lv (.int (x ^^^ y) :: st) h Q) : aW P mid d w pc lv (.int y :: .int x :: st) h Q := by obtain ⟨o, hZ, K, q⟩ := K; exact ⟨o, hZ, r_ixor ht K, q⟩
theorem q_ishl {x y : Int32} (ht : P.tab mid pc = some (.ishl, len, r1, r2, rv)) (K : aW P mid d w (pc + 1) lv (.int (x <<< (y &&& 31)) :: st) h Q) : aW P mid d w pc lv (.int y :: .int x :: st) h Q := by obtain ⟨o, hZ, K, q⟩ := K; exact ⟨o, hZ, r_ishl ht K, q⟩
theorem q_ishr {x y : Int32} (ht : P.tab mid pc = some (.ishr, len, r1, r2, rv)) (K : aW P mid d w (pc + 1) lv (.int (x >>> (y &&& 31)) :: st) h Q) : aW P mid d w pc lv (.int y :: .int x :: st) h Q := by obtain ⟨o, hZ, K, q⟩ := K; exact ⟨o, hZ, r_ishr ht K, q⟩
theorem q_iushr {x y : Int32} (ht : P.tab mid pc = some (.iushr, len, r1, r2, rv)) (K : aW P mid d w (pc + 1) lv (.int ((x.toUInt32 >>> (y.toUInt32 &&& Int32.toUInt32 31)).toInt32) :: st) h Q) : aW P mid d w pc lv (.int y :: .int x :: st) h Q := by obtain ⟨o, hZ, K, q⟩ := K; exact ⟨o, hZ, r_iushr ht K, q⟩
theorem q_ladd {x y : Int64} (ht : P.tab mid pc = some (.ladd, len, r1, r2, rv)) (K : aW P mid d w (pc + 1) lv (.long (x + y) :: st) h Q) : aW P mid d w pc lv (.long y :: .long x :: st) h Q := by obtain ⟨o, hZ, K, q⟩ := K; exact ⟨o, hZ, r_ladd ht K, q⟩
theorem q_lsub {x y : Int64} (ht : P.tab mid pc = some (.lsub, len, r1, r2, rv)) (K : aW P mid d w (pc + 1) lv (.long (x - y) :: st) h Q) : aW P mid d w pc lv (.long y :: .long x :: st) h Q := by obtain ⟨o, hZ, K, q⟩ := K; exact ⟨o, hZ, r_lsub ht K, q⟩
theorem q_lmul {x y : Int64} (ht : P.tab mid pc = some (.lmul, len, r1, r2, rv)) (K : aW P mid d w (pc + 1) lv (.long (x * y) :: st) h Q) : aW P mid d w pc lv (.long y :: .long x :: st) h Q := by obtain ⟨o, hZ, K, q⟩ := K; exact ⟨o, hZ, r_lmul ht K, q⟩
theorem q_land {x y : Int64} (ht : P.tab mid pc = some (.land, len, r1, r2, rv)) (K : aW P mid d w (pc + 1) lv (.long (x &&& y) :: st) h Q) : aW P mid d w pc lv (.long y :: .long x :: st) h Q := by obtain ⟨o, hZ, K, q⟩ := K; exact ⟨o, hZ, r_land ht K, q⟩
theorem q_lor {x y : Int64} (ht : P.tab mid pc = some (.lor, len, r1, r2, rv)) (K : aW P mid d w (pc + 1) lv (.long (x ||| y) :: st) h Q) : aW P mid d w pc lv (.long y :: .long x :: st) h Q := by obtain ⟨o, hZ, K, q⟩ := K; exact ⟨o, hZ, r_lor ht K, q⟩
theorem q_lshl {x : Int64} {y : Int32} (ht : P.tab mid pc = some (.lshl, len, r1, r2, rv)) (K : aW P mid d w (pc + 1) lv (.long (x <<< (y.toInt64 &&& 63)) :: st) h Q) : aW P mid d w pc lv (.int y :: .long x :: st) h Q := by obtain ⟨o, hZ, K, q⟩ := K; exact ⟨o, hZ, r_lshl ht K, q⟩
theorem q_lshr {x : Int64} {y : Int32} (ht : P.tab mid pc = some (.lshr, len, r1, r2, rv)) (K : aW P mid d w (pc + 1) lv (.long (x >>> (y.toInt64 &&& 63)) :: st) h Q) : aW P mid d w pc lv (.int y :: .long x :: st) h Q := by obtain ⟨o, hZ, K, q⟩ := K; exact ⟨o, hZ, r_lshr ht K, q⟩
theorem q_lcmp {x y : Int64} (ht : P.tab mid pc = some (.lcmp, len, r1, r2, rv)) (K : aW P mid d w (pc + 1) lv (.int (lg_cmp x y) :: st) h Q) : aW P mid d w pc lv (.long y :: .long x :: st) h Q := by obtain ⟨o, hZ, K, q⟩ := K; exact ⟨o, hZ, r_lcmp ht K, q⟩
theorem q_i2l {x : Int32} (ht : P.tab mid pc = some (.i2l, len, r1, r2, rv)) (K : aW P mid d w (pc + 1) lv (.long x.toInt64 :: st) h Q) : aW P mid d w pc lv (.int x :: st) h Q := by obtain ⟨o, hZ, K, q⟩ := K; exact ⟨o, hZ, r_i2l ht K, q⟩
theorem q_l2i {x : Int64} (ht : P.tab mid pc = some (.l2i, len, r1, r2, rv)) (K : aW P mid d w (pc + 1) lv (.int x.toInt32 :: st) h Q) : aW P mid d w pc lv (.long x :: st) h Q := by obtain ⟨o, hZ, K, q⟩ := K; exact ⟨o, hZ, r_l2i ht K, q⟩
theorem q_i2b {x : Int32} (ht : P.tab mid pc = some (.i2b, len, r1, r2, rv)) (K : aW P mid d w (pc + 1) lv (.int x.toInt8.toInt32 :: st) h Q) : aW P mid d w pc lv (.int x :: st) h Q := by obtain ⟨o, hZ, K, q⟩ := K; exact ⟨o, hZ, r_i2b ht K, q⟩
theorem q_i2c {x : Int32} (ht : P.tab mid pc = some (.i2c, len, r1, r2, rv)) (K : aW P mid d w (pc + 1) lv (.int (x.toUInt32 % 65536).toInt32 :: st) h Q) : aW P mid d w pc lv (.int x :: st) h Q := by obtain ⟨o, hZ, K, q⟩ := K; exact ⟨o, hZ, r_i2c ht K, q⟩
theorem q_idiv {x y : Int32} (ht : P.tab mid pc = some (.idiv, len, r1, r2, rv)) (hy : ¬ y = 0) (K : aW P mid d w (pc + 1) lv (.int (x / y) :: st) h Q) : aW P mid d w pc lv (.int y :: .int x :: st) h Q := by obtain ⟨o, hZ, K, q⟩ := K; exact ⟨o, hZ, r_idiv ht hy K, q⟩
theorem q_irem {x y : Int32} (ht : P.tab mid pc = some (.irem, len, r1, r2, rv)) (hy : ¬ y = 0) (K : aW P mid d w (pc + 1) lv (.int (x - x / y * y) :: st) h Q) : aW P mid d w pc lv (.int y :: .int x :: st) h Q := by obtain ⟨o, hZ, K, q⟩ := K; exact ⟨o, hZ, r_irem ht hy K, q⟩
theorem q_dup {v : Value} (ht : P.tab mid pc = some (.dup, len, r1, r2, rv)) (hv : v.category = 1) (K : aW P mid d w (pc + 1) lv (v :: v :: st) h Q) : aW P mid d w pc lv (v :: st) h Q := by obtain ⟨o, hZ, K, q⟩ := K; exact ⟨o, hZ, r_dup ht hv K, q⟩
theorem q_pop {v : Value} (ht : P.tab mid pc = some (.pop, len, r1, r2, rv)) (hv : v.category = 1) (K : aW P mid d w (pc + 1) lv st h Q) : aW P mid d w pc lv (v :: st) h Q := by obtain ⟨o, hZ, K, q⟩ := K; exact ⟨o, hZ, r_pop ht hv K, q⟩
theorem q_dup2 {v u : Value} (ht : P.tab mid pc = some (.dup2, len, r1, r2, rv)) (hv : v.category = 1) (hu : u.category = 1) (K : aW P mid d w (pc + 1) lv (v :: u :: v :: u :: st) h Q) : aW P mid d w pc lv (v :: u :: st) h Q := by obtain ⟨o, hZ, K, q⟩ := K; exact ⟨o, hZ, r_dup2 ht hv hu K, q⟩
theorem q_dup_x1 {v u : Value} (ht : P.tab mid pc = some (.dup_x1, len, r1, r2, rv)) (hv : v.category = 1) (hu : u.category = 1) (K : aW P mid d w (pc + 1) lv (v :: u :: v :: st) h Q) : aW P mid d w pc lv (v :: u :: st) h Q := by obtain ⟨o, hZ, K, q⟩ := K; exact ⟨o, hZ, r_dup_x1 ht hv hu K, q⟩
theorem q_goto {z : Int} (ht : P.tab mid pc = some (.goto z, len, r1, r2, rv)) (K : aW P mid d w r1 lv st h Q) : aW P mid d w pc lv st h Q := by obtain ⟨o, hZ, K, q⟩ := K; exact ⟨o, hZ, r_goto ht K, q⟩
theorem q_if_eq {x : Int32} {z : Int} (ht : P.tab mid pc = some (.ifCond .eq z, len, r1, r2, rv)) (kt : x = 0 → aW P mid d w r1 lv st h Q) (kf : ¬ (x = 0) → aW P mid d w (pc + 3) lv st h Q) : aW P mid d w pc lv (.int x :: st) h Q := by
  by_cases hc : x = 0
  · obtain ⟨o, hZ, K, q⟩ := kt hc
    exact ⟨o, hZ, r_if_eq ht (fun _ => K) (fun z => absurd hc z), q⟩
  · obtain ⟨o, hZ, K, q⟩ := kf hc
    exact ⟨o, hZ, r_if_eq ht (fun z => absurd z hc) (fun _ => K), q⟩
theorem q_if_ne {x : Int32} {z : Int} (ht : P.tab mid pc = some (.ifCond .ne z, len, r1, r2, rv)) (kt : ¬ x = 0 → aW P mid d w r1 lv st h Q) (kf : ¬ (¬ x = 0) → aW P mid d w (pc + 3) lv st h Q) : aW P mid d w pc lv (.int x :: st) h Q := by
  by_cases hc : ¬ x = 0
  · obtain ⟨o, hZ, K, q⟩ := kt hc
    exact ⟨o, hZ, r_if_ne ht (fun _ => K) (fun z => absurd hc z), q⟩
  · obtain ⟨o, hZ, K, q⟩ := kf hc
    exact ⟨o, hZ, r_if_ne ht (fun z => absurd z hc) (fun _ => K), q⟩
theorem q_if_lt {x : Int32} {z : Int} (ht : P.tab mid pc = some (.ifCond .lt z, len, r1, r2, rv)) (kt : x < 0 → aW P mid d w r1 lv st h Q) (kf : ¬ (x < 0) → aW P mid d w (pc + 3) lv st h Q) : aW P mid d w pc lv (.int x :: st) h Q := by
  by_cases hc : x < 0
  · obtain ⟨o, hZ, K, q⟩ := kt hc
    exact ⟨o, hZ, r_if_lt ht (fun _ => K) (fun z => absurd hc z), q⟩
  · obtain ⟨o, hZ, K, q⟩ := kf hc
    exact ⟨o, hZ, r_if_lt ht (fun z => absurd z hc) (fun _ => K), q⟩
theorem q_if_ge {x : Int32} {z : Int} (ht : P.tab mid pc = some (.ifCond .ge z, len, r1, r2, rv)) (kt : 0 ≤ x → aW P mid d w r1 lv st h Q) (kf : ¬ (0 ≤ x) → aW P mid d w (pc + 3) lv st h Q) : aW P mid d w pc lv (.int x :: st) h Q := by
  by_cases hc : 0 ≤ x
  · obtain ⟨o, hZ, K, q⟩ := kt hc
    exact ⟨o, hZ, r_if_ge ht (fun _ => K) (fun z => absurd hc z), q⟩
  · obtain ⟨o, hZ, K, q⟩ := kf hc
    exact ⟨o, hZ, r_if_ge ht (fun z => absurd z hc) (fun _ => K), q⟩
theorem q_if_gt {x : Int32} {z : Int} (ht : P.tab mid pc = some (.ifCond .gt z, len, r1, r2, rv)) (kt : 0 < x → aW P mid d w r1 lv st h Q) (kf : ¬ (0 < x) → aW P mid d w (pc + 3) lv st h Q) : aW P mid d w pc lv (.int x :: st) h Q := by
  by_cases hc : 0 < x
  · obtain ⟨o, hZ, K, q⟩ := kt hc
    exact ⟨o, hZ, r_if_gt ht (fun _ => K) (fun z => absurd hc z), q⟩
  · obtain ⟨o, hZ, K, q⟩ := kf hc
    exact ⟨o, hZ, r_if_gt ht (fun z => absurd z hc) (fun _ => K), q⟩
theorem q_if_le {x : Int32} {z : Int} (ht : P.tab mid pc = some (.ifCond .le z, len, r1, r2, rv)) (kt : x ≤ 0 → aW P mid d w r1 lv st h Q) (kf : ¬ (x ≤ 0) → aW P mid d w (pc + 3) lv st h Q) : aW P mid d w pc lv (.int x :: st) h Q := by
  by_cases hc : x ≤ 0
  · obtain ⟨o, hZ, K, q⟩ := kt hc
    exact ⟨o, hZ, r_if_le ht (fun _ => K) (fun z => absurd hc z), q⟩
  · obtain ⟨o, hZ, K, q⟩ := kf hc
    exact ⟨o, hZ, r_if_le ht (fun z => absurd z hc) (fun _ => K), q⟩
theorem q_icmp_eq {x y : Int32} {z : Int} (ht : P.tab mid pc = some (.if_icmp .eq z, len, r1, r2, rv)) (kt : x = y → aW P mid d w r1 lv st h Q) (kf : ¬ (x = y) → aW P mid d w (pc + 3) lv st h Q) : aW P mid d w pc lv (.int y :: .int x :: st) h Q := by
  by_cases hc : x = y
  · obtain ⟨o, hZ, K, q⟩ := kt hc
    exact ⟨o, hZ, r_icmp_eq ht (fun _ => K) (fun z => absurd hc z), q⟩
  · obtain ⟨o, hZ, K, q⟩ := kf hc
    exact ⟨o, hZ, r_icmp_eq ht (fun z => absurd z hc) (fun _ => K), q⟩
theorem q_icmp_ne {x y : Int32} {z : Int} (ht : P.tab mid pc = some (.if_icmp .ne z, len, r1, r2, rv)) (kt : ¬ x = y → aW P mid d w r1 lv st h Q) (kf : ¬ (¬ x = y) → aW P mid d w (pc + 3) lv st h Q) : aW P mid d w pc lv (.int y :: .int x :: st) h Q := by
  by_cases hc : ¬ x = y
  · obtain ⟨o, hZ, K, q⟩ := kt hc
    exact ⟨o, hZ, r_icmp_ne ht (fun _ => K) (fun z => absurd hc z), q⟩
  · obtain ⟨o, hZ, K, q⟩ := kf hc
    exact ⟨o, hZ, r_icmp_ne ht (fun z => absurd z hc) (fun _ => K), q⟩
theorem q_icmp_lt {x y : Int32} {z : Int} (ht : P.tab mid pc = some (.if_icmp .lt z, len, r1, r2, rv)) (kt : x < y → aW P mid d w r1 lv st h Q) (kf : ¬ (x < y) → aW P mid d w (pc + 3) lv st h Q) : aW P mid d w pc lv (.int y :: .int x :: st) h Q := by
  by_cases hc : x < y
  · obtain ⟨o, hZ, K, q⟩ := kt hc
    exact ⟨o, hZ, r_icmp_lt ht (fun _ => K) (fun z => absurd hc z), q⟩
  · obtain ⟨o, hZ, K, q⟩ := kf hc
    exact ⟨o, hZ, r_icmp_lt ht (fun z => absurd z hc) (fun _ => K), q⟩
theorem q_icmp_ge {x y : Int32} {z : Int} (ht : P.tab mid pc = some (.if_icmp .ge z, len, r1, r2, rv)) (kt : y ≤ x → aW P mid d w r1 lv st h Q) (kf : ¬ (y ≤ x) → aW P mid d w (pc + 3) lv st h Q) : aW P mid d w pc lv (.int y :: .int x :: st) h Q := by
  by_cases hc : y ≤ x
  · obtain ⟨o, hZ, K, q⟩ := kt hc
    exact ⟨o, hZ, r_icmp_ge ht (fun _ => K) (fun z => absurd hc z), q⟩
  · obtain ⟨o, hZ, K, q⟩ := kf hc
    exact ⟨o, hZ, r_icmp_ge ht (fun z => absurd z hc) (fun _ => K), q⟩
theorem q_icmp_gt {x y : Int32} {z : Int} (ht : P.tab mid pc = some (.if_icmp .gt z, len, r1, r2, rv)) (kt : y < x → aW P mid d w r1 lv st h Q) (kf : ¬ (y < x) → aW P mid d w (pc + 3) lv st h Q) : aW P mid d w pc lv (.int y :: .int x :: st) h Q := by
  by_cases hc : y < x
  · obtain ⟨o, hZ, K, q⟩ := kt hc
    exact ⟨o, hZ, r_icmp_gt ht (fun _ => K) (fun z => absurd hc z), q⟩
  · obtain ⟨o, hZ, K, q⟩ := kf hc
    exact ⟨o, hZ, r_icmp_gt ht (fun z => absurd z hc) (fun _ => K), q⟩
theorem q_icmp_le {x y : Int32} {z : Int} (ht : P.tab mid pc = some (.if_icmp .le z, len, r1, r2, rv)) (kt : x ≤ y → aW P mid d w r1 lv st h Q) (kf : ¬ (x ≤ y) → aW P mid d w (pc + 3) lv st h Q) : aW P mid d w pc lv (.int y :: .int x :: st) h Q := by
  by_cases hc : x ≤ y
  · obtain ⟨o, hZ, K, q⟩ := kt hc
    exact ⟨o, hZ, r_icmp_le ht (fun _ => K) (fun z => absurd hc z), q⟩
  · obtain ⟨o, hZ, K, q⟩ := kf hc
    exact ⟨o, hZ, r_icmp_le ht (fun z => absurd z hc) (fun _ => K), q⟩
theorem q_ifnullN {z : Int} (ht : P.tab mid pc = some (.ifnull z, len, r1, r2, rv)) (K : aW P mid d w r1 lv st h Q) : aW P mid d w pc lv (.null :: st) h Q := by obtain ⟨o, hZ, K, q⟩ := K; exact ⟨o, hZ, r_ifnullN ht K, q⟩
theorem q_ifnull {z : Int} {x : Nat} (ht : P.tab mid pc = some (.ifnull z, len, r1, r2, rv)) (K : aW P mid d w (pc + 3) lv st h Q) : aW P mid d w pc lv (.ref x :: st) h Q := by obtain ⟨o, hZ, K, q⟩ := K; exact ⟨o, hZ, r_ifnull ht K, q⟩
theorem q_ifnonnullN {z : Int} (ht : P.tab mid pc = some (.ifnonnull z, len, r1, r2, rv)) (K : aW P mid d w (pc + 3) lv st h Q) : aW P mid d w pc lv (.null :: st) h Q := by obtain ⟨o, hZ, K, q⟩ := K; exact ⟨o, hZ, r_ifnonnullN ht K, q⟩
theorem q_ifnonnull {z : Int} {x : Nat} (ht : P.tab mid pc = some (.ifnonnull z, len, r1, r2, rv)) (K : aW P mid d w r1 lv st h Q) : aW P mid d w pc lv (.ref x :: st) h Q := by obtain ⟨o, hZ, K, q⟩ := K; exact ⟨o, hZ, r_ifnonnull ht K, q⟩
theorem q_getf {z n a : Nat} {f : Nat → Value} {v : Value} (ht : P.tab mid pc = some (.getfield z, len, r1, r2, rv)) (ha : h[a]? = some (r1, n, f)) (hk : r2 < n) (hv : f r2 = v) (K : aW P mid d w (pc + 3) lv (v :: st) h Q) : aW P mid d w pc lv (.ref a :: st) h Q := by obtain ⟨o, hZ, K, q⟩ := K; exact ⟨o, hZ, r_getf ht ha hk hv K, q⟩
theorem q_putf {z n a : Nat} {f : Nat → Value} {v : Value} (ht : P.tab mid pc = some (.putfield z, len, r1, r2, rv)) (ha : h[a]? = some (r1, n, f)) (hk : r2 < n) (hp : P.p0 ≤ a) (hf : ai_fit (P.ty r1 r2) v = true) (K : aW P mid d w (pc + 3) lv st (h.set a (r1, n, va_up f r2 v)) Q) : aW P mid d w pc lv (v :: .ref a :: st) h Q := by obtain ⟨o, hZ, K, q⟩ := K; exact ⟨o, hZ, r_putf ht ha hk hp hf K, q⟩
theorem q_alen {t n a : Nat} {f : Nat → Value} (ht : P.tab mid pc = some (.arraylength, len, r1, r2, rv)) (ha : h[a]? = some (t, n, f)) (h1 : 100 ≤ t) (h2 : t < 200) (K : aW P mid d w (pc + 1) lv (.int (Int32.ofNat n) :: st) h Q) : aW P mid d w pc lv (.ref a :: st) h Q := by obtain ⟨o, hZ, K, q⟩ := K; exact ⟨o, hZ, r_alen ht ha h1 h2 K, q⟩
theorem q_iaload {n a j : Nat} {f : Nat → Value} {v : Value} (ht : P.tab mid pc = some (.iaload, len, r1, r2, rv)) (ha : h[a]? = some (102, n, f)) (hj : j < n) (hn : n < 2147483648) (hv : f j = v) (K : aW P mid d w (pc + 1) lv (v :: st) h Q) : aW P mid d w pc lv (.int (nI j) :: .ref a :: st) h Q := by obtain ⟨o, hZ, K, q⟩ := K; exact ⟨o, hZ, r_iaload ht ha hj hn hv K, q⟩
theorem q_laload {n a j : Nat} {f : Nat → Value} {v : Value} (ht : P.tab mid pc = some (.laload, len, r1, r2, rv)) (ha : h[a]? = some (103, n, f)) (hj : j < n) (hn : n < 2147483648) (hv : f j = v) (K : aW P mid d w (pc + 1) lv (v :: st) h Q) : aW P mid d w pc lv (.int (nI j) :: .ref a :: st) h Q := by obtain ⟨o, hZ, K, q⟩ := K; exact ⟨o, hZ, r_laload ht ha hj hn hv K, q⟩
theorem q_baload {t n a j : Nat} {f : Nat → Value} {v : Value} (ht : P.tab mid pc = some (.baload, len, r1, r2, rv)) (ha : h[a]? = some (t, n, f)) (h9 : t = 100 ∨ t = 101) (hj : j < n) (hn : n < 2147483648) (hv : f j = v) (K : aW P mid d w (pc + 1) lv (v :: st) h Q) : aW P mid d w pc lv (.int (nI j) :: .ref a :: st) h Q := by obtain ⟨o, hZ, K, q⟩ := K; exact ⟨o, hZ, r_baload ht ha h9 hj hn hv K, q⟩
theorem q_aaload {t n a j : Nat} {f : Nat → Value} {v : Value} (ht : P.tab mid pc = some (.aaload, len, r1, r2, rv)) (ha : h[a]? = some (t, n, f)) (h1 : 110 ≤ t) (h2 : t < 200) (hj : j < n) (hn : n < 2147483648) (hv : f j = v) (K : aW P mid d w (pc + 1) lv (v :: st) h Q) : aW P mid d w pc lv (.int (nI j) :: .ref a :: st) h Q := by obtain ⟨o, hZ, K, q⟩ := K; exact ⟨o, hZ, r_aaload ht ha h1 h2 hj hn hv K, q⟩
theorem q_ireturn {v : Value} (ht : P.tab mid pc = some (.ireturn, len, r1, r2, rv)) (hv : ai_retok (P.mth mid).ret v = true) (q : Q (.inl (some v)) h) : aW P mid d w pc lv [v] h Q := ⟨_, _, r_ireturn ht hv rfl, q⟩
theorem q_lreturn {x : Int64} (ht : P.tab mid pc = some (.lreturn, len, r1, r2, rv)) (hv : ai_rtJ (P.mth mid).ret = true) (q : Q (.inl (some (.long x))) h) : aW P mid d w pc lv [.long x] h Q := ⟨_, _, r_lreturn ht hv rfl, q⟩
theorem q_areturn {v : Value} (ht : P.tab mid pc = some (.areturn, len, r1, r2, rv)) (hv : ai_isA v = true) (hv2 : ai_rtA (P.mth mid).ret = true) (q : Q (.inl (some v)) h) : aW P mid d w pc lv [v] h Q := ⟨_, _, r_areturn ht hv hv2 rfl, q⟩
theorem q_return (ht : P.tab mid pc = some (.return_, len, r1, r2, rv)) (hv : (P.mth mid).ret = none) (q : Q (.inl none) h) : aW P mid d w pc lv [] h Q := ⟨_, _, r_return ht hv rfl, q⟩
end TRIP
