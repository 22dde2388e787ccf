/-! a check of the tables by computing, and what it says -/
/-- the pool of a class: fields (entry, class, field, 1 if final and its own), methods (entry, kind, number, arguments, class), new (entry, class, fields), throws (entry, exception, the constructor's entry), arrays of references (entry, tag), casts (entry, class), constants, statics -/
abbrev ai_PL : Type := List (Nat × Nat × Nat × Nat) × List (Nat × Nat × Nat × Nat × Nat) × List (Nat × Nat × Nat) × List (Nat × Nat × Nat) × List (Nat × Nat) × List (Nat × Nat) × List (Nat × Value) × List (Nat × Value)
def ai_plok (tb nw : List Cond) (cl : List vw_C) (P : ai_P) (sl : ai_SL) (ao : List String) (own : String) (pl : ai_PL) : Prop :=
  (∀ z ∈ pl.1, z.2.1 < 100 ∧ ∃ (C : String) (T : u_T) (N : Nat), cl[z.2.1]? = some (C, T, N) ∧ z.2.2.1 < N ∧ ai_link tb own z.1 T z.2.2.1 ∧ (z.2.2.2 = 0 → (T z.2.2.1).2.2.2 = false) ∧ (z.2.2.2 = 1 → (T z.2.2.1).1 = own)) ∧
  (∀ z ∈ pl.2.1, (z.2.1 = 0 → ai_mok tb (P.mth z.2.2.1) ∧ Cond.methodLink own z.1 (P.mth z.2.2.1).y ∈ tb ∧ Cond.static (P.mth z.2.2.1).y ∈ tb ∧ ai_np (P.mth z.2.2.1).y = some z.2.2.2.1) ∧
    (z.2.1 = 1 → ai_mok tb (P.mth z.2.2.1) ∧ (P.mth z.2.2.1).hs = [] ∧ Cond.methodLink own z.1 (P.mth z.2.2.1).y ∈ tb ∧ Cond.instanceMethod (P.mth z.2.2.1).y ∈ tb ∧ Cond.selects (P.mth z.2.2.1).y.cls (P.mth z.2.2.1).y (P.mth z.2.2.1).y ∈ tb ∧ (∃ k, z.2.2.2.1 = k + 1 ∧ ai_np (P.mth z.2.2.1).y = some k) ∧ z.2.2.2.2 < 100 ∧ ∃ (T : u_T) (N : Nat), cl[z.2.2.2.2]? = some ((P.mth z.2.2.1).y.cls, T, N)) ∧
    (z.2.1 = 2 → ai_mok tb (P.mth z.2.2.1) ∧ (P.mth z.2.2.1).hs = [] ∧ (P.mth z.2.2.1).ret = none ∧ (Cond.methodLink own z.1 (P.mth z.2.2.1).y ∈ tb ∨ ∃ host, Cond.methodLinkNest own z.1 (P.mth z.2.2.1).y host ∈ nw) ∧ Cond.instanceMethod (P.mth z.2.2.1).y ∈ tb ∧ (P.mth z.2.2.1).y.name = "<init>" ∧ ∃ k, z.2.2.2.1 = k + 1 ∧ ai_np (P.mth z.2.2.1).y = some k) ∧
    (z.2.1 = 3 → Cond.methodLink own z.1 objectInit ∈ tb ∧ Cond.instanceMethod objectInit ∈ tb ∧ Cond.code objectInit ⟨#[0xb1]⟩ 1 none ∈ tb) ∧
    (z.2.1 = 4 → Cond.methodLink own z.1 arraycopyName ∈ tb ∧ Cond.native arraycopyName ∈ tb ∧ Cond.static arraycopyName ∈ tb ∧ Cond.initialized "java/lang/System" ∈ tb) ∧
    (z.2.1 = 5 → ai_mathok tb own z.1 z.2.2.1)) ∧
  (∀ z ∈ pl.2.2.1, z.2.1 < 100 ∧ ∃ (C : String) (T : u_T), cl[z.2.1]? = some (C, T, z.2.2) ∧ Cond.classLink own z.1 C ∈ tb ∧ Cond.instantiable C z.2.2 ∈ tb ∧ Cond.initialized C ∈ tb) ∧
  (∀ z ∈ pl.2.2.2.1, (z.2.1 = 1 ∨ z.2.1 = 2) ∧ Cond.classLink own z.1 (ai_exn z.2.1) ∈ tb ∧ Cond.initialized (ai_exn z.2.1) ∈ tb ∧ ∀ w ∈ vx_at0 own z.2.2 (ai_exn z.2.1) ["java/lang/RuntimeException", "java/lang/Exception"], w ∈ tb ∨ w ∈ nw) ∧
  (∀ z ∈ pl.2.2.2.2.1, ai_ty P.rc z.2 = .object (P.rc z.2) ∧ 100 ≤ z.2 ∧ Cond.classLink own z.1 (P.rc z.2) ∈ tb ∧ P.rc z.2 ∈ ao) ∧
  (∀ z ∈ pl.2.2.2.2.2.1, z.2 < 100 ∧ ∃ (C : String) (T : u_T) (N : Nat), cl[z.2]? = some (C, T, N) ∧ Cond.classLink own z.1 C ∈ tb) ∧
  (∀ z ∈ pl.2.2.2.2.2.2.1, (∀ v, z.2 = .int v → Cond.constant own z.1 v ∈ tb) ∧ ∀ v, z.2 = .long v → Cond.constantLong own z.1 v ∈ tb) ∧
  ∀ z ∈ pl.2.2.2.2.2.2.2, ∃ C n d, (C, n, d, z.2) ∈ sl ∧ (Cond.fieldLink own z.1 C n d ∈ tb ∨ ∃ host, Cond.fieldLinkNest own z.1 C n d host ∈ nw)
def ai_arrOK (rc : Nat → String) (q : ai_I) (t : ArrayType) : Bool := decide (ai_ty rc q.r1 = newarray.typeOf t) && decide (100 ≤ q.r1)
def ai_chk (rc : Nat → String) (arr : List FieldType) (pl : ai_PL) (nm : String) (cc : ByteArray) (pc : Nat) (q : ai_I) : Bool := match q.ins with
  | .iconst n => decide (q.len = 1) && decide (q.rv = .int (Int32.ofInt n))
  | .bipush n => decide (q.len = 2) && decide (q.rv = .int (Int8.ofInt n).toInt32)
  | .sipush n => decide (q.len = 3) && decide (q.rv = .int (Int16.ofInt n).toInt32)
  | .lconst n => decide (q.len = 1) && decide (q.rv = .long (Int64.ofNat (n : Nat)))
  | .ldc idx => decide (q.len = 2) && ai_isI q.rv && pl.2.2.2.2.2.2.1.any (fun z => decide (z = (idx, q.rv)))
  | .ldc_w idx => decide (q.len = 3) && ai_isI q.rv && pl.2.2.2.2.2.2.1.any (fun z => decide (z = (idx, q.rv)))
  | .ldc2_w idx => decide (q.len = 3) && ai_isJ q.rv && pl.2.2.2.2.2.2.1.any (fun z => decide (z = (idx, q.rv)))
  | .getstatic idx => decide (q.len = 3) && pl.2.2.2.2.2.2.2.any (fun z => decide (z = (idx, q.rv)))
  | .iload _ => decide (q.len = 2) | .lload _ => decide (q.len = 2) | .aload _ => decide (q.len = 2) | .istore _ => decide (q.len = 2) | .lstore _ => decide (q.len = 2) | .astore _ => decide (q.len = 2)
  | .iinc _ n => decide (q.len = 3) && decide (q.rv = .int (Int32.ofInt n))
  | .ifCond _ off => decide (q.len = 3) && decide ((pc : Int) + off = q.r1)
  | .if_icmp _ off => decide (q.len = 3) && decide ((pc : Int) + off = q.r1)
  | .if_acmp _ off => decide (q.len = 3) && decide ((pc : Int) + off = q.r1)
  | .ifnull off => decide (q.len = 3) && decide ((pc : Int) + off = q.r1)
  | .ifnonnull off => decide (q.len = 3) && decide ((pc : Int) + off = q.r1)
  | .goto off => decide (q.len = 3) && decide ((pc : Int) + off = q.r1)
  | .tableswitch .. => true
  | .getfield idx => decide (q.len = 3) && pl.1.any (fun z => z.1 == idx && z.2.1 == q.r1 && z.2.2.1 == q.r2)
  | .putfield idx => decide (q.len = 3) && pl.1.any (fun z => z.1 == idx && z.2.1 == q.r1 && z.2.2.1 == q.r2 && (z.2.2.2 == 0 || (z.2.2.2 == 1 && decide (nm = "<init>"))))
  | .new idx => decide (q.len = 3) && (if q.r2 = 9999 then (match q.rv with
      | .retAddr ic => pl.2.2.2.1.any (fun z => z.1 == idx && z.2.1 == q.r1 && z.2.2 == ic) && decide (decode cc (pc + 3) = .ok (.dup, 1)) && decide (decode cc (pc + 4) = .ok (.invokespecial ic, 3)) && decide (decode cc (pc + 7) = .ok (.athrow, 1))
      | _ => false) else pl.2.2.1.any (fun z => z.1 == idx && z.2.1 == q.r1 && z.2.2 == q.r2))
  | .newarray t => decide (q.len = 2) && ai_arrOK rc q t && arr.any (fun z => decide (z = newarray.typeOf t))
  | .anewarray idx => decide (q.len = 3) && pl.2.2.2.2.1.any (fun z => z.1 == idx && z.2 == q.r1)
  | .checkcast idx => decide (q.len = 3) && pl.2.2.2.2.2.1.any (fun z => z.1 == idx && z.2 == q.r1)
  | .invokespecial idx => decide (q.len = 3) && (if q.r1 = 5000 then pl.2.1.any (fun z => z.1 == idx && z.2.1 == 3) else pl.2.1.any (fun z => z.1 == idx && z.2.1 == 2 && z.2.2.1 == q.r1 && z.2.2.2.1 == q.r2))
  | .invokestatic idx => decide (q.len = 3) && (if q.r1 = 5001 then pl.2.1.any (fun z => z.1 == idx && z.2.1 == 4) else if 5002 ≤ q.r1 ∧ q.r1 ≤ 5004 then pl.2.1.any (fun z => z.1 == idx && z.2.1 == 5 && z.2.2.1 == q.r1) else pl.2.1.any (fun z => z.1 == idx && z.2.1 == 0 && z.2.2.1 == q.r1 && z.2.2.2.1 == q.r2))
  | .invokevirtual idx => decide (q.len = 3) && pl.2.1.any (fun z => z.1 == idx && z.2.1 == 1 && z.2.2.1 == q.r1 && z.2.2.2.1 == q.r2 && decide (q.rv = .retAddr z.2.2.2.2))
  | _ => decide (q.len = 1)
theorem ai_chk_ok {tb nw : List Cond} {cl : List vw_C} {P : ai_P} {sl : ai_SL} {ao : List String} {own : String} {pl : ai_PL} (h : ai_plok tb nw cl P sl ao own pl) {arr : List FieldType} (harr : ∀ t ∈ arr, Cond.arrayClass t ∈ tb) {nm : String} {cc : ByteArray} {pc : Nat} {q : ai_I} (hc : ai_chk P.rc arr pl nm cc pc q = true) :
    ai_iok tb nw cl P.rc sl ao own nm pc q ∧ ai_cok tb nw cl P own cc pc q := by
  obtain ⟨h1, h2, h3, h4, h5, h6, h7, h8⟩ := h
  obtain ⟨i, len, r1, r2, rv⟩ := q
  unfold ai_chk at hc
  unfold ai_iok ai_cok
  cases i with
  | ldc idx =>
    dsimp only [ai_I.ins, ai_I.len, ai_I.r1, ai_I.r2, ai_I.rv] at hc ⊢
    simp only [Bool.and_eq_true, decide_eq_true_eq, List.any_eq_true, beq_iff_eq, Bool.or_eq_true] at hc
    obtain ⟨⟨hl, hi⟩, z, hz, rfl⟩ := hc
    cases rv <;> first | (cases hi; done) | (exact ⟨⟨hl, _, rfl, (h7 _ hz).1 _ rfl⟩, trivial⟩)
  | ldc_w idx =>
    dsimp only [ai_I.ins, ai_I.len, ai_I.r1, ai_I.r2, ai_I.rv] at hc ⊢
    simp only [Bool.and_eq_true, decide_eq_true_eq, List.any_eq_true, beq_iff_eq, Bool.or_eq_true] at hc
    obtain ⟨⟨hl, hi⟩, z, hz, rfl⟩ := hc
    cases rv <;> first | (cases hi; done) | (exact ⟨⟨hl, _, rfl, (h7 _ hz).1 _ rfl⟩, trivial⟩)
  | ldc2_w idx =>
    dsimp only [ai_I.ins, ai_I.len, ai_I.r1, ai_I.r2, ai_I.rv] at hc ⊢
    simp only [Bool.and_eq_true, decide_eq_true_eq, List.any_eq_true, beq_iff_eq, Bool.or_eq_true] at hc
    obtain ⟨⟨hl, hi⟩, z, hz, rfl⟩ := hc
    cases rv <;> first | (cases hi; done) | (exact ⟨⟨hl, _, rfl, (h7 _ hz).2 _ rfl⟩, trivial⟩)
  | getstatic idx =>
    dsimp only [ai_I.ins, ai_I.len, ai_I.r1, ai_I.r2, ai_I.rv] at hc ⊢
    simp only [Bool.and_eq_true, decide_eq_true_eq, List.any_eq_true, beq_iff_eq, Bool.or_eq_true] at hc
    obtain ⟨hl, z, hz, rfl⟩ := hc
    exact ⟨⟨hl, h8 _ hz⟩, trivial⟩
  | getfield idx =>
    dsimp only [ai_I.ins, ai_I.len, ai_I.r1, ai_I.r2, ai_I.rv] at hc ⊢
    simp only [Bool.and_eq_true, decide_eq_true_eq, List.any_eq_true, beq_iff_eq, Bool.or_eq_true] at hc
    obtain ⟨hl, z, hz, ⟨e1, e2⟩, e3⟩ := hc
    obtain ⟨g1, C, T, N, g2, g3, g4, -, -⟩ := h1 z hz
    subst e1; subst e2; subst e3
    exact ⟨⟨hl, g1, C, T, N, g2, g3, g4, fun z hz => by cases hz⟩, trivial⟩
  | putfield idx =>
    dsimp only [ai_I.ins, ai_I.len, ai_I.r1, ai_I.r2, ai_I.rv] at hc ⊢
    simp only [Bool.and_eq_true, decide_eq_true_eq, List.any_eq_true, beq_iff_eq, Bool.or_eq_true] at hc
    obtain ⟨hl, z, hz, ⟨⟨e1, e2⟩, e3⟩, e4⟩ := hc
    obtain ⟨g1, C, T, N, g2, g3, g4, g5, g6⟩ := h1 z hz
    subst e1; subst e2; subst e3
    refine ⟨⟨hl, g1, C, T, N, g2, g3, g4, fun y hy hf => ?_⟩, trivial⟩
    cases hy
    rcases e4 with e4 | ⟨e4, e5⟩
    · rw [g5 e4] at hf; cases hf
    · exact ⟨e5, g6 e4⟩
  | new idx =>
    dsimp only [ai_I.ins, ai_I.len, ai_I.r1, ai_I.r2, ai_I.rv] at hc ⊢
    rw [Bool.and_eq_true, decide_eq_true_eq] at hc
    obtain ⟨hl, hc⟩ := hc
    split at hc
    · rename_i h9
      split at hc
      · rename_i ic
        simp only [Bool.and_eq_true, decide_eq_true_eq, List.any_eq_true, beq_iff_eq, Bool.or_eq_true] at hc
        obtain ⟨⟨⟨⟨z, hz, ⟨e1, e2⟩, e3⟩, d3⟩, d4⟩, d7⟩ := hc
        obtain ⟨g1, g2, g3, g4⟩ := h4 z hz
        subst e1; subst e2; subst e3
        exact ⟨⟨hl, Or.inl h9⟩, fun _ => ⟨_, g1, d3, d4, d7, g2, g3, g4⟩⟩
      · cases hc
    · rename_i h9
      simp only [Bool.and_eq_true, decide_eq_true_eq, List.any_eq_true, beq_iff_eq, Bool.or_eq_true] at hc
      obtain ⟨z, hz, ⟨e1, e2⟩, e3⟩ := hc
      obtain ⟨g1, C, T, g2, g3, g4, g5⟩ := h3 z hz
      subst e1; subst e2; subst e3
      exact ⟨⟨hl, Or.inr ⟨g1, C, T, g2, g3, g4, g5⟩⟩, fun h => absurd h h9⟩
  | newarray t =>
    dsimp only [ai_I.ins, ai_I.len, ai_I.r1, ai_I.r2, ai_I.rv] at hc ⊢
    simp only [Bool.and_eq_true, decide_eq_true_eq, List.any_eq_true, beq_iff_eq, Bool.or_eq_true] at hc
    obtain ⟨⟨hl, ha⟩, z, hz, rfl⟩ := hc
    unfold ai_arrOK at ha
    rw [Bool.and_eq_true, decide_eq_true_eq, decide_eq_true_eq] at ha
    exact ⟨⟨hl, ha.1, ha.2, harr _ hz⟩, trivial⟩
  | anewarray idx =>
    dsimp only [ai_I.ins, ai_I.len, ai_I.r1, ai_I.r2, ai_I.rv] at hc ⊢
    simp only [Bool.and_eq_true, decide_eq_true_eq, List.any_eq_true, beq_iff_eq, Bool.or_eq_true] at hc
    obtain ⟨hl, z, hz, e1, e2⟩ := hc
    obtain ⟨g1, g2, g3, g4⟩ := h5 z hz
    subst e1; subst e2
    exact ⟨⟨hl, g1, g2, g3, g4⟩, trivial⟩
  | checkcast idx =>
    dsimp only [ai_I.ins, ai_I.len, ai_I.r1, ai_I.r2, ai_I.rv] at hc ⊢
    simp only [Bool.and_eq_true, decide_eq_true_eq, List.any_eq_true, beq_iff_eq, Bool.or_eq_true] at hc
    obtain ⟨hl, z, hz, e1, e2⟩ := hc
    obtain ⟨g1, C, T, N, g2, g3⟩ := h6 z hz
    subst e1; subst e2
    exact ⟨⟨hl, g1, C, T, N, g2, g3⟩, trivial⟩
  | invokespecial idx =>
    dsimp only [ai_I.ins, ai_I.len, ai_I.r1, ai_I.r2, ai_I.rv] at hc ⊢
    rw [Bool.and_eq_true, decide_eq_true_eq] at hc
    obtain ⟨hl, hc⟩ := hc
    split at hc
    · rename_i h9
      simp only [Bool.and_eq_true, decide_eq_true_eq, List.any_eq_true, beq_iff_eq, Bool.or_eq_true] at hc
      obtain ⟨z, hz, e1, e2⟩ := hc
      subst e1
      exact ⟨⟨hl, fun _ => (h2 z hz).2.2.2.1 e2⟩, Or.inl h9⟩
    · rename_i h9
      simp only [Bool.and_eq_true, decide_eq_true_eq, List.any_eq_true, beq_iff_eq, Bool.or_eq_true] at hc
      obtain ⟨z, hz, ⟨⟨e1, e2⟩, e3⟩, e4⟩ := hc
      subst e1; subst e3; subst e4
      exact ⟨⟨hl, fun h => absurd h h9⟩, Or.inr ((h2 z hz).2.2.1 e2)⟩
  | invokestatic idx =>
    dsimp only [ai_I.ins, ai_I.len, ai_I.r1, ai_I.r2, ai_I.rv] at hc ⊢
    rw [Bool.and_eq_true, decide_eq_true_eq] at hc
    obtain ⟨hl, hc⟩ := hc
    split at hc
    · rename_i h9
      simp only [Bool.and_eq_true, decide_eq_true_eq, List.any_eq_true, beq_iff_eq, Bool.or_eq_true] at hc
      obtain ⟨z, hz, e1, e2⟩ := hc
      subst e1
      exact ⟨⟨hl, fun _ => (h2 z hz).2.2.2.2.1 e2, fun h => absurd h.1 (by omega)⟩, Or.inl (by omega)⟩
    · rename_i h9
      split at hc
      · rename_i h8
        simp only [Bool.and_eq_true, decide_eq_true_eq, List.any_eq_true, beq_iff_eq, Bool.or_eq_true] at hc
        obtain ⟨z, hz, ⟨e1, e2⟩, e3⟩ := hc
        subst e1; subst e3
        exact ⟨⟨hl, fun h => absurd h h9, fun _ => (h2 z hz).2.2.2.2.2 e2⟩, Or.inl (by omega)⟩
      · rename_i h8
        simp only [Bool.and_eq_true, decide_eq_true_eq, List.any_eq_true, beq_iff_eq, Bool.or_eq_true] at hc
        obtain ⟨z, hz, ⟨⟨e1, e2⟩, e3⟩, e4⟩ := hc
        subst e1; subst e3; subst e4
        exact ⟨⟨hl, fun h => absurd h h9, fun h => absurd h h8⟩, Or.inr ((h2 z hz).1 e2)⟩
  | invokevirtual idx =>
    dsimp only [ai_I.ins, ai_I.len, ai_I.r1, ai_I.r2, ai_I.rv] at hc ⊢
    simp only [Bool.and_eq_true, decide_eq_true_eq, List.any_eq_true, beq_iff_eq, Bool.or_eq_true] at hc
    obtain ⟨hl, z, hz, ⟨⟨⟨e1, e2⟩, e3⟩, e4⟩, e5⟩ := hc
    subst e1; subst e3; subst e4
    obtain ⟨g1, g2, g3, g4, g5, g6, g7, T, N, g8⟩ := (h2 z hz).2.1 e2
    exact ⟨hl, g1, g2, g3, g4, g5, g6, _, T, N, e5, g7, g8⟩
  | _ =>
    dsimp only [ai_I.ins, ai_I.len, ai_I.r1, ai_I.r2, ai_I.rv] at hc ⊢
    first | (exact ⟨trivial, trivial⟩) | (simp only [Bool.and_eq_true, decide_eq_true_eq] at hc; exact ⟨hc, trivial⟩)
