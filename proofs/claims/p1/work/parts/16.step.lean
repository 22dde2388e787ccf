/-! what is known of an instruction's entries; a step of the interpreter is a step of the machine -/
def ai_fok (tb : List Cond) (cl : List vw_C) (own : String) (idx r1 r2 : Nat) (nm : Option String) : Prop := r1 < 100 ∧ ∃ (C : String) (T : u_T) (N : Nat), cl[r1]? = some (C, T, N) ∧ r2 < N ∧ ai_link tb own idx T r2 ∧ ∀ z, nm = some z → (T r2).2.2.2 = true → z = "<init>" ∧ (T r2).1 = own
abbrev ai_SL : Type := List (String × String × String × Value)
def ai_mathok (tb : List Cond) (own : String) (idx k : Nat) : Prop := Cond.initialized "java/lang/Math" ∈ tb ∧ (k = 5002 → Cond.methodLink own idx Lib.Math.min.name ∈ tb ∧ Cond.static Lib.Math.min.name ∈ tb ∧ Cond.code Lib.Math.min.name Lib.Math.min.code 2 (some .int) ∈ tb) ∧ (k = 5003 → Cond.methodLink own idx Lib.Math.max.name ∈ tb ∧ Cond.static Lib.Math.max.name ∈ tb ∧ Cond.code Lib.Math.max.name Lib.Math.max.code 2 (some .int) ∈ tb) ∧ (k = 5004 → Cond.methodLink own idx Lib.MathLoose.max_long.x ∈ tb ∧ Cond.static Lib.MathLoose.max_long.x ∈ tb ∧ Cond.code Lib.MathLoose.max_long.x Lib.MathLoose.max_long.code 4 (some .long) ∈ tb)
def ai_iok (tb nw : List Cond) (cl : List vw_C) (rc : Nat → String) (sl : ai_SL) (ao : List String) (own nm : String) (pc : Nat) (q : ai_I) : Prop := match q.ins with
  | .iconst n => q.len = 1 ∧ q.rv = .int (Int32.ofInt n)
  | .bipush n => q.len = 2 ∧ q.rv = .int (Int8.ofInt n).toInt32
  | .sipush n => q.len = 3 ∧ q.rv = .int (Int16.ofInt n).toInt32
  | .lconst n => q.len = 1 ∧ q.rv = .long (Int64.ofNat (n : Nat))
  | .ldc idx => q.len = 2 ∧ ∃ v, q.rv = .int v ∧ Cond.constant own idx v ∈ tb
  | .ldc_w idx => q.len = 3 ∧ ∃ v, q.rv = .int v ∧ Cond.constant own idx v ∈ tb
  | .ldc2_w idx => q.len = 3 ∧ ∃ v, q.rv = .long v ∧ Cond.constantLong own idx v ∈ tb
  | .getstatic idx => q.len = 3 ∧ ∃ C n d, (C, n, d, q.rv) ∈ sl ∧ (Cond.fieldLink own idx C n d ∈ tb ∨ ∃ host, Cond.fieldLinkNest own idx C n d host ∈ nw)
  | .iload _ => q.len = 2 | .lload _ => q.len = 2 | .aload _ => q.len = 2 | .istore _ => q.len = 2 | .lstore _ => q.len = 2 | .astore _ => q.len = 2
  | .iinc _ n => q.len = 3 ∧ q.rv = .int (Int32.ofInt n)
  | .ifCond _ off => q.len = 3 ∧ (pc : Int) + off = q.r1
  | .if_icmp _ off => q.len = 3 ∧ (pc : Int) + off = q.r1
  | .ifnull off => q.len = 3 ∧ (pc : Int) + off = q.r1
  | .ifnonnull off => q.len = 3 ∧ (pc : Int) + off = q.r1
  | .goto off => q.len = 3 ∧ (pc : Int) + off = q.r1
  | .tableswitch .. => True
  | .getfield idx => q.len = 3 ∧ ai_fok tb cl own idx q.r1 q.r2 none
  | .putfield idx => q.len = 3 ∧ ai_fok tb cl own idx q.r1 q.r2 (some nm)
  | .new idx => q.len = 3 ∧ (q.r2 = 9999 ∨ (q.r1 < 100 ∧ ∃ (C : String) (T : u_T), cl[q.r1]? = some (C, T, q.r2) ∧ Cond.classLink own idx C ∈ tb ∧ Cond.instantiable C q.r2 ∈ tb ∧ Cond.initialized C ∈ tb))
  | .newarray t => q.len = 2 ∧ ai_ty rc q.r1 = newarray.typeOf t ∧ 100 ≤ q.r1 ∧ Cond.arrayClass (newarray.typeOf t) ∈ tb
  | .anewarray idx => q.len = 3 ∧ ai_ty rc q.r1 = .object (rc q.r1) ∧ 100 ≤ q.r1 ∧ Cond.classLink own idx (rc q.r1) ∈ tb ∧ rc q.r1 ∈ ao
  | .checkcast idx => q.len = 3 ∧ q.r1 < 100 ∧ ∃ (C : String) (T : u_T) (N : Nat), cl[q.r1]? = some (C, T, N) ∧ Cond.classLink own idx C ∈ tb
  | .invokespecial idx => q.len = 3 ∧ (q.r1 = 5000 → Cond.methodLink own idx objectInit ∈ tb ∧ Cond.instanceMethod objectInit ∈ tb ∧ Cond.code objectInit ⟨#[0xb1]⟩ 1 none ∈ tb)
  | .invokestatic idx => q.len = 3 ∧ (q.r1 = 5001 → Cond.methodLink own idx arraycopyName ∈ tb ∧ Cond.native arraycopyName ∈ tb ∧ Cond.static arraycopyName ∈ tb ∧ Cond.initialized "java/lang/System" ∈ tb) ∧ (5002 ≤ q.r1 ∧ q.r1 ≤ 5004 → ai_mathok tb own idx q.r1)
  | .if_acmp _ off => q.len = 3 ∧ (pc : Int) + off = q.r1
  | .invokevirtual _ => q.len = 3
  | _ => q.len = 1
theorem ai_wt_map (ad : Nat → Nat) (st : List Value) : ((st.map (ai_v ad)).map fun v => v.category).sum = ai_wt st := by
  unfold ai_wt
  rw [List.map_map]
  congr 1
  exact List.map_congr_left (fun v _ => ai_cat ad v)
theorem ai_isI_cat : ∀ v, ai_isI v = true → v.category = 1 := fun v h => by cases v <;> first | rfl | cases h
theorem ai_isA_cat : ∀ v, ai_isA v = true → v.category = 1 := fun v h => by cases v <;> first | rfl | cases h
section AIS
variable {p : Program} {l : Launch} {e : Env} {R : Room} {s : State} {m : MethodId} {args : Array Value} {below : List Frame} {meth : Method} {c : Code} {H : Heap} {locs : List Loc} {cells slots : Nat} {Q : State → Prop}
variable {d w nL pc pc' : Nat} {rt : Option FieldType} {ad : Nat → Nat} {lv lv' : ai_L} {st st' : List Value} {ls : Array Slot} {x : ai_E} {cc : ByteArray} {h : ai_H} {q : ai_I}
variable {P : ai_P} {cl : List vw_C} {tb : List Cond} {D : va_G} {n0 : Nat} {A : Nat → Prop} {own : String} {tys : List (ClassId × FieldType)} {sl : ai_SL} {ao : List String} {nw : List Cond}
set_option maxHeartbeats 4000000 in
set_option maxRecDepth 100000 in
theorem ai_step (hx : p.tables.exec = Jvm.exec) (hb : c.code = cc) (hml : c.maxLocals = nL) (hts : ∀ w ∈ tb, w.before args s = true) (hCK : ai_K cl P.ty tb) (hown : s.vm.findClass own = some m.cls) (hK : va_K D cl [] s) (hac : ∀ t b, P.ac t b = true → ∃ (C : String) (T : u_T) (N : Nat), cl[b]? = some (C, T, N) ∧ (C = P.rc t ∨ Cond.castable C (P.rc t) ∈ nw))
    (hsl : ∀ z ∈ sl, va_Z z.1 z.2.1 z.2.2.1 (ai_v ad z.2.2.2) A s s.heap) (hslok : ∀ z ∈ sl, ai_ok h.length z.2.2.2) (hao : ∀ C ∈ ao, va_AO C s) (hnw : ∀ w ∈ nw, va_Nw w s) (hw : ai_w cl D P.rc P.p0 n0 ad h s H) (hS0 : va_S A s.heap H locs) (hA : ∀ q, n0 ≤ q → A q) (hn0 : n0 ≤ s.heap.size) (hRf : d ≤ R.frames) (hRl : w ≤ R.locals)
    (hdg : decode cc pc = .ok (q.ins, q.len)) (hok : ai_iok tb nw cl P.rc sl ao own meth.name pc q) (hq : ai_ex P d w nL rt q pc lv st h = some (.inl (pc', lv', st', x))) (hF : ai_F nL ad h.length lv st ls)
    (hr1 : cells + (ai_app h x).length ≤ R.cells + h.length) (hr2 : slots + ai_sz (ai_app h x) ≤ R.slots + ai_sz h)
    (kk : ∀ (ad' : Nat → Nat) (ls' : Array Slot) (H1 : Heap) (locs1 : List Loc) (c1 s1 : Nat), (∀ k, k < h.length → ad' k = ad k) → ai_F nL ad' (ai_app h x).length lv' st' ls' → ai_w cl D P.rc P.p0 n0 ad' (ai_app h x) s H1 → va_S A s.heap H1 locs1 → c1 + h.length = cells + (ai_app h x).length → s1 + ai_sz h = slots + ai_sz (ai_app h x) →
      W p l e R s m args below meth c H1 locs1 c1 s1 Q (F0 m pc' ls' (st'.map (ai_v ad')))) : W p l e R s m args below meth c H locs cells slots Q (F0 m pc ls (st.map (ai_v ad))) := by
  have k0 : ∀ ls', x = .inl () → ai_F nL ad h.length lv' st' ls' → W p l e R s m args below meth c H locs cells slots Q (F0 m pc' ls' (st'.map (ai_v ad))) := fun ls' hx' hF' => by subst hx'; exact kk ad ls' H locs cells slots (fun _ _ => rfl) hF' hw hS0 rfl rfl
  have k1 : ∀ (H1 : Heap) (locs1 : List Loc), (∃ k f, x = .inr (.inl (k, f)) ∧ k < h.length) → (ai_app h x).length = h.length → ai_F nL ad h.length lv' st' ls → ai_w cl D P.rc P.p0 n0 ad (ai_app h x) s H1 → va_S A s.heap H1 locs1 → W p l e R s m args below meth c H1 locs1 cells slots Q (F0 m pc' ls (st'.map (ai_v ad))) := by
    intro H1 locs1 ⟨k, f, hx', hkl⟩ hlen hF' hw' hS'
    have hsz : ai_sz (ai_app h x) = ai_sz h := by
      subst hx'
      have hg : h[k]? = some h[k] := List.getElem?_eq_getElem hkl
      simp only [ai_app, hg, ai_sz, List.map_set]
      congr 1
      apply List.ext_getElem? 
      intro i
      by_cases hik : i = k
      · subst hik
        rw [List.getElem?_set_self (by simpa using hkl)]
        simp [hkl]
      · rw [List.getElem?_set_ne (Ne.symm hik)]
    exact kk ad ls H1 locs1 cells slots (fun _ _ => rfl) (by rw [hlen]; exact hF') hw' hS' (by rw [hlen]) (by rw [hsz])
  have k2 : ∀ (ad' : Nat → Nat) (H1 : Heap) (N : Nat), (∃ c : ai_C, x = .inr (.inr c) ∧ c.2.1 = N) → (∀ k, k < h.length → ad' k = ad k) → ai_F nL ad' (h.length + 1) lv' st' ls → ai_w cl D P.rc P.p0 n0 ad' (ai_app h x) s H1 → va_S A s.heap H1 locs → W p l e R s m args below meth c H1 locs (cells + 1) (slots + N) Q (F0 m pc' ls (st'.map (ai_v ad'))) := by
    intro ad' H1 N ⟨c9, hx', hN⟩ he hF' hw' hS'
    have hlen : (ai_app h x).length = h.length + 1 := by subst hx'; simp [ai_app]
    have hsz : ai_sz (ai_app h x) = ai_sz h + N := by subst hx'; subst hN; simp [ai_app, ai_sz]
    exact kk ad' ls H1 locs (cells + 1) (slots + N) he (by rw [hlen]; exact hF') hw' hS' (by rw [hlen]; omega) (by rw [hsz]; omega)
  have kr : ∀ c9 : ai_C, x = .inr (.inr c9) → cells + 1 ≤ R.cells ∧ slots + c9.2.1 ≤ R.slots := by
    intro c9 hx'
    have hlen : (ai_app h x).length = h.length + 1 := by subst hx'; simp [ai_app]
    have hsz : ai_sz (ai_app h x) = ai_sz h + c9.2.1 := by subst hx'; simp [ai_app, ai_sz]
    rw [hlen] at hr1
    rw [hsz] at hr2
    exact ⟨by omega, by omega⟩
  obtain ⟨i, len, r1, r2, rv⟩ := q
  dsimp only [ai_I.ins, ai_I.len, ai_I.r1, ai_I.r2, ai_I.rv] at hdg
  cases i with
  | iconst n =>
    dsimp only [ai_iok, ai_I.ins, ai_I.len, ai_I.r1, ai_I.r2, ai_I.rv] at hok; dsimp only [ai_ex, ai_I.ins, ai_I.len, ai_I.r1, ai_I.r2, ai_I.rv] at hq
    obtain ⟨rfl, rfl⟩ := hok; cases hq; exact lv_iconst hx hb hdg rfl (k0 ls rfl (hF.st (ai_cons (ai_ok_i _ _) hF.2.2)))
  | bipush n =>
    dsimp only [ai_iok, ai_I.ins, ai_I.len, ai_I.r1, ai_I.r2, ai_I.rv] at hok; dsimp only [ai_ex, ai_I.ins, ai_I.len, ai_I.r1, ai_I.r2, ai_I.rv] at hq
    obtain ⟨rfl, rfl⟩ := hok; cases hq; exact lv_bipush hx hb hdg rfl (k0 ls rfl (hF.st (ai_cons (ai_ok_i _ _) hF.2.2)))
  | sipush n =>
    dsimp only [ai_iok, ai_I.ins, ai_I.len, ai_I.r1, ai_I.r2, ai_I.rv] at hok; dsimp only [ai_ex, ai_I.ins, ai_I.len, ai_I.r1, ai_I.r2, ai_I.rv] at hq
    obtain ⟨rfl, rfl⟩ := hok; cases hq; exact lv_sipush hx hb hdg rfl (k0 ls rfl (hF.st (ai_cons (ai_ok_i _ _) hF.2.2)))
  | lconst n =>
    dsimp only [ai_iok, ai_I.ins, ai_I.len, ai_I.r1, ai_I.r2, ai_I.rv] at hok; dsimp only [ai_ex, ai_I.ins, ai_I.len, ai_I.r1, ai_I.r2, ai_I.rv] at hq
    obtain ⟨rfl, rfl⟩ := hok; cases hq; exact lv_lconst hx hb hdg rfl (k0 ls rfl (hF.st (ai_cons (ai_ok_l _ _) hF.2.2)))
  | ldc n =>
    dsimp only [ai_iok, ai_I.ins, ai_I.len, ai_I.r1, ai_I.r2, ai_I.rv] at hok; dsimp only [ai_ex, ai_I.ins, ai_I.len, ai_I.r1, ai_I.r2, ai_I.rv] at hq
    obtain ⟨rfl, v, rfl, hc⟩ := hok; cases hq; exact lv_ldc hx hb hown (hts _ hc) hdg (k0 ls rfl (hF.st (ai_cons (ai_ok_i _ _) hF.2.2)))
  | ldc_w n =>
    dsimp only [ai_iok, ai_I.ins, ai_I.len, ai_I.r1, ai_I.r2, ai_I.rv] at hok; dsimp only [ai_ex, ai_I.ins, ai_I.len, ai_I.r1, ai_I.r2, ai_I.rv] at hq
    obtain ⟨rfl, v, rfl, hc⟩ := hok; cases hq; exact lv_ldcw hx hb hown (hts _ hc) hdg (k0 ls rfl (hF.st (ai_cons (ai_ok_i _ _) hF.2.2)))
  | ldc2_w n =>
    dsimp only [ai_iok, ai_I.ins, ai_I.len, ai_I.r1, ai_I.r2, ai_I.rv] at hok; dsimp only [ai_ex, ai_I.ins, ai_I.len, ai_I.r1, ai_I.r2, ai_I.rv] at hq
    obtain ⟨rfl, v, rfl, hc⟩ := hok; cases hq; exact lv_ldc2 hx hb hown (hts _ hc) hdg (k0 ls rfl (hF.st (ai_cons (ai_ok_l _ _) hF.2.2)))
  | getstatic n =>
    dsimp only [ai_iok, ai_I.ins, ai_I.len, ai_I.r1, ai_I.r2, ai_I.rv] at hok; dsimp only [ai_ex, ai_I.ins, ai_I.len, ai_I.r1, ai_I.r2, ai_I.rv] at hq
    obtain ⟨rfl, C, nn, dd, hc, hl⟩ := hok; cases hq; rcases hl with hl | ⟨host, hl⟩
    · exact va_gets hx hb (hsl _ hc) hS0 hown (hts _ hl) (fun _ h => h) hdg (k0 ls rfl (hF.st (ai_cons (hslok _ hc) hF.2.2)))
    · exact va_getsN hx hb (hsl _ hc) hS0 hown (va_Nw.use rfl (hnw _ hl)) (fun _ h => h) hdg (k0 ls rfl (hF.st (ai_cons (hslok _ hc) hF.2.2)))
  | aconst_null =>
    dsimp only [ai_iok, ai_I.ins, ai_I.len, ai_I.r1, ai_I.r2, ai_I.rv] at hok; dsimp only [ai_ex, ai_I.ins, ai_I.len, ai_I.r1, ai_I.r2, ai_I.rv] at hq
    subst hok; cases hq; exact lv_null hx hb hdg (k0 ls rfl (hF.st (ai_cons (ai_ok_n _) hF.2.2)))
  | iload i =>
    dsimp only [ai_iok, ai_I.ins, ai_I.len, ai_I.r1, ai_I.r2, ai_I.rv] at hok; dsimp only [ai_ex, ai_I.ins, ai_I.len, ai_I.r1, ai_I.r2, ai_I.rv] at hq
    subst hok; refine ar_ld (fun v hv hl kx => ?_) hq hF (k0 ls)
    cases v <;> first | (exact lv_iload hx hb hdg hl kx) | (cases hv)
  | iload_n i =>
    dsimp only [ai_iok, ai_I.ins, ai_I.len, ai_I.r1, ai_I.r2, ai_I.rv] at hok; dsimp only [ai_ex, ai_I.ins, ai_I.len, ai_I.r1, ai_I.r2, ai_I.rv] at hq
    subst hok; refine ar_ld (fun v hv hl kx => ?_) hq hF (k0 ls)
    cases v <;> first | (exact lv_iload_n hx hb hdg rfl hl kx) | (cases hv)
  | lload i =>
    dsimp only [ai_iok, ai_I.ins, ai_I.len, ai_I.r1, ai_I.r2, ai_I.rv] at hok; dsimp only [ai_ex, ai_I.ins, ai_I.len, ai_I.r1, ai_I.r2, ai_I.rv] at hq
    subst hok; refine ar_ld (fun v hv hl kx => ?_) hq hF (k0 ls)
    cases v <;> first | (exact lv_lload hx hb hdg hl kx) | (cases hv)
  | lload_n i =>
    dsimp only [ai_iok, ai_I.ins, ai_I.len, ai_I.r1, ai_I.r2, ai_I.rv] at hok; dsimp only [ai_ex, ai_I.ins, ai_I.len, ai_I.r1, ai_I.r2, ai_I.rv] at hq
    subst hok; refine ar_ld (fun v hv hl kx => ?_) hq hF (k0 ls)
    cases v <;> first | (exact lv_lload_n hx hb hdg rfl hl kx) | (cases hv)
  | aload i =>
    dsimp only [ai_iok, ai_I.ins, ai_I.len, ai_I.r1, ai_I.r2, ai_I.rv] at hok; dsimp only [ai_ex, ai_I.ins, ai_I.len, ai_I.r1, ai_I.r2, ai_I.rv] at hq
    subst hok; refine ar_ld (fun v hv hl kx => ?_) hq hF (k0 ls)
    cases v <;> first | (exact lv_aload hx hb hdg hl kx) | (exact lv_aloadN hx hb hdg hl kx) | (cases hv)
  | aload_n i =>
    dsimp only [ai_iok, ai_I.ins, ai_I.len, ai_I.r1, ai_I.r2, ai_I.rv] at hok; dsimp only [ai_ex, ai_I.ins, ai_I.len, ai_I.r1, ai_I.r2, ai_I.rv] at hq
    subst hok; refine ar_ld (fun v hv hl kx => ?_) hq hF (k0 ls)
    cases v <;> first | (exact lv_aload_n hx hb hdg rfl hl kx) | (exact lv_aload_nN hx hb hdg rfl hl kx) | (cases hv)
  | istore i =>
    dsimp only [ai_iok, ai_I.ins, ai_I.len, ai_I.r1, ai_I.r2, ai_I.rv] at hok; dsimp only [ai_ex, ai_I.ins, ai_I.len, ai_I.r1, ai_I.r2, ai_I.rv] at hq
    subst hok; refine ar_sto ai_isI_cat (fun v r lw hv hn hl kx => ?_) hq hF k0
    cases v <;> first | (exact lv_istore hx hb hdg hl hn rfl kx) | (cases hv)
  | istore_n i =>
    dsimp only [ai_iok, ai_I.ins, ai_I.len, ai_I.r1, ai_I.r2, ai_I.rv] at hok; dsimp only [ai_ex, ai_I.ins, ai_I.len, ai_I.r1, ai_I.r2, ai_I.rv] at hq
    subst hok; refine ar_sto ai_isI_cat (fun v r lw hv hn hl kx => ?_) hq hF k0
    cases v <;> first | (exact lv_istore_n hx hb hdg rfl hl hn rfl kx) | (cases hv)
  | astore i =>
    dsimp only [ai_iok, ai_I.ins, ai_I.len, ai_I.r1, ai_I.r2, ai_I.rv] at hok; dsimp only [ai_ex, ai_I.ins, ai_I.len, ai_I.r1, ai_I.r2, ai_I.rv] at hq
    subst hok; refine ar_sto ai_isA_cat (fun v r lw hv hn hl kx => ?_) hq hF k0
    cases v <;> first | (exact lv_astore hx hb hdg hl hn rfl kx) | (exact lv_astoreN hx hb hdg hl hn rfl kx) | (cases hv)
  | astore_n i =>
    dsimp only [ai_iok, ai_I.ins, ai_I.len, ai_I.r1, ai_I.r2, ai_I.rv] at hok; dsimp only [ai_ex, ai_I.ins, ai_I.len, ai_I.r1, ai_I.r2, ai_I.rv] at hq
    subst hok; refine ar_sto ai_isA_cat (fun v r lw hv hn hl kx => ?_) hq hF k0
    cases v <;> first | (exact lv_astore_n hx hb hdg rfl hl hn rfl kx) | (exact lv_astore_nN hx hb hdg rfl hl hn rfl kx) | (cases hv)
  | lstore i =>
    dsimp only [ai_iok, ai_I.ins, ai_I.len, ai_I.r1, ai_I.r2, ai_I.rv] at hok; dsimp only [ai_ex, ai_I.ins, ai_I.len, ai_I.r1, ai_I.r2, ai_I.rv] at hq
    subst hok; exact ar_stoL (fun v r lw hn hl kx => lv_lstore hx hb hdg hl hn rfl kx) hq hF k0
  | lstore_n i =>
    dsimp only [ai_iok, ai_I.ins, ai_I.len, ai_I.r1, ai_I.r2, ai_I.rv] at hok; dsimp only [ai_ex, ai_I.ins, ai_I.len, ai_I.r1, ai_I.r2, ai_I.rv] at hq
    subst hok; exact ar_stoL (fun v r lw hn hl kx => lv_lstore_n hx hb hdg rfl hl hn rfl kx) hq hF k0
  | iinc i k =>
    dsimp only [ai_iok, ai_I.ins, ai_I.len, ai_I.r1, ai_I.r2, ai_I.rv] at hok; dsimp only [ai_ex, ai_I.ins, ai_I.len, ai_I.r1, ai_I.r2, ai_I.rv] at hq
    obtain ⟨rfl, rfl⟩ := hok
    unfold ai_inc at hq
    split at hq
    · rename_i xx kv hlk he
      split at hq
      · rename_i hn
        cases he
        cases hq
        obtain ⟨h1, h2⟩ := hF.at hlk
        obtain ⟨j, hj⟩ := List.getElem?_of_mem (List.mem_map_of_mem (f := fun q : Nat × Value => (q.1, ai_v ad q.2)) (ai_mem_lookup hlk))
        refine lv_iinc (k := j) hx hb hdg hF.1 hj rfl hn rfl (fun ls' hl => k0 ls' rfl ⟨?_, ai_st1_ok hF.2.1 (ai_ok_i _ _), hF.2.2⟩)
        rw [ai_lc_st1]; exact hl
      · cases hq
    · cases hq
  | iadd =>
    dsimp only [ai_iok, ai_I.ins, ai_I.len, ai_I.r1, ai_I.r2, ai_I.rv] at hok; dsimp only [ai_ex, ai_I.ins, ai_I.len, ai_I.r1, ai_I.r2, ai_I.rv] at hq
    subst hok; exact ar_bin (fun a b r k => lv_iadd hx hb hdg k) hq hF (k0 ls)
  | isub =>
    dsimp only [ai_iok, ai_I.ins, ai_I.len, ai_I.r1, ai_I.r2, ai_I.rv] at hok; dsimp only [ai_ex, ai_I.ins, ai_I.len, ai_I.r1, ai_I.r2, ai_I.rv] at hq
    subst hok; exact ar_bin (fun a b r k => lv_isub hx hb hdg k) hq hF (k0 ls)
  | imul =>
    dsimp only [ai_iok, ai_I.ins, ai_I.len, ai_I.r1, ai_I.r2, ai_I.rv] at hok; dsimp only [ai_ex, ai_I.ins, ai_I.len, ai_I.r1, ai_I.r2, ai_I.rv] at hq
    subst hok; exact ar_bin (fun a b r k => lv_imul hx hb hdg k) hq hF (k0 ls)
  | iand =>
    dsimp only [ai_iok, ai_I.ins, ai_I.len, ai_I.r1, ai_I.r2, ai_I.rv] at hok; dsimp only [ai_ex, ai_I.ins, ai_I.len, ai_I.r1, ai_I.r2, ai_I.rv] at hq
    subst hok; exact ar_bin (fun a b r k => lv_iand hx hb hdg k) hq hF (k0 ls)
  | ior =>
    dsimp only [ai_iok, ai_I.ins, ai_I.len, ai_I.r1, ai_I.r2, ai_I.rv] at hok; dsimp only [ai_ex, ai_I.ins, ai_I.len, ai_I.r1, ai_I.r2, ai_I.rv] at hq
    subst hok; exact ar_bin (fun a b r k => lv_ior hx hb hdg k) hq hF (k0 ls)
  | ixor =>
    dsimp only [ai_iok, ai_I.ins, ai_I.len, ai_I.r1, ai_I.r2, ai_I.rv] at hok; dsimp only [ai_ex, ai_I.ins, ai_I.len, ai_I.r1, ai_I.r2, ai_I.rv] at hq
    subst hok; exact ar_bin (fun a b r k => lv_ixor hx hb hdg k) hq hF (k0 ls)
  | ishl =>
    dsimp only [ai_iok, ai_I.ins, ai_I.len, ai_I.r1, ai_I.r2, ai_I.rv] at hok; dsimp only [ai_ex, ai_I.ins, ai_I.len, ai_I.r1, ai_I.r2, ai_I.rv] at hq
    subst hok; exact ar_bin (fun a b r k => lv_ishl hx hb hdg k) hq hF (k0 ls)
  | ishr =>
    dsimp only [ai_iok, ai_I.ins, ai_I.len, ai_I.r1, ai_I.r2, ai_I.rv] at hok; dsimp only [ai_ex, ai_I.ins, ai_I.len, ai_I.r1, ai_I.r2, ai_I.rv] at hq
    subst hok; exact ar_bin (fun a b r k => lv_ishr hx hb hdg k) hq hF (k0 ls)
  | iushr =>
    dsimp only [ai_iok, ai_I.ins, ai_I.len, ai_I.r1, ai_I.r2, ai_I.rv] at hok; dsimp only [ai_ex, ai_I.ins, ai_I.len, ai_I.r1, ai_I.r2, ai_I.rv] at hq
    subst hok; exact ar_bin (fun a b r k => lv_iushr hx hb hdg rfl k) hq hF (k0 ls)
  | ladd =>
    dsimp only [ai_iok, ai_I.ins, ai_I.len, ai_I.r1, ai_I.r2, ai_I.rv] at hok; dsimp only [ai_ex, ai_I.ins, ai_I.len, ai_I.r1, ai_I.r2, ai_I.rv] at hq
    subst hok; exact ar_binL (fun a b r k => lv_ladd hx hb hdg k) hq hF (k0 ls)
  | lsub =>
    dsimp only [ai_iok, ai_I.ins, ai_I.len, ai_I.r1, ai_I.r2, ai_I.rv] at hok; dsimp only [ai_ex, ai_I.ins, ai_I.len, ai_I.r1, ai_I.r2, ai_I.rv] at hq
    subst hok; exact ar_binL (fun a b r k => lv_lsub hx hb hdg k) hq hF (k0 ls)
  | lmul =>
    dsimp only [ai_iok, ai_I.ins, ai_I.len, ai_I.r1, ai_I.r2, ai_I.rv] at hok; dsimp only [ai_ex, ai_I.ins, ai_I.len, ai_I.r1, ai_I.r2, ai_I.rv] at hq
    subst hok; exact ar_binL (fun a b r k => lv_lmul hx hb hdg k) hq hF (k0 ls)
  | land =>
    dsimp only [ai_iok, ai_I.ins, ai_I.len, ai_I.r1, ai_I.r2, ai_I.rv] at hok; dsimp only [ai_ex, ai_I.ins, ai_I.len, ai_I.r1, ai_I.r2, ai_I.rv] at hq
    subst hok; exact ar_binL (fun a b r k => lv_land hx hb hdg k) hq hF (k0 ls)
  | lor =>
    dsimp only [ai_iok, ai_I.ins, ai_I.len, ai_I.r1, ai_I.r2, ai_I.rv] at hok; dsimp only [ai_ex, ai_I.ins, ai_I.len, ai_I.r1, ai_I.r2, ai_I.rv] at hq
    subst hok; exact ar_binL (fun a b r k => lv_lor hx hb hdg k) hq hF (k0 ls)
  | lxor =>
    dsimp only [ai_iok, ai_I.ins, ai_I.len, ai_I.r1, ai_I.r2, ai_I.rv] at hok; dsimp only [ai_ex, ai_I.ins, ai_I.len, ai_I.r1, ai_I.r2, ai_I.rv] at hq
    subst hok; exact ar_binL (fun a b r k => lv_lxor hx hb hdg k) hq hF (k0 ls)
  | lshl =>
    dsimp only [ai_iok, ai_I.ins, ai_I.len, ai_I.r1, ai_I.r2, ai_I.rv] at hok; dsimp only [ai_ex, ai_I.ins, ai_I.len, ai_I.r1, ai_I.r2, ai_I.rv] at hq
    subst hok; exact ar_binS (fun a b r k => lv_lshl hx hb hdg rfl k) hq hF (k0 ls)
  | lshr =>
    dsimp only [ai_iok, ai_I.ins, ai_I.len, ai_I.r1, ai_I.r2, ai_I.rv] at hok; dsimp only [ai_ex, ai_I.ins, ai_I.len, ai_I.r1, ai_I.r2, ai_I.rv] at hq
    subst hok; exact ar_binS (fun a b r k => lv_lshr hx hb hdg rfl k) hq hF (k0 ls)
  | idiv =>
    dsimp only [ai_iok, ai_I.ins, ai_I.len, ai_I.r1, ai_I.r2, ai_I.rv] at hok; dsimp only [ai_ex, ai_I.ins, ai_I.len, ai_I.r1, ai_I.r2, ai_I.rv] at hq
    subst hok; exact ar_div (fun a b r hne k => lv_idiv hx hb hdg hne k) hq hF (k0 ls)
  | irem =>
    dsimp only [ai_iok, ai_I.ins, ai_I.len, ai_I.r1, ai_I.r2, ai_I.rv] at hok; dsimp only [ai_ex, ai_I.ins, ai_I.len, ai_I.r1, ai_I.r2, ai_I.rv] at hq
    subst hok; exact ar_div (fun a b r hne k => lv_irem hx hb hdg hne k) hq hF (k0 ls)
  | i2b =>
    dsimp only [ai_iok, ai_I.ins, ai_I.len, ai_I.r1, ai_I.r2, ai_I.rv] at hok; dsimp only [ai_ex, ai_I.ins, ai_I.len, ai_I.r1, ai_I.r2, ai_I.rv] at hq
    subst hok; exact ar_un (fun a r k => lv_i2b hx hb hdg rfl k) hq hF (k0 ls)
  | i2c =>
    dsimp only [ai_iok, ai_I.ins, ai_I.len, ai_I.r1, ai_I.r2, ai_I.rv] at hok; dsimp only [ai_ex, ai_I.ins, ai_I.len, ai_I.r1, ai_I.r2, ai_I.rv] at hq
    subst hok; exact ar_un (fun a r k => lv_i2c hx hb hdg rfl k) hq hF (k0 ls)
  | i2l =>
    dsimp only [ai_iok, ai_I.ins, ai_I.len, ai_I.r1, ai_I.r2, ai_I.rv] at hok; dsimp only [ai_ex, ai_I.ins, ai_I.len, ai_I.r1, ai_I.r2, ai_I.rv] at hq
    subst hok; split at hq
    · cases hq; exact lv_i2l hx hb hdg rfl (k0 ls rfl (hF.st (ai_cons (ai_ok_l _ _) (ai_tl hF.2.2))))
    · cases hq
  | l2i =>
    dsimp only [ai_iok, ai_I.ins, ai_I.len, ai_I.r1, ai_I.r2, ai_I.rv] at hok; dsimp only [ai_ex, ai_I.ins, ai_I.len, ai_I.r1, ai_I.r2, ai_I.rv] at hq
    subst hok; split at hq
    · cases hq; exact lv_l2i hx hb hdg rfl (k0 ls rfl (hF.st (ai_cons (ai_ok_i _ _) (ai_tl hF.2.2))))
    · cases hq
  | lcmp =>
    dsimp only [ai_iok, ai_I.ins, ai_I.len, ai_I.r1, ai_I.r2, ai_I.rv] at hok; dsimp only [ai_ex, ai_I.ins, ai_I.len, ai_I.r1, ai_I.r2, ai_I.rv] at hq
    subst hok; split at hq
    · cases hq; exact W.lcmp hx hb hdg (k0 ls rfl (hF.st (ai_cons (ai_ok_i _ _) (ai_tl (ai_tl hF.2.2)))))
    · cases hq
  | dup =>
    dsimp only [ai_iok, ai_I.ins, ai_I.len, ai_I.r1, ai_I.r2, ai_I.rv] at hok; dsimp only [ai_ex, ai_I.ins, ai_I.len, ai_I.r1, ai_I.r2, ai_I.rv] at hq
    subst hok; split at hq
    · split at hq
      · rename_i hcat; cases hq; exact lv_dup hx hb hdg ((ai_cat ad _).trans hcat) (k0 ls rfl (hF.st (ai_cons (ai_hd hF.2.2) hF.2.2)))
      · cases hq
    · cases hq
  | pop =>
    dsimp only [ai_iok, ai_I.ins, ai_I.len, ai_I.r1, ai_I.r2, ai_I.rv] at hok; dsimp only [ai_ex, ai_I.ins, ai_I.len, ai_I.r1, ai_I.r2, ai_I.rv] at hq
    subst hok; split at hq
    · split at hq
      · rename_i hcat; cases hq; exact lv_pop hx hb hdg ((ai_cat ad _).trans hcat) (k0 ls rfl (hF.st (ai_tl hF.2.2)))
      · cases hq
    · cases hq
  | dup2 =>
    dsimp only [ai_iok, ai_I.ins, ai_I.len, ai_I.r1, ai_I.r2, ai_I.rv] at hok; dsimp only [ai_ex, ai_I.ins, ai_I.len, ai_I.r1, ai_I.r2, ai_I.rv] at hq
    subst hok; split at hq
    · split at hq
      · rename_i hcat; cases hq; exact lv_dup2_11 hx hb hdg ((ai_cat ad _).trans hcat.1) ((ai_cat ad _).trans hcat.2) (k0 ls rfl (hF.st (ai_cons (ai_hd hF.2.2) (ai_cons (ai_hd (ai_tl hF.2.2)) hF.2.2))))
      · cases hq
    · cases hq
  | dup_x1 =>
    dsimp only [ai_iok, ai_I.ins, ai_I.len, ai_I.r1, ai_I.r2, ai_I.rv] at hok; dsimp only [ai_ex, ai_I.ins, ai_I.len, ai_I.r1, ai_I.r2, ai_I.rv] at hq
    subst hok; split at hq
    · split at hq
      · rename_i hcat; cases hq; exact lv_dup_x1 hx hb hdg ((ai_cat ad _).trans hcat.1) ((ai_cat ad _).trans hcat.2) (k0 ls rfl (hF.st (ai_cons (ai_hd hF.2.2) (ai_cons (ai_hd (ai_tl hF.2.2)) (ai_cons (ai_hd hF.2.2) (ai_tl (ai_tl hF.2.2)))))))
      · cases hq
    · cases hq
  | ifCond k off =>
    dsimp only [ai_iok, ai_I.ins, ai_I.len, ai_I.r1, ai_I.r2, ai_I.rv] at hok; dsimp only [ai_ex, ai_I.ins, ai_I.len, ai_I.r1, ai_I.r2, ai_I.rv] at hq
    obtain ⟨rfl, ho⟩ := hok
    cases k with
    | eq => exact ar_if (fun a r kt kf => lv_if_eq hx hb hdg ho (fun hh => kt (by simpa using hh)) (fun hh => kf (by simpa using hh))) hq hF (k0 ls)
    | ne => exact ar_if (fun a r kt kf => lv_if_ne hx hb hdg ho (fun hh => kt (by simpa using hh)) (fun hh => kf (by simpa using hh))) hq hF (k0 ls)
    | lt => exact ar_if (fun a r kt kf => lv_if_lt hx hb hdg ho (fun hh => kt (by simpa using hh)) (fun hh => kf (by simpa using hh))) hq hF (k0 ls)
    | ge => exact ar_if (fun a r kt kf => lv_if_ge hx hb hdg ho (fun hh => kt (by simpa using hh)) (fun hh => kf (by simpa using hh))) hq hF (k0 ls)
    | gt => exact ar_if (fun a r kt kf => lv_if_gt hx hb hdg ho (fun hh => kt (by simpa using hh)) (fun hh => kf (by simpa using hh))) hq hF (k0 ls)
    | le => exact ar_if (fun a r kt kf => lv_if_le hx hb hdg ho (fun hh => kt (by simpa using hh)) (fun hh => kf (by simpa using hh))) hq hF (k0 ls)
  | if_icmp k off =>
    dsimp only [ai_iok, ai_I.ins, ai_I.len, ai_I.r1, ai_I.r2, ai_I.rv] at hok; dsimp only [ai_ex, ai_I.ins, ai_I.len, ai_I.r1, ai_I.r2, ai_I.rv] at hq
    obtain ⟨rfl, ho⟩ := hok
    cases k with
    | eq => exact ar_cmp (fun a y r kt kf => lv_icmp_eq hx hb hdg ho (fun hh => kt (by simpa using hh)) (fun hh => kf (by simpa using hh))) hq hF (k0 ls)
    | ne => exact ar_cmp (fun a y r kt kf => lv_icmp_ne hx hb hdg ho (fun hh => kt (by simpa using hh)) (fun hh => kf (by simpa using hh))) hq hF (k0 ls)
    | lt => exact ar_cmp (fun a y r kt kf => lv_icmp_lt hx hb hdg ho (fun hh => kt (by simpa using hh)) (fun hh => kf (by simpa using hh))) hq hF (k0 ls)
    | ge => exact ar_cmp (fun a y r kt kf => lv_icmp_ge hx hb hdg ho (fun hh => kt (by simpa using hh)) (fun hh => kf (by simpa using hh))) hq hF (k0 ls)
    | gt => exact ar_cmp (fun a y r kt kf => lv_icmp_gt hx hb hdg ho (fun hh => kt (by simpa using hh)) (fun hh => kf (by simpa using hh))) hq hF (k0 ls)
    | le => exact ar_cmp (fun a y r kt kf => lv_icmp_le hx hb hdg ho (fun hh => kt (by simpa using hh)) (fun hh => kf (by simpa using hh))) hq hF (k0 ls)
  | ifnull off =>
    dsimp only [ai_iok, ai_I.ins, ai_I.len, ai_I.r1, ai_I.r2, ai_I.rv] at hok; dsimp only [ai_ex, ai_I.ins, ai_I.len, ai_I.r1, ai_I.r2, ai_I.rv] at hq
    obtain ⟨rfl, ho⟩ := hok; split at hq
    · cases hq; exact lv_ifnullN hx hb hdg ho (k0 ls rfl (hF.st (ai_tl hF.2.2)))
    · cases hq; exact lv_ifnull hx hb hdg (k0 ls rfl (hF.st (ai_tl hF.2.2)))
    · cases hq
  | ifnonnull off =>
    dsimp only [ai_iok, ai_I.ins, ai_I.len, ai_I.r1, ai_I.r2, ai_I.rv] at hok; dsimp only [ai_ex, ai_I.ins, ai_I.len, ai_I.r1, ai_I.r2, ai_I.rv] at hq
    obtain ⟨rfl, ho⟩ := hok; split at hq
    · cases hq; exact lv_ifnonnullN hx hb hdg (k0 ls rfl (hF.st (ai_tl hF.2.2)))
    · cases hq; exact lv_ifnonnull hx hb hdg ho (k0 ls rfl (hF.st (ai_tl hF.2.2)))
    · cases hq
  | goto off =>
    dsimp only [ai_iok, ai_I.ins, ai_I.len, ai_I.r1, ai_I.r2, ai_I.rv] at hok; dsimp only [ai_ex, ai_I.ins, ai_I.len, ai_I.r1, ai_I.r2, ai_I.rv] at hq
    obtain ⟨rfl, ho⟩ := hok; cases hq; exact lv_goto hx hb hdg ho (k0 ls rfl hF)
  | tableswitch dd lo hi offs =>
    dsimp only [ai_iok, ai_I.ins, ai_I.len, ai_I.r1, ai_I.r2, ai_I.rv] at hok; dsimp only [ai_ex, ai_I.ins, ai_I.len, ai_I.r1, ai_I.r2, ai_I.rv] at hq
    unfold ai_sw at hq
    split at hq
    · split at hq
      · rename_i hc
        split at hq
        · rename_i h0
          cases hq
          exact lv_tableOut hx hb hdg hc (Int.toNat_of_nonneg h0).symm (k0 ls rfl (hF.st (ai_tl hF.2.2)))
        · cases hq
      · rename_i hc
        split at hq
        · rename_i off ho
          split at hq
          · rename_i h0
            cases hq
            exact lv_tableIn hx hb hdg (fun z => hc (Or.inl z)) (fun z => hc (Or.inr z)) ho (Int.toNat_of_nonneg h0).symm (k0 ls rfl (hF.st (ai_tl hF.2.2)))
          · cases hq
        · cases hq
    · cases hq
  | getfield idx =>
    dsimp only [ai_iok, ai_I.ins, ai_I.len, ai_I.r1, ai_I.r2, ai_I.rv] at hok; dsimp only [ai_ex, ai_I.ins, ai_I.len, ai_I.r1, ai_I.r2, ai_I.rv] at hq
    obtain ⟨rfl, hci, C, T, N, hc, hk, hl, -⟩ := hok; exact ar_get hx hb hts hCK hown hK hw hci hc hk hl hdg hq hF (k0 ls)
  | putfield idx =>
    dsimp only [ai_iok, ai_I.ins, ai_I.len, ai_I.r1, ai_I.r2, ai_I.rv] at hok; dsimp only [ai_ex, ai_I.ins, ai_I.len, ai_I.r1, ai_I.r2, ai_I.rv] at hq
    obtain ⟨rfl, hci, C, T, N, hc, hk, hl, hfin⟩ := hok; exact ar_put hx hb hts hCK hown hK hw hS0 hA hci hc hk hl (hfin _ rfl) hdg hq hF k1
  | new idx =>
    dsimp only [ai_iok, ai_I.ins, ai_I.len, ai_I.r1, ai_I.r2, ai_I.rv] at hok; dsimp only [ai_ex, ai_I.ins, ai_I.len, ai_I.r1, ai_I.r2, ai_I.rv] at hq
    obtain ⟨rfl, hok⟩ := hok
    split at hq
    · cases hq
    · rename_i hne
      rcases hok with h9 | ⟨hci, C, T, hc, h1, h2, h3⟩
      · exact absurd h9 hne
      · have hx' : ∃ c9 : ai_C, x = .inr (.inr c9) ∧ c9.2.1 = r2 := by unfold ai_newo ai_nxE at hq; cases hq; exact ⟨_, rfl, rfl⟩
        obtain ⟨c9, hx9, hN⟩ := hx'
        obtain ⟨g1, g2⟩ := kr c9 hx9
        exact ar_new hx hb hts hCK hown hK hw hS0 hn0 hci hc h1 h2 h3 g1 (by rw [← hN]; exact g2) hdg hq hF (fun ad' H1 => k2 ad' H1 r2)
  | newarray t =>
    dsimp only [ai_iok, ai_I.ins, ai_I.len, ai_I.r1, ai_I.r2, ai_I.rv] at hok; dsimp only [ai_ex, ai_I.ins, ai_I.len, ai_I.r1, ai_I.r2, ai_I.rv] at hq
    obtain ⟨rfl, h1, h2, h3⟩ := hok
    refine ar_newa hx hb hw hS0 hn0 h1 h2 (hts _ h3) (fun r n hst => ?_) hdg hq hF k2
    subst hst
    unfold ai_newa at hq
    dsimp only at hq
    split at hq
    · unfold ai_nxE at hq
      cases hq
      exact kr _ rfl
    · cases hq
  | anewarray idx =>
    dsimp only [ai_iok, ai_I.ins, ai_I.len, ai_I.r1, ai_I.r2, ai_I.rv] at hok; dsimp only [ai_ex, ai_I.ins, ai_I.len, ai_I.r1, ai_I.r2, ai_I.rv] at hq
    obtain ⟨rfl, h1, h2, h3, h4⟩ := hok
    refine ar_anew hx hb hown hw hS0 hn0 h1 h2 (hts _ h3) (hao _ h4) (fun r n hst => ?_) hdg hq hF k2
    subst hst
    unfold ai_newa at hq
    dsimp only at hq
    split at hq
    · unfold ai_nxE at hq
      cases hq
      exact kr _ rfl
    · cases hq
  | iaload =>
    dsimp only [ai_iok, ai_I.ins, ai_I.len, ai_I.r1, ai_I.r2, ai_I.rv] at hok; dsimp only [ai_ex, ai_I.ins, ai_I.len, ai_I.r1, ai_I.r2, ai_I.rv] at hq
    subst hok
    refine ar_ald (fun t ht => by simp at ht; omega) hw (fun t a n j cell v r ht g1 g2 g3 g4 g5 kx => ?_) hq hF (k0 ls)
    simp at ht
    subst ht
    exact W.iald hx hb g1 g2 g3 g4 g5 rfl rfl hdg kx
  | laload =>
    dsimp only [ai_iok, ai_I.ins, ai_I.len, ai_I.r1, ai_I.r2, ai_I.rv] at hok; dsimp only [ai_ex, ai_I.ins, ai_I.len, ai_I.r1, ai_I.r2, ai_I.rv] at hq
    subst hok
    refine ar_ald (fun t ht => by simp at ht; omega) hw (fun t a n j cell v r ht g1 g2 g3 g4 g5 kx => ?_) hq hF (k0 ls)
    simp at ht
    subst ht
    exact W.lald hx hb g1 g2 g3 g4 g5 rfl rfl hdg kx
  | baload =>
    dsimp only [ai_iok, ai_I.ins, ai_I.len, ai_I.r1, ai_I.r2, ai_I.rv] at hok; dsimp only [ai_ex, ai_I.ins, ai_I.len, ai_I.r1, ai_I.r2, ai_I.rv] at hq
    subst hok
    refine ar_ald (fun t ht => by simp at ht; omega) hw (fun t a n j cell v r ht g1 g2 g3 g4 g5 kx => ?_) hq hF (k0 ls)
    simp at ht
    rcases ht with rfl | rfl
    · exact W.bald hx hb g1 g2 g3 g4 g5 rfl rfl hdg kx
    · exact W.zald hx hb g1 g2 g3 g4 g5 rfl rfl hdg kx
  | aaload =>
    dsimp only [ai_iok, ai_I.ins, ai_I.len, ai_I.r1, ai_I.r2, ai_I.rv] at hok; dsimp only [ai_ex, ai_I.ins, ai_I.len, ai_I.r1, ai_I.r2, ai_I.rv] at hq
    subst hok
    refine ar_ald (fun t ht => by simp at ht; omega) hw (fun t a n j cell v r ht g1 g2 g3 g4 g5 kx => ?_) hq hF (k0 ls)
    simp at ht
    have hty : ai_ty P.rc t = .object (P.rc t) := by unfold ai_ty; rw [if_neg (by omega), if_neg (by omega), if_neg (by omega), if_neg (by omega), if_neg (by omega)]
    rw [hty] at g2
    exact W.aald hx hb g1 g2 rfl g3 g4 g5 rfl rfl hdg kx
  | iastore =>
    dsimp only [ai_iok, ai_I.ins, ai_I.len, ai_I.r1, ai_I.r2, ai_I.rv] at hok; dsimp only [ai_ex, ai_I.ins, ai_I.len, ai_I.r1, ai_I.r2, ai_I.rv] at hq
    subst hok
    refine ar_ast (fun t ht => by simp at ht; omega) (fun t v w hv n hn => ?_) hw hS0 hA (fun t a n j cell v w r ht hv hvo g1 g2 g3 g4 g5 kx => ?_) hq hF k1
    · unfold ai_narI at hv; split at hv <;> first | (cases hv; exact ai_ok_i _ _) | (cases hv; exact ai_ok_l _ _) | (split at hv <;> (cases hv; exact ai_ok_i _ _)) | (cases hv)
    · simp at ht
      subst ht
      unfold ai_narI at hv
      split at hv
      · cases hv; exact W.iast hx hb g1 g2 (by rw [g3]; exact fun z => by cases z) g5 rfl rfl hdg kx
      · cases hv
  | lastore =>
    dsimp only [ai_iok, ai_I.ins, ai_I.len, ai_I.r1, ai_I.r2, ai_I.rv] at hok; dsimp only [ai_ex, ai_I.ins, ai_I.len, ai_I.r1, ai_I.r2, ai_I.rv] at hq
    subst hok
    refine ar_ast (fun t ht => by simp at ht; omega) (fun t v w hv n hn => ?_) hw hS0 hA (fun t a n j cell v w r ht hv hvo g1 g2 g3 g4 g5 kx => ?_) hq hF k1
    · unfold ai_narJ at hv; split at hv <;> first | (cases hv; exact ai_ok_i _ _) | (cases hv; exact ai_ok_l _ _) | (split at hv <;> (cases hv; exact ai_ok_i _ _)) | (cases hv)
    · simp at ht
      subst ht
      unfold ai_narJ at hv
      split at hv
      · cases hv; exact W.last hx hb g1 g2 (by rw [g3]; exact fun z => by cases z) g5 rfl rfl hdg kx
      · cases hv
  | bastore =>
    dsimp only [ai_iok, ai_I.ins, ai_I.len, ai_I.r1, ai_I.r2, ai_I.rv] at hok; dsimp only [ai_ex, ai_I.ins, ai_I.len, ai_I.r1, ai_I.r2, ai_I.rv] at hq
    subst hok
    refine ar_ast (fun t ht => by simp at ht; omega) (fun t v w hv n hn => ?_) hw hS0 hA (fun t a n j cell v w r ht hv hvo g1 g2 g3 g4 g5 kx => ?_) hq hF k1
    · unfold ai_narB at hv; split at hv <;> first | (cases hv; exact ai_ok_i _ _) | (cases hv; exact ai_ok_l _ _) | (split at hv <;> (cases hv; exact ai_ok_i _ _)) | (cases hv)
    · simp at ht
      unfold ai_narB at hv
      split at hv
      · rcases ht with rfl | rfl
        · rw [if_pos rfl] at hv; cases hv; exact W.bast hx hb g1 g2 (by rw [g3]; exact fun z => by cases z) g5 rfl rfl hdg kx
        · rw [if_neg (by decide)] at hv; cases hv; exact W.zast hx hb g1 g2 (by rw [g3]; exact fun z => by cases z) g5 rfl rfl hdg kx
      · cases hv
  | arraylength =>
    dsimp only [ai_iok, ai_I.ins, ai_I.len, ai_I.r1, ai_I.r2, ai_I.rv] at hok; dsimp only [ai_ex, ai_I.ins, ai_I.len, ai_I.r1, ai_I.r2, ai_I.rv] at hq
    subst hok; exact ar_len hx hb hw hdg hq hF (k0 ls)
  | checkcast idx =>
    dsimp only [ai_iok, ai_I.ins, ai_I.len, ai_I.r1, ai_I.r2, ai_I.rv] at hok; dsimp only [ai_ex, ai_I.ins, ai_I.len, ai_I.r1, ai_I.r2, ai_I.rv] at hq
    obtain ⟨rfl, hci, C, T, N, hc, hl⟩ := hok
    split at hq
    · cases hq; exact lv_castN hx hb hdg (k0 ls rfl (hF.st (ai_cons (ai_ok_n _) (ai_tl hF.2.2))))
    · split at hq
      · rename_i a r t n f ha
        split at hq
        · rename_i ht
          cases hq
          subst ht
          obtain ⟨r0, h1, h2, cell, q1, q2, q3, q4⟩ := (hw.1 _ _ ha).1 hci
          obtain ⟨-, hCA⟩ := hK.1 _ _ hc
          refine va_castS hx hb hown (hts _ hl) hCA ⟨cell, q1, by rw [q3]; rfl, by rw [q2]; exact hCA.1⟩ hdg (k0 ls rfl (hF.st hF.2.2))
        · cases hq
      · cases hq
    · cases hq
  | invokespecial idx =>
    dsimp only [ai_iok, ai_I.ins, ai_I.len, ai_I.r1, ai_I.r2, ai_I.rv] at hok; dsimp only [ai_ex, ai_I.ins, ai_I.len, ai_I.r1, ai_I.r2, ai_I.rv] at hq
    obtain ⟨rfl, hok⟩ := hok
    split at hq
    · rename_i h5
      obtain ⟨h1, h2, h3⟩ := hok h5
      split at hq
      · split at hq
        · rename_i a r hcd
          cases hq
          exact W.objInit hx hb hown (hts _ h1) (hts _ h2) (hts _ h3) rfl (by rw [hml]; exact hF.1.1) rfl hdg (by omega) (by rw [ai_wt_map]; show 2 * 0 + _ + 12 ≤ _; omega) (k0 ls rfl (hF.st (ai_tl hF.2.2)))
        · cases hq
      · cases hq
    · split at hq
      case h_2 => cases hq
      unfold ai_inv at hq
      split at hq
      · cases hq
      · split at hq
        · split at hq
          · split at hq
            · split at hq <;> cases hq
            · cases hq
          · cases hq
        · cases hq
  | invokestatic idx =>
    dsimp only [ai_iok, ai_I.ins, ai_I.len, ai_I.r1, ai_I.r2, ai_I.rv] at hok; dsimp only [ai_ex, ai_I.ins, ai_I.len, ai_I.r1, ai_I.r2, ai_I.rv] at hq
    obtain ⟨rfl, hok⟩ := hok
    split at hq
    · rename_i h5
      obtain ⟨h1, h2, h3, h4⟩ := hok.1 h5
      exact ar_copy hx hb hml hown (hts _ h1) (hts _ h2) (hts _ h3) (hts _ h4) hw hS0 hA hRf hRl hdg hq hF k1
    split at hq
    · rename_i h52
      obtain ⟨hi, hm1, hm2, hm3⟩ := hok.2 h52
      have hml2 : c.maxLocals = ls.size := hml.trans hF.1.1.symm
      unfold ai_math at hq
      split at hq
      · split at hq
        · rename_i hcd
          split at hq
          · rename_i hk
            obtain ⟨m1, m2, m3⟩ := hm1 hk
            cases hq
            exact va_mmin hx hb hml2 hown (hts _ m1) (hts _ m2) (hts _ hi) (hts _ m3) (by omega) (by rw [ai_wt_map]; omega) (by simp only [ai_app] at hr1; omega) (by simp only [ai_app] at hr2; omega) hdg (k0 ls rfl (hF.st (ai_cons (ai_ok_i _ _) (ai_tl (ai_tl hF.2.2)))))
          · split at hq
            · rename_i hk
              obtain ⟨m1, m2, m3⟩ := hm2 hk
              cases hq
              exact va_mmax hx hb hml2 hown (hts _ m1) (hts _ m2) (hts _ hi) (hts _ m3) (by omega) (by rw [ai_wt_map]; omega) (by simp only [ai_app] at hr1; omega) (by simp only [ai_app] at hr2; omega) hdg (k0 ls rfl (hF.st (ai_cons (ai_ok_i _ _) (ai_tl (ai_tl hF.2.2)))))
            · cases hq
        · cases hq
      · split at hq
        · rename_i hcd
          obtain ⟨m1, m2, m3⟩ := hm3 hcd.2.2
          cases hq
          exact va_mmax_long hx hb hml2 hown (hts _ m1) (hts _ m2) (hts _ hi) (hts _ m3) (by omega) (by rw [ai_wt_map]; omega) (by simp only [ai_app] at hr1; omega) (by simp only [ai_app] at hr2; omega) hdg (k0 ls rfl (hF.st (ai_cons (ai_ok_l _ _) (ai_tl (ai_tl hF.2.2)))))
        · cases hq
      · cases hq
    unfold ai_inv at hq
    split at hq
    · cases hq
    · split at hq
      · split at hq
        · split at hq
          · split at hq <;> cases hq
          · cases hq
        · cases hq
      · cases hq
  | aastore =>
    dsimp only [ai_iok, ai_I.ins, ai_I.len, ai_I.r1, ai_I.r2, ai_I.rv] at hok; dsimp only [ai_ex, ai_I.ins, ai_I.len, ai_I.r1, ai_I.r2, ai_I.rv] at hq
    subst hok
    exact ar_aast hx hb hK hnw hac hw hS0 hA hdg hq hF k1
  | if_acmp k off =>
    dsimp only [ai_iok, ai_I.ins, ai_I.len, ai_I.r1, ai_I.r2, ai_I.rv] at hok; dsimp only [ai_ex, ai_I.ins, ai_I.len, ai_I.r1, ai_I.r2, ai_I.rv] at hq
    obtain ⟨rfl, ho⟩ := hok
    cases k with
    | eq => exact ar_acmp hw (fun ru rv r kt kf => lv_acmp_eq hx hb hdg ho (fun hh => kt (by simpa using hh)) (fun hh => kf (by simpa using hh))) hq hF (k0 ls)
    | ne => exact ar_acmp hw (fun ru rv r kt kf => lv_acmp_ne hx hb hdg ho (fun hh => kt (by simpa using hh)) (fun hh => kf (by simpa using hh))) hq hF (k0 ls)
  | invokevirtual idx =>
    dsimp only [ai_ex, ai_I.ins] at hq
    unfold ai_inv at hq
    split at hq
    · cases hq
    · split at hq
      · split at hq
        · split at hq
          · split at hq <;> cases hq
          · cases hq
        · cases hq
      · cases hq
  | ireturn =>
    dsimp only [ai_ex, ai_I.ins] at hq
    unfold ai_ret at hq
    split at hq
    · split at hq <;> cases hq
    · cases hq
  | lreturn =>
    dsimp only [ai_ex, ai_I.ins] at hq
    unfold ai_ret at hq
    split at hq
    · split at hq <;> cases hq
    · cases hq
  | areturn =>
    dsimp only [ai_ex, ai_I.ins] at hq
    unfold ai_ret at hq
    split at hq
    · split at hq <;> cases hq
    · cases hq
  | return_ =>
    dsimp only [ai_ex, ai_I.ins] at hq
    split at hq <;> cases hq
  | _ =>
    (first | (cases hq; done) | (simp [ai_ex] at hq; done))
end AIS
