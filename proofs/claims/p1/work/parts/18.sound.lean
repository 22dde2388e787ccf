/-! what a run of the interpreter says of the machine -/
theorem ai_args_lc (ad : Nat → Nat) : ∀ (as : List Value) (i : Nat), lv_args i (as.map (ai_v ad)) = ai_lc ad (lv_args i as)
  | [], _ => rfl
  | v :: vs, i => by
    simp only [List.map_cons, lv_args, ai_lc, ai_cat]
    rw [ai_args_lc ad vs]
    rfl
theorem ai_args_ok {n : Nat} : ∀ (as : List Value) (i : Nat), (∀ v ∈ as, ai_ok n v) → ∀ q ∈ lv_args i as, ai_ok n q.2
  | [], _, _, q, hq => by cases hq
  | v :: vs, i, h, q, hq => by
    rcases List.mem_cons.mp hq with rfl | h2
    · exact h _ List.mem_cons_self
    · exact ai_args_ok vs _ (fun w hw => h w (List.mem_cons_of_mem _ hw)) q h2
theorem ai_sl_len (ad : Nat → Nat) : ∀ (as : List Value), (lg_sl (as.map (ai_v ad))).length = ai_wt as
  | [] => rfl
  | v :: vs => by
    have ih := ai_sl_len ad vs
    simp only [lg_sl, List.map_cons, List.flatMap_cons, List.length_append, ai_wt, List.sum_cons, ai_cat] at ih ⊢
    rw [ih]
    rcases lv_cat v with h | h <;> simp [h]
theorem ai_inv_spec {virt : Bool} {q : ai_I} {pc : Nat} {lv : ai_L} {st : List Value} {h : ai_H} {mid' : Nat} {as rest : List Value} (hq : ai_inv virt q pc lv st h = some (.inr (.inl (mid', as, rest)))) :
    mid' = q.r1 ∧ st = as.reverse ++ rest ∧ as.length = q.r2 ∧ as = (st.take q.r2).reverse ∧ (virt = true → ∃ (a : Nat) (as' : List Value), as = .ref a :: as' ∧ ∃ c : ai_C, h[a]? = some c ∧ q.rv = .retAddr c.1) := by
  unfold ai_inv at hq
  split at hq
  · cases hq
  · rename_i hl
    have hst : st = (st.take q.r2).reverse.reverse ++ st.drop q.r2 := by rw [List.reverse_reverse, List.take_append_drop]
    have hlen : (st.take q.r2).reverse.length = q.r2 := by rw [List.length_reverse, List.length_take]; omega
    split at hq
    · split at hq
      · rename_i a as' has
        split at hq
        · rename_i t n f ha
          split at hq
          · rename_i hrv
            cases hq
            exact ⟨rfl, hst, hlen, rfl, fun _ => ⟨a, as', has, _, ha, hrv⟩⟩
          · cases hq
        · cases hq
      · cases hq
    · rename_i hv
      cases hq
      exact ⟨rfl, hst, hlen, rfl, fun h => absurd h hv⟩
/-- the words of a method: its own head, and all good ones -/
abbrev ai_ws (tb : List Cond) (M : ai_M) : List Cond := ai_mw M :: tb
theorem ai_good {tb : List Cond} (hg : ∀ w ∈ tb, goodWord w = true) {L : List Cond} (hL : ∀ w ∈ L, w ∈ tb) : GoodIn tb L := fun w hw => ⟨hL w hw, good_of_word (hg w (hL w hw))⟩
/-- what the catching of an exception rests on -/
def ai_Catch (l : Launch) : Prop := ∀ {p : Program} {e : Env} {R : Room} {s : State} {m : MethodId} {args : Array Value} {below : List Frame} {meth : Method} {c : Code} {H : Heap} {locs : List Loc} {cells slots : Nat} {Q : State → Prop} {pc : Nat} {ls : Array Slot} {rest : List Value} {own name : String} {E : String} {ce : Cell} {q : Addr} (_ : s.vm.findClass own = some m.cls) (pre : List ExceptionTableEntry) (x : ExceptionTableEntry) (suf : List ExceptionTableEntry) (_ : c.exceptionTable.toList = pre ++ x :: suf)
    (_ : ∀ z ∈ pre, covers z pc = false ∨ (z.catchType ≠ 0 ∧ ∃ nm : String, (Cond.classLink own z.catchType nm).before args s = true ∧ va_Nc E nm s)) (_ : covers x pc = true) (_ : x.catchType ≠ 0)
    (_ : (Cond.classLink own x.catchType name).before args s = true) (_ : (Cond.castable E name).before args s = true) (_ : H[q]? = some ce) (_ : ce.vm = .none) (_ : s.vm.findClass E = some ce.cls)
    (_ : W p l e R s m args below meth c H locs cells slots Q (F0 m x.handlerPc ls [.ref q])), vx_W p l e R s m args below meth c H locs cells slots Q (F0 m pc ls rest) q
section AIX
variable (l : Launch) (P : ai_P) (cl : List vw_C) (D : va_G) (tb nw : List Cond) (nc : List (String × String)) (sl : ai_SL) (ao : List String) (n0 : Nat) (A : Nat → Prop)
def ai_PO : Prop := ai_K cl P.ty tb ∧ (∀ w ∈ tb, goodWord w = true) ∧ (∀ w ∈ nw, ai_nwk w) ∧ (∀ z ∈ sl, ai_ok P.p0 z.2.2.2) ∧
  (∀ t b, P.ac t b = true → ∃ (C : String) (T : u_T) (N : Nat), cl[b]? = some (C, T, N) ∧ (C = P.rc t ∨ Cond.castable C (P.rc t) ∈ nw)) ∧
  (∀ t, (t = 1 ∨ t = 2) → Cond.castable (ai_exn t) (ai_exn t) ∈ nw ∧ ∀ t', (t' = 1 ∨ t' = 2) → t ≠ t' → (ai_exn t, ai_exn t') ∈ nc) ∧
  ∀ (mid pc : Nat) (q : ai_I), P.tab mid pc = some q → decode (P.mth mid).code pc = .ok (q.ins, q.len) ∧ ai_iok tb nw cl P.rc sl ao (P.mth mid).y.cls (P.mth mid).y.name pc q ∧ ai_cok tb nw cl P (P.mth mid).y.cls (P.mth mid).code pc q
def ai_Pc (ad : Nat → Nat) (h : ai_H) (as : List Value) : Array Value → State → Prop := va_Pc (as.map (ai_v ad)) (fun U => ai_w cl D P.rc P.p0 n0 ad h U U.heap ∧ ai_env cl D sl ao nw nc ad A U U.heap ∧ n0 ≤ U.heap.size)
def ai_Qc (ad : Nat → Nat) (h : ai_H) (o : Option Value ⊕ Nat) (h' : ai_H) : Array Value → State → Outcome → State → Prop := fun _ st oc t => ∃ (v : Option Value) (ad' : Nat → Nat), o = .inl v ∧ (∀ k, k < h.length → ad' k = ad k) ∧ oc = .returned (v.map (ai_v ad')) ∧ (∀ u, v = some u → ai_ok h'.length u) ∧ ai_w cl D P.rc P.p0 n0 ad' h' t t.heap ∧ va_F A st t
def ai_XC (ad : Nat → Nat) (h : ai_H) (o : Option Value ⊕ Nat) (h' : ai_H) : String → State → State → Prop := fun E st t => ∃ (x : Nat) (ad' : Nat → Nat), o = .inr x ∧ (x = 1 ∨ x = 2) ∧ E = ai_exn x ∧ (∀ k, k < h.length → ad' k = ad k) ∧ ai_w cl D P.rc P.p0 n0 ad' h' t t.heap ∧ va_F A st t
def ai_xn (o : Option Value ⊕ Nat) : Nat := match o with | .inl _ => 0 | .inr _ => 1
def ai_Snd (n : Nat) : Prop := ∀ (mid d w pc : Nat) (lv : ai_L) (st : List Value) (h : ai_H) (o : Option Value ⊕ Nat) (h' : ai_H), ai_run P n mid d w pc lv st h = some (o, h') →
  ∀ (p : Program) (e : Env) (R : Room) (s : State) (m : MethodId) (args : Array Value) (below : List Frame) (meth : Method) (c : Code) (H : Heap) (locs : List Loc) (cells slots mc ms : Nat) (ls : Array Slot) (ad ad0 : Nat → Nat) (h0 : ai_H),
  p.tables.exec = Jvm.exec → c.code = (P.mth mid).code → c.maxLocals = (P.mth mid).maxL → meth.sig.returnType = (P.mth mid).ret → meth.locks = false → meth.name = (P.mth mid).y.name → s.vm.findClass (P.mth mid).y.cls = some m.cls → (∀ w ∈ tb, w.before args s = true) →
  ai_env cl D sl ao nw nc ad0 A s s.heap → c.exceptionTable.toList = tableOf (ai_hd4 (P.mth mid).hs) → (∀ q ∈ (P.mth mid).hs, q.2.2.2.1 ≠ 0 ∧ (q.2.2.2.2 = 1 ∨ q.2.2.2.2 = 2) ∧ Cond.classLink (P.mth mid).y.cls q.2.2.2.1 (ai_exn q.2.2.2.2) ∈ tb) →
  d ≤ R.frames → w ≤ R.locals → mc ≤ R.cells → ms ≤ R.slots → n0 ≤ s.heap.size → P.p0 ≤ h0.length → (∀ k, k < h0.length → ad k = ad0 k) → h0.length ≤ h.length → ai_F (P.mth mid).maxL ad h.length lv st ls → ai_w cl D P.rc P.p0 n0 ad h s H → va_S A s.heap H locs →
  cells + h0.length = h.length → slots + ai_sz h0 = ai_sz h → h'.length + ai_xn o ≤ mc + h0.length → ai_sz h' + 6 * ai_xn o ≤ ms + ai_sz h0 →
  W p l e R s m args below meth c H locs cells slots (vx_MQ below (ai_Qc P cl D n0 A ad0 h0 o h') (ai_XC P cl D n0 A ad0 h0 o h') args s mc ms A) (F0 m pc ls (st.map (ai_v ad)))
end AIX
section AIY
variable {l : Launch} {P : ai_P} {cl : List vw_C} {D : va_G} {tb nw : List Cond} {nc : List (String × String)} {sl : ai_SL} {ao : List String} {n0 : Nat} {A : Nat → Prop}
theorem ai_blind (hnk : ∀ w ∈ nw, ai_nwk w) (ad : Nat → Nat) (h : ai_H) (as : List Value) : FrameBlind (ai_Pc P cl D nw nc sl ao n0 A ad h as) := by
  intro a U g mk ⟨h1, h2, h3, h4⟩
  refine ⟨h1, h2.moved (u := U) (U := U.calling g mk a) (Vm.Alike.refl U.vm), ?_, h4⟩
  obtain ⟨q1, q2, q3, q4, q5, q6, q7⟩ := h3
  exact ⟨va_K.moved (u := U) (U := U.calling g mk a) (Vm.Alike.refl U.vm) q1, fun z hz => va_Z.moved (u := U) (U := U.calling g mk a) (Vm.Alike.refl U.vm) (q2 z hz), fun C hC => va_AO.moved (u := U) (U := U.calling g mk a) (Vm.Alike.refl U.vm) (q3 C hC), fun w hw => ai_nw_warm (s := U) (U := U.calling g mk a) (hnk w hw) (State.WarmedH.refl U) (q4 w hw), vx_Zq.moved (u := U) (U := U.calling g mk a) (Vm.Alike.refl U.vm) q5, vx_Zq.moved (u := U) (U := U.calling g mk a) (Vm.Alike.refl U.vm) q6, fun z hz => va_Nc.moved (u := U) (U := U.calling g mk a) (Vm.Alike.refl U.vm) (q7 z hz)⟩
/-- a method's contract out of its run -/
theorem ai_meth (hPO : ai_PO P cl tb nw nc sl ao) {n mid d w : Nat} {as : List Value} {h h1 : ai_H} {o : Option Value ⊕ Nat} (IH : ai_Snd l P cl D tb nw nc sl ao n0 A n) (hrun : ai_run P n mid d w 0 (lv_args 0 as) [] h = some (o, h1)) (hmok : ai_mok tb (P.mth mid))
    (hok : ∀ v ∈ as, ai_ok h.length v) (hmax : ai_wt as ≤ (P.mth mid).maxL) (hP0 : P.p0 ≤ h.length) (ad : Nat → Nat) :
    vx_Met l (P.mth mid).y (ai_ws tb (P.mth mid)) { frames := d, cells := h1.length - h.length + ai_xn o, slots := ai_sz h1 - ai_sz h + 6 * ai_xn o, locals := w } (ai_Pc P cl D nw nc sl ao n0 A ad h as) (ai_Qc P cl D n0 A ad h o h1) (ai_XC P cl D n0 A ad h o h1) (h1.length - h.length + ai_xn o) (ai_sz h1 - ai_sz h + 6 * ai_xn o) A := by
  obtain ⟨g1, g2, g3, g4, g5, g6⟩ := hmok
  have hmono := ai_mono _ _ _ _ _ _ _ _ _ _ hrun
  have body : ∀ p e s m args below meth c s₁, BodyLoose p l (P.mth mid).y (headSpec (ai_ws tb (P.mth mid)) { frames := d, cells := h1.length - h.length + ai_xn o, slots := ai_sz h1 - ai_sz h + 6 * ai_xn o, locals := w }) (P.mth mid).code (P.mth mid).maxL (P.mth mid).ret e s m args below meth c s₁ → c.maxLocals = (P.mth mid).maxL → c.exceptionTable.toList = tableOf (ai_hd4 (P.mth mid).hs) → ai_Pc P cl D nw nc sl ao n0 A ad h as args s →
      W p l e (headSpec (ai_ws tb (P.mth mid)) { frames := d, cells := h1.length - h.length + ai_xn o, slots := ai_sz h1 - ai_sz h + 6 * ai_xn o, locals := w }).room s m args below meth c s.heap [] 0 0 (vx_MQ below (ai_Qc P cl D n0 A ad h o h1) (ai_XC P cl D n0 A ad h o h1) args s (h1.length - h.length + ai_xn o) (ai_sz h1 - ai_sz h + 6 * ai_xn o) A) (entryFrame m args (P.mth mid).maxL) := by
    intro p e s m args below meth c s₁ B hml htab hv
    obtain ⟨rfl, hw, hE, hn⟩ := hv
    have hts := atoms_spec (ws := ai_ws tb (P.mth mid)) B.pre
    have hl := lv_entry (as.map (ai_v ad)) (n := (P.mth mid).maxL) (by rw [ai_sl_len]; exact hmax)
    rw [lg_entry_eq]
    generalize (lg_sl (as.map (ai_v ad)) ++ List.replicate ((P.mth mid).maxL - (lg_sl (as.map (ai_v ad))).length) Slot.unset).toArray = ls at hl ⊢
    rw [ai_args_lc] at hl
    refine IH mid d w 0 _ [] h o h1 hrun p e _ s m _ below meth c s.heap [] 0 0 _ _ ls ad ad h B.exec B.bytes hml B.returns B.notSynchronized (name_of_methodNamed B.named B.method).1 (findClass_of_methodNamed B.named) (fun w hw => hts w (List.mem_cons_of_mem _ hw)) hE htab g6 (Nat.le_refl _) (Nat.le_refl _) (Nat.le_refl _) (Nat.le_refl _) hn hP0 (fun _ _ => rfl) (Nat.le_refl _) ⟨hl, ai_args_ok as 0 hok, fun v hv => by cases hv⟩ hw va_S.rf (Nat.zero_add _) (Nat.zero_add _) ?_ ?_
    · omega
    · omega
  by_cases hem : (P.mth mid).hs.isEmpty = true
  · have hem2 : (P.mth mid).hs = [] := List.isEmpty_iff.mp hem
    refine vx_ofW (cc := (P.mth mid).code) (maxL := (P.mth mid).maxL) (ret := (P.mth mid).ret) (ws' := tb) g1 (by unfold ai_ws ai_mw; rw [if_pos hem]) (fun p e s m args below meth c s₁ B hml ht hv => body p e s m args below meth c s₁ B hml ?_ hv)
    rw [hem2]
    exact List.eq_nil_iff_forall_not_mem.mpr (fun x hx => ht x hx)
  · refine vx_ofWH (cc := (P.mth mid).code) (maxL := (P.mth mid).maxL) (ret := (P.mth mid).ret) (hh := ai_hd4 (P.mth mid).hs) (ws' := tb) g1 (by unfold ai_ws ai_mw; rw [if_neg hem]) (fun p e s m args below meth c s₁ B hml hv => body p e s m args below meth c s₁ B hml ?_ hv)
    have hts := atoms_spec (ws := ai_ws tb (P.mth mid)) B.pre
    have h9 : (Cond.codeWith (P.mth mid).y (P.mth mid).code (P.mth mid).maxL (P.mth mid).ret (ai_hd4 (P.mth mid).hs)).before args s = true := by
      have := hts (ai_mw (P.mth mid)) List.mem_cons_self
      unfold ai_mw at this
      rw [if_neg hem] at this
      exact this
    exact vx_table (x := (P.mth mid).y) B h9
end AIY
