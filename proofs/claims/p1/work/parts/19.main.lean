/-! calls, returns, throws; then all runs -/
theorem ai_ex_ret {P : ai_P} {d w nL pc : Nat} {rt : Option FieldType} {q : ai_I} {lv : ai_L} {st : List Value} {h : ai_H} {v : Option Value} (hq : ai_ex P d w nL rt q pc lv st h = some (.inr (.inr (.inl v)))) : q.ins = .ireturn ∨ q.ins = .lreturn ∨ q.ins = .areturn ∨ q.ins = .return_ := by
  obtain ⟨i, len, r1, r2, rv⟩ := q
  cases i with
  | ireturn => exact Or.inl rfl
  | lreturn => exact Or.inr (Or.inl rfl)
  | areturn => exact Or.inr (Or.inr (Or.inl rfl))
  | return_ => exact Or.inr (Or.inr (Or.inr rfl))
  | _ =>
    exfalso
    simp only [ai_ex, ai_I.ins, ai_I.r1, ai_I.r2, ai_I.rv, ai_nx, ai_nxE, ai_bin, ai_binL, ai_binS, ai_div, ai_un, ai_if, ai_cmp, ai_ld, ai_sto, ai_stoL, ai_inc, ai_sw, ai_get, ai_put, ai_len, ai_ald, ai_ast, ai_newo, ai_newa, ai_inv, ai_copy, ai_math, ai_acmp] at hq
    try (repeat' split at hq)
    all_goals cases hq
theorem ai_ex_thr {P : ai_P} {d w nL pc : Nat} {rt : Option FieldType} {q : ai_I} {lv : ai_L} {st : List Value} {h : ai_H} {t : Nat} (hq : ai_ex P d w nL rt q pc lv st h = some (.inr (.inr (.inr t)))) : ∃ idx, q.ins = .new idx ∧ q.r2 = 9999 ∧ t = q.r1 := by
  obtain ⟨i, len, r1, r2, rv⟩ := q
  cases i with
  | new idx =>
    dsimp only [ai_ex, ai_I.ins, ai_I.r1, ai_I.r2] at hq
    split at hq
    · rename_i h9
      cases hq
      exact ⟨idx, rfl, h9, rfl⟩
    · cases hq
  | _ =>
    exfalso
    simp only [ai_ex, ai_I.ins, ai_I.r1, ai_I.r2, ai_I.rv, ai_nx, ai_nxE, ai_bin, ai_binL, ai_binS, ai_div, ai_un, ai_if, ai_cmp, ai_ld, ai_sto, ai_stoL, ai_inc, ai_sw, ai_get, ai_put, ai_len, ai_ald, ai_ast, ai_newo, ai_newa, ai_inv, ai_copy, ai_math, ai_acmp, ai_ret] at hq
    try (repeat' split at hq)
    all_goals cases hq
theorem ai_ex_call {P : ai_P} {d w nL pc : Nat} {rt : Option FieldType} {q : ai_I} {lv : ai_L} {st : List Value} {h : ai_H} {z : Nat × List Value × List Value} (hq : ai_ex P d w nL rt q pc lv st h = some (.inr (.inl z))) : (∃ idx, q.ins = .invokestatic idx ∧ ¬ (5001 ≤ q.r1 ∧ q.r1 ≤ 5004) ∧ ai_inv false q pc lv st h = some (.inr (.inl z))) ∨ (∃ idx, q.ins = .invokevirtual idx ∧ ai_inv true q pc lv st h = some (.inr (.inl z))) ∨ (∃ idx, q.ins = .invokespecial idx ∧ q.r1 ≠ 5000 ∧ ai_inv false q pc lv st h = some (.inr (.inl z)) ∧ ∃ a r, (st.take q.r2).reverse = .ref a :: r) := by
  obtain ⟨i, len, r1, r2, rv⟩ := q
  cases i with
  | invokestatic idx =>
    dsimp only [ai_ex, ai_I.ins, ai_I.r1, ai_I.r2] at hq
    split at hq
    · unfold ai_copy ai_nxE at hq
      repeat' split at hq
      all_goals cases hq
    · rename_i h9
      split at hq
      · unfold ai_math ai_nx at hq
        repeat' split at hq
        all_goals cases hq
      · rename_i h8
        exact Or.inl ⟨idx, rfl, fun h => (Nat.lt_or_ge r1 5002).elim (fun g => h9 (by have := h.1; dsimp only [ai_I.r1] at this; omega)) (fun g => h8 ⟨g, h.2⟩), hq⟩
  | invokevirtual idx => exact Or.inr (Or.inl ⟨idx, rfl, hq⟩)
  | invokespecial idx =>
    dsimp only [ai_ex, ai_I.ins, ai_I.r1, ai_I.r2] at hq
    split at hq
    · split at hq
      · split at hq <;> cases hq
      · cases hq
    · rename_i h9
      split at hq
      · rename_i a r h8
        exact Or.inr (Or.inr ⟨idx, rfl, h9, hq, a, r, h8⟩)
      · cases hq
  | _ =>
    exfalso
    simp only [ai_ex, ai_I.ins, ai_I.r1, ai_I.r2, ai_I.rv, ai_nx, ai_nxE, ai_bin, ai_binL, ai_binS, ai_div, ai_un, ai_if, ai_cmp, ai_ld, ai_sto, ai_stoL, ai_inc, ai_sw, ai_get, ai_put, ai_len, ai_ald, ai_ast, ai_newo, ai_newa, ai_copy, ai_math, ai_acmp, ai_ret] at hq
    try (repeat' split at hq)
    all_goals cases hq
section AIM
variable {p : Program} {l : Launch} {e : Env} {R : Room} {s : State} {m : MethodId} {args : Array Value} {below : List Frame} {meth : Method} {c : Code} {H : Heap} {locs : List Loc} {cells slots : Nat} {Q : State → Prop}
variable {P : ai_P} {cl : List vw_C} {D : va_G} {tb nw : List Cond} {nc : List (String × String)} {sl : ai_SL} {ao : List String} {n0 : Nat} {A : Nat → Prop}
theorem ai_after {mc ms pc : Nat} {ls : Array Slot} {st0 rest : List Value} {ad : Nat → Nat} {h h1 : ai_H} {o : Option Value ⊕ Nat} {a : Array Value} (hr : vx_Run p l e R s m args below meth c H locs cells slots mc ms (F0 m pc ls st0) rest (ai_Qc P cl D n0 A ad h o h1 a) (ai_XC P cl D n0 A ad h o h1) A) (hS : va_S A s.heap H locs)
    (kx : ∀ (x : Nat) (ad' : Nat → Nat) (ce : Cell) (q9 : Addr) (H1 : Heap) (locs1 : List Loc), o = .inr x → (x = 1 ∨ x = 2) → (∀ k, k < h.length → ad' k = ad k) → ai_w cl D P.rc P.p0 n0 ad' h1 s H1 → va_S A s.heap H1 locs1 → H1[q9]? = some ce → ce.vm = .none → s.vm.findClass (ai_exn x) = some ce.cls → vx_W p l e R s m args below meth c H1 locs1 (cells + mc) (slots + ms) Q (F0 m pc ls rest) q9)
    (kk : ∀ (v : Option Value) (ad' : Nat → Nat) (H1 : Heap) (locs1 : List Loc), o = .inl v → (∀ k, k < h.length → ad' k = ad k) → (∀ u, v = some u → ai_ok h1.length u) → ai_w cl D P.rc P.p0 n0 ad' h1 s H1 → va_S A s.heap H1 locs1 → W p l e R s m args below meth c H1 locs1 (cells + mc) (slots + ms) Q (F0 m (pc + 3) ls ((v.map (ai_v ad')).toList ++ rest))) : W p l e R s m args below meth c H locs cells slots Q (F0 m pc ls st0) := by
  intro T hT X
  rcases hr T hT X with ⟨v, st₀, t, T', L, h0, X', hL, e1, e2, ⟨v', ad', ho, he, hv, hok, hw, hF⟩, st⟩ | ⟨q, st₀, t, T', L, E, ce, h0, X', hL, e1, e2, ⟨x, ad', ho, hx, hE, he, hw, hF⟩, hce, hcv, hcl, st⟩
  · cases hv
    obtain ⟨k1, k2, k3⟩ := vx_keep h0 e1 hS (fun _ _ h => h) (fun _ h => h) hL hF
    have hal : t.vm.Alike s.vm := by rw [← e2]; exact X'.warmed.alike.symm
    obtain ⟨t2, a1, b1⟩ := kk v' ad' T'.heap (locs ++ L) ho he hok (by rw [e1]; exact hw.moved hal) k3 T' rfl X'
    exact ⟨t2, st t2 a1, b1⟩
  · subst hE
    obtain ⟨k1, k2, k3⟩ := vx_keep h0 e1 hS (fun _ _ h => h) (fun _ h => h) hL hF
    have hal : t.vm.Alike s.vm := by rw [← e2]; exact X'.warmed.alike.symm
    obtain ⟨t2, a1, b1⟩ := kx x ad' ce q T'.heap (locs ++ L) ho hx he (by rw [e1]; exact hw.moved hal) k3 (by rw [e1]; exact hce) hcv hcl T' rfl X'
    exact ⟨t2, st.trans a1, b1⟩
/-- a call that returns is a call that returns or throws -/
theorem ai_vrun {mc ms : Nat} {g : JFrame} {rest : List Value} {Qa : State → Outcome → State → Prop} {XC : String → State → State → Prop} {free : Addr → Prop} (h : va_Run p l e R s m args below meth c H locs cells slots mc ms g rest Qa free) : vx_Run p l e R s m args below meth c H locs cells slots mc ms g rest Qa XC free :=
  fun T hT X => Or.inl (h T hT X)
theorem ai_met {y : MethodName} {ws : List Cond} {rm : Room} {Pc : Array Value → State → Prop} {Qc : Array Value → State → Outcome → State → Prop} {XC : String → State → State → Prop} {mc ms : Nat} {free : Addr → Prop} (h : vx_Met l y ws rm Pc Qc XC mc ms free) (hX : ∀ E st t, ¬ XC E st t) : Met l y ws rm Pc Qc mc ms free := by
  refine MetFree.mono h (fun _ _ h => h) (fun _ _ _ _ _ h => h) (fun a st o t _ hq => ?_)
  rcases hq with hq | ⟨q, -, E, ce, L, hx, -⟩
  · exact hq
  · exact absurd hx (hX E st t)
/-- a return -/
theorem ai_rets {cc : ByteArray} {mc ms pc nL : Nat} {ls : Array Slot} {st : List Value} {lv : ai_L} {ad ad0 : Nat → Nat} {h h0 : ai_H} {v : Option Value} {d w : Nat} {rt : Option FieldType} {q : ai_I} {own nm : String} (hx : p.tables.exec = Jvm.exec) (hb : c.code = cc) (hr : meth.sig.returnType = rt) (hlocks : meth.locks = false) (hdg : decode cc pc = .ok (q.ins, q.len)) (hlen : ai_iok tb nw cl P.rc sl ao own nm pc q)
    (hq : ai_ex P d w nL rt q pc lv st h = some (.inr (.inr (.inl v)))) (hF : ai_F nL ad h.length lv st ls) (hw : ai_w cl D P.rc P.p0 n0 ad h s H) (hS : va_S A s.heap H locs) (he : ∀ k, k < h0.length → ad k = ad0 k) (h1 : cells ≤ mc) (h2 : slots ≤ ms) :
    W p l e R s m args below meth c H locs cells slots (vx_MQ below (ai_Qc P cl D n0 A ad0 h0 (.inl v) h) (ai_XC P cl D n0 A ad0 h0 (.inl v) h) args s mc ms A) (F0 m pc ls (st.map (ai_v ad))) := by
  have hQ : ∀ t : State, t.heap = H → s.WarmedH t.vm → (∀ u, v = some u → ai_ok h.length u) → ai_Qc P cl D n0 A ad0 h0 (.inl v) h args s (.returned (v.map (ai_v ad))) t := fun t ht hW hok => ⟨v, ad, rfl, he, rfl, hok, by rw [ht]; exact hw.moved hW.alike, hS.F ht⟩
  refine vx_ret (W.widen h1 h2 ?_)
  obtain ⟨i, len, r1, r2, rv⟩ := q
  dsimp only [ai_I.ins, ai_I.len] at hdg
  cases i with
  | ireturn =>
    dsimp only [ai_iok, ai_I.ins, ai_I.len] at hlen
    subst hlen
    dsimp only [ai_ex, ai_I.ins] at hq
    unfold ai_ret at hq
    split at hq
    · rename_i u
      split at hq
      · rename_i hcd
        cases hq
        have hok : ∀ z, some u = some z → ai_ok h.length z := fun z hz => by cases hz; exact ai_hd hF.2.2
        unfold ai_retok at hcd
        split at hcd
        · exact W.iret hx hb hr (fun t ht hW => hQ t ht hW hok) hS.2.2 hdg
        · rename_i z
          rw [Bool.or_eq_true, beq_iff_eq, beq_iff_eq] at hcd
          exact W.zret hx hb hr (by rcases hcd with rfl | rfl <;> decide) (fun t ht hW => hQ t ht hW hok) hS.2.2 hdg
        · rename_i z
          rw [beq_iff_eq] at hcd
          exact W.zret hx hb hr (by show Value.int z.toInt8.toInt32 = _; rw [hcd]) (fun t ht hW => hQ t ht hW hok) hS.2.2 hdg
        · rename_i z
          rw [beq_iff_eq] at hcd
          exact W.zret hx hb hr (by show Value.int z.toUInt32.toUInt16.toUInt32.toInt32 = _; rw [hcd]) (fun t ht hW => hQ t ht hW hok) hS.2.2 hdg
        · cases hcd
      · cases hq
    · cases hq
  | lreturn =>
    dsimp only [ai_iok, ai_I.ins, ai_I.len] at hlen
    subst hlen
    dsimp only [ai_ex, ai_I.ins] at hq
    unfold ai_ret at hq
    split at hq
    · rename_i u
      split at hq
      · rename_i hcd
        cases hq
        rw [Bool.and_eq_true] at hcd
        have hok : ∀ z, some u = some z → ai_ok h.length z := fun z hz => by cases hz; exact ai_hd hF.2.2
        have hrt : rt = some .long := by
          have := hcd.2
          unfold ai_rtJ at this
          split at this
          · rfl
          · cases this
        subst hrt
        cases u <;> first | (exact W.lret hx hb hr (fun t ht hW => hQ t ht hW hok) hS.2.2 hdg) | (cases hcd.1)
      · cases hq
    · cases hq
  | areturn =>
    dsimp only [ai_iok, ai_I.ins, ai_I.len] at hlen
    subst hlen
    dsimp only [ai_ex, ai_I.ins] at hq
    unfold ai_ret at hq
    split at hq
    · rename_i u
      split at hq
      · rename_i hcd
        cases hq
        rw [Bool.and_eq_true] at hcd
        have hok : ∀ z, some u = some z → ai_ok h.length z := fun z hz => by cases hz; exact ai_hd hF.2.2
        have hrt : ∃ ty, rt = some ty ∧ ((∃ n, ty = .object n) ∨ ∃ t, ty = .array t) := by
          have := hcd.2
          unfold ai_rtA at this
          split at this
          · exact ⟨_, rfl, Or.inl ⟨_, rfl⟩⟩
          · exact ⟨_, rfl, Or.inr ⟨_, rfl⟩⟩
          · cases this
        obtain ⟨ty, rfl, hty⟩ := hrt
        refine W.aret (v := ai_v ad u) hx hb hr hty ?_ (fun t ht hW => hQ t ht hW hok) hS.2.2 hdg
        cases u <;> first | (exact Or.inl rfl) | (exact Or.inr ⟨_, rfl⟩) | (cases hcd.1)
      · cases hq
    · cases hq
  | return_ =>
    dsimp only [ai_iok, ai_I.ins, ai_I.len] at hlen
    subst hlen
    dsimp only [ai_ex, ai_I.ins] at hq
    split at hq
    · cases hq
      exact W.vret hx hb hr (fun t ht hW => hQ t ht hW (fun u hu => by cases hu)) hS.2.2 hdg
    · cases hq
  | _ => exfalso; rcases ai_ex_ret hq with h9 | h9 | h9 | h9 <;> cases h9
end AIM
