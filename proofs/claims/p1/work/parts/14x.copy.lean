/-! System.arraycopy over numbers; references compared; references stored into arrays -/
def ai_copy (rc : Nat → String) (P0 d w pc : Nat) (lv : ai_L) (st : List Value) (h : ai_H) : Option ai_O := match st with
  | .int n :: .int dp :: .ref b :: .int sp :: .ref a :: r => match h[a]?, h[b]? with
    | some (t, n0, f), some (t', n1, g) =>
      if decide (t = t') && decide (100 ≤ t) && decide (t ≤ 104) && decide (P0 ≤ b) && decide (0 ≤ sp.toInt) && decide (0 ≤ dp.toInt) && decide (0 ≤ n.toInt) && decide (sp.toNatClampNeg + n.toNatClampNeg ≤ n0) && decide (dp.toNatClampNeg + n.toNatClampNeg ≤ n1) && (List.range n.toNatClampNeg).all (fun i => fits (ai_ty rc t) (f (sp.toNatClampNeg + i))) && decide (1 ≤ d) && decide ((r.map fun v => v.category).sum + 18 ≤ w)
      then ai_nxE (pc + 3) lv r (.inr (.inl (b, va_cpy f g sp.toNatClampNeg dp.toNatClampNeg n.toNatClampNeg))) else none
    | _, _ => none
  | _ => none
def ai_same (P0 : Nat) (h : ai_H) (u v : Value) : Option Bool := match u, v with
  | .null, .null => some true
  | .null, .ref _ => some false
  | .ref _, .null => some false
  | .ref i, .ref j => if i = j then some true else match h[i]?, h[j]? with
    | some a, some b => if decide (P0 ≤ i) && decide (a.1 < 200) && decide (b.1 < 200) then some false else none
    | _, _ => none
  | _, _ => none
def ai_acmp (eq : Bool) (P0 tgt pc : Nat) (lv : ai_L) (st : List Value) (h : ai_H) : Option ai_O := match st with
  | v :: u :: r => match ai_same P0 h u v with
    | some b => if b = eq then ai_nx tgt lv r else ai_nx (pc + 3) lv r
    | none => none
  | _ => none
def ai_narA (ac : Nat → Nat → Bool) (h : ai_H) (t : Nat) (v : Value) : Option Value := match v with
  | .null => some .null
  | .ref b => match h[b]? with
    | some c => if decide (c.1 < 100) && ac t c.1 then some (.ref b) else none
    | none => none
  | _ => none
theorem ai_prim {rc : Nat → String} {t : Nat} (h1 : 100 ≤ t) (h2 : t ≤ 104) : refKind (ai_ty rc t) = false ∧ ∀ (ad : Nat → Nat) (v : Value), fits (ai_ty rc t) v = true → ai_v ad v = v ∧ ∀ n, ai_ok n v := by
  have h : t = 100 ∨ t = 101 ∨ t = 102 ∨ t = 103 ∨ t = 104 := by omega
  rcases h with rfl | rfl | rfl | rfl | rfl <;> refine ⟨rfl, fun ad v hv => ?_⟩ <;> cases v <;> first | (cases hv; done) | (exact ⟨rfl, fun _ _ hk => by cases hk⟩)
section AIC
variable {p : Program} {l : Launch} {e : Env} {R : Room} {s : State} {m : MethodId} {args : Array Value} {below : List Frame} {meth : Method} {c : Code} {H : Heap} {locs : List Loc} {cells slots : Nat} {Q : State → Prop}
variable {nL pc pc' d w : Nat} {ad : Nat → Nat} {lv lv' : ai_L} {st st' : List Value} {ls : Array Slot} {x : ai_E} {cc : ByteArray} {h : ai_H}
variable {cl : List vw_C} {D : va_G} {rc : Nat → String} {P0 n0 : Nat} {A : Nat → Prop} {H0 : Heap} {own : String} {index : Nat}
theorem ai_nn {z : Int32} (h : 0 ≤ z.toInt) : ¬ z < 0 ∧ z.toInt = (z.toNatClampNeg : Int) := by
  have h0 : (0 : Int32).toInt = 0 := by decide
  have h1 : z.toNatClampNeg = z.toInt.toNat := rfl
  refine ⟨fun hj => ?_, by omega⟩
  have := Int32.lt_iff_toInt_lt.mp hj
  omega
theorem ar_copy (hx : p.tables.exec = Jvm.exec) (hb : c.code = cc) (hml : c.maxLocals = nL) (hown : s.vm.findClass own = some m.cls) (hlink : (Cond.methodLink own index arraycopyName).before args s = true) (hnat : (Cond.native arraycopyName).before args s = true) (hstat : (Cond.static arraycopyName).before args s = true) (hini : (Cond.initialized "java/lang/System").before args s = true)
    (hw : ai_w cl D rc P0 n0 ad h s H) (hS0 : va_S A H0 H locs) (hA : ∀ q, n0 ≤ q → A q) (hRf : d ≤ R.frames) (hRl : w ≤ R.locals) (hdg : decode cc pc = .ok (.invokestatic index, 3))
    (hq : ai_copy rc P0 d w pc lv st h = some (.inl (pc', lv', st', x))) (hF : ai_F nL ad h.length lv st ls)
    (kk : ∀ (H1 : Heap) (locs1 : List Loc), (∃ k f, x = .inr (.inl (k, f)) ∧ k < h.length) → (ai_app h x).length = h.length → ai_F nL ad h.length lv' st' ls → ai_w cl D rc P0 n0 ad (ai_app h x) s H1 → va_S A H0 H1 locs1 → W p l e R s m args below meth c H1 locs1 cells slots Q (F0 m pc' ls (st'.map (ai_v ad)))) : W p l e R s m args below meth c H locs cells slots Q (F0 m pc ls (st.map (ai_v ad))) := by
  unfold ai_copy at hq
  split at hq
  · rename_i n dp b sp a r
    split at hq
    · rename_i t n1 f t' n2 g ha hbb
      split at hq
      · rename_i hcd
        cases hq
        simp only [Bool.and_eq_true, decide_eq_true_eq, List.all_eq_true, List.mem_range] at hcd
        obtain ⟨⟨⟨⟨⟨⟨⟨⟨⟨⟨⟨rfl, c1⟩, c2⟩, c3⟩, c4⟩, c5⟩, c6⟩, c7⟩, c8⟩, c9⟩, c10⟩, c11⟩ := hcd
        obtain ⟨g1, g2⟩ := ai_nn c4
        obtain ⟨g3, g4⟩ := ai_nn c5
        obtain ⟨g5, g6⟩ := ai_nn c6
        obtain ⟨hprim, hpv⟩ := ai_prim (rc := rc) c1 c2
        obtain ⟨cs, s1, s2, s3, s4, s5, s6, -⟩ := (hw.1 a _ ha).2 c1 (by show t < 200; omega)
        obtain ⟨cd, d1, d2, d3, d4, d5, d6, d7⟩ := (hw.1 b _ hbb).2 c1 (by show t < 200; omega)
        obtain ⟨d8, d9, d10⟩ := d7 c3
        obtain ⟨s7, ks, hks, sComp, hsk⟩ := s2
        obtain ⟨d11, kd, hkd, dComp, hdk⟩ := d2
        have s4 : n1 ≤ cs.slots.size := s4
        have d10 : cd.slots.size = n2 := d10
        have hval : ∀ i, i < n.toNatClampNeg → cs.slots.getD (sp.toNatClampNeg + i) .null = f (sp.toNatClampNeg + i) := fun i hi => by
          rw [Array.getD_eq_getD_getElem?, s6 _ (show sp.toNatClampNeg + i < n1 by omega)]
          exact (hpv ad _ (c9 i hi)).1
        intro T hT X
        obtain ⟨vm', X', step⟩ := X.arraycopy hx hown hlink hnat hstat hini (src := ad a) (dst := ad b) (cs := cs) (cd := cd) (srcPos := sp) (destPos := dp) (n := n) (by rw [hT]; exact s1) (by rw [hT]; exact d1) s7 d11 s3 d3 hks hkd hsk hdk (by simp [hprim]) g1 g3 g5 (by rw [g2, g6]; omega) (by rw [g4, g6]; omega)
          (fun vm₁ _ i hi => by
            rw [hval i hi]
            refine ⟨c9 i hi, ?_⟩
            have h9 := (hpv ad _ (c9 i hi)).2 0
            cases hv9 : f (sp.toNatClampNeg + i) with
            | ref z => exact absurd (h9 z hv9) (Nat.not_lt_zero _)
            | _ => exact trivial)
          (g := F0 m pc ls ((Value.int n :: .int dp :: .ref b :: .int sp :: .ref a :: st').map (ai_v ad))) rfl (by rw [hml]; exact hF.1.1) (rest := st'.map (ai_v ad)) rfl (by rw [hb]; exact hdg) (by omega) (by
            have h9 : ((st'.map (ai_v ad)).map fun v => v.category).sum = (st'.map fun v => v.category).sum := by
              rw [List.map_map]
              congr 1
              exact List.map_congr_left (fun v _ => ai_cat ad v)
            show 2 * 0 + _ + (7 + 11) ≤ _
            rw [h9]
            omega)
        have hl : ad b < H.size := (Array.getElem?_eq_some_iff.mp d1).1
        have hheap : ((T.setVm vm').setCell (ad b) (copied cs cd sp dp n)).heap = H.setIfInBounds (ad b) (copied cs cd sp dp n) := by rw [← hT]; rfl
        have oq : ∀ q : Nat, q ≠ ad b → (H.setIfInBounds (ad b) (copied cs cd sp dp n))[q]? = H[q]? := fun q hq => by simp [Array.getElem?_setIfInBounds, Ne.symm hq]
        have e1 : (H.setIfInBounds (ad b) (copied cs cd sp dp n))[ad b]? = some (copied cs cd sp dp n) := by simp [Array.getElem?_setIfInBounds, hl]
        have hbA : A (ad b) := hA _ (hw.2.2.2 b _ hbb c3 (by show t < 200; omega))
        have hS1 : va_S A H0 (H.setIfInBounds (ad b) (copied cs cd sp dp n)) (locs ++ (cs.stretch sp.toNatClampNeg n.toNatClampNeg).zipIdx.map fun q => ⟨ad b, dp.toNatClampNeg + q.2⟩) := ⟨by simp; exact hS0.1, fun q g1 g2 => by
          rw [oq q (fun e => g2 (by rw [e]; exact hbA))]
          exact hS0.2.1 q g1 g2, fun q hq => by
          rcases List.mem_append.mp hq with h | h
          · exact hS0.2.2 q h
          · obtain ⟨z, -, hz⟩ := List.mem_map.mp h
            rw [← hz]
            exact hbA⟩
        have hlen : (ai_app h (.inr (.inl (b, va_cpy f g sp.toNatClampNeg dp.toNatClampNeg n.toNatClampNeg)))).length = h.length := by simp [ai_app, hbb]
        have hfacts := Cell.storeRun_facts cd dp.toNatClampNeg (cs.stretch sp.toNatClampNeg n.toNatClampNeg)
        have hw1 : ai_w cl D rc P0 n0 ad (ai_app h (.inr (.inl (b, va_cpy f g sp.toNatClampNeg dp.toNatClampNeg n.toNatClampNeg)))) s (H.setIfInBounds (ad b) (copied cs cd sp dp n)) := by
          have e9 : ai_app h (.inr (.inl (b, va_cpy f g sp.toNatClampNeg dp.toNatClampNeg n.toNatClampNeg))) = h.set b (t, n2, va_cpy f g sp.toNatClampNeg dp.toNatClampNeg n.toNatClampNeg) := by simp [ai_app, hbb]
          rw [e9]
          have hcc : copied cs cd sp dp n = cd.storeRun dp.toNatClampNeg (cs.stretch sp.toNatClampNeg n.toNatClampNeg) := rfl
          have hget : ∀ j, j < n2 → (copied cs cd sp dp n).slots[j]? = some (ai_v ad (va_cpy f g sp.toNatClampNeg dp.toNatClampNeg n.toNatClampNeg j)) := by
            intro j hj
            rw [hcc, Cell.storeRun_get cd dp.toNatClampNeg _ j (by rw [Cell.stretch_length]; omega), Cell.stretch_length]
            unfold va_cpy
            split
            · rename_i hj9
              have hi9 : j - dp.toNatClampNeg < n.toNatClampNeg := by omega
              rw [(hpv ad _ (c9 _ hi9)).1, ← hval _ hi9]
              simp [Cell.stretch, hi9]
            · exact d6 j hj
          refine hw.set hbb c3 (by omega) ⟨fun h0 => absurd c1 (by have h0 : t < 100 := h0; omega), fun _ _ => ⟨_, e1, ?_, ?_, ?_, ?_, fun i hi => hget i hi, fun _ => ⟨?_, ?_, ?_⟩⟩⟩ (fun j hj => ?_) oq
          · exact ⟨fun k => by rw [hcc, hfacts.2.1]; exact d11 k, kd, by rw [hcc, hfacts.1]; exact hkd, dComp, hdk⟩
          · rw [hcc, hfacts.2.1]; exact d3
          · show n2 ≤ _
            rw [hcc, hfacts.2.2.1]; omega
          · show _ = Int32.ofNat n2
            rw [hcc, hfacts.2.2.1]; exact d5
          · rw [hcc, hfacts.1]; exact d8
          · rw [hcc, hfacts.2.1]; exact d9
          · show _ = n2
            rw [hcc, hfacts.2.2.1]; exact d10
          · unfold va_cpy
            split
            · rename_i hj9
              exact hw.2.1 a _ ha _ (show sp.toNatClampNeg + (j - dp.toNatClampNeg) < n1 by omega)
            · exact hw.2.1 b _ hbb j hj
        obtain ⟨t9, a1, b1⟩ := kk _ _ ⟨_, _, rfl, (List.getElem?_eq_some_iff.mp hbb).1⟩ hlen (hF.st (ai_tl (ai_tl (ai_tl (ai_tl (ai_tl hF.2.2)))))) hw1 hS1 _ hheap X'
        exact ⟨t9, step t9 a1, b1⟩
      · cases hq
    · cases hq
  · cases hq
theorem ai_same_ok (hw : ai_w cl D rc P0 n0 ad h s H) {u v : Value} {b : Bool} (hq : ai_same P0 h u v = some b) : ∃ ru rv : Option Nat, ai_v ad u = va_rf ru ∧ ai_v ad v = va_rf rv ∧ (b = true ↔ ru = rv) := by
  unfold ai_same at hq
  split at hq
  · cases hq; exact ⟨none, none, rfl, rfl, by simp⟩
  · cases hq; exact ⟨none, some _, rfl, rfl, by simp⟩
  · cases hq; exact ⟨some _, none, rfl, rfl, by simp⟩
  · rename_i i j
    refine ⟨some (ad i), some (ad j), rfl, rfl, ?_⟩
    split at hq
    · rename_i hij
      cases hq
      subst hij
      simp
    · rename_i hij
      split at hq
      · rename_i a9 b9 ha9 hb9
        split at hq
        · rename_i hcd
          cases hq
          simp only [Bool.and_eq_true, decide_eq_true_eq] at hcd
          refine ⟨fun h => (by cases h), fun h => absurd (hw.2.2.1 i j _ _ ha9 hb9 hcd.1.1 hcd.1.2 hcd.2 (Option.some.inj h)) hij⟩
        · cases hq
      · cases hq
  · cases hq
theorem ar_acmp {eq : Bool} {tgt : Nat} (hw : ai_w cl D rc P0 n0 ad h s H)
    (row : ∀ (ru rv : Option Nat) (r : List Value), ((ru = rv ↔ eq = true) → W p l e R s m args below meth c H locs cells slots Q (F0 m tgt ls r)) → (¬ (ru = rv ↔ eq = true) → W p l e R s m args below meth c H locs cells slots Q (F0 m (pc + 3) ls r)) → W p l e R s m args below meth c H locs cells slots Q (F0 m pc ls (va_rf rv :: va_rf ru :: r)))
    (hq : ai_acmp eq P0 tgt pc lv st h = some (.inl (pc', lv', st', x))) (hF : ai_F nL ad h.length lv st ls) (kk : x = .inl () → ai_F nL ad h.length lv' st' ls → W p l e R s m args below meth c H locs cells slots Q (F0 m pc' ls (st'.map (ai_v ad)))) : W p l e R s m args below meth c H locs cells slots Q (F0 m pc ls (st.map (ai_v ad))) := by
  unfold ai_acmp at hq
  split at hq
  · rename_i v u r
    split at hq
    · rename_i b hb9
      obtain ⟨ru, rv, e1, e2, e3⟩ := ai_same_ok hw hb9
      refine W.eq (g2 := F0 m pc ls (va_rf rv :: va_rf ru :: r.map (ai_v ad))) (by rw [← e1, ← e2]; rfl) ?_
      split at hq
      · rename_i hbe
        cases hq
        subst hbe
        refine row _ _ _ (fun _ => kk rfl (hF.st (ai_tl (ai_tl hF.2.2)))) (fun hn => absurd e3.symm hn)
      · rename_i hbe
        cases hq
        refine row _ _ _ (fun hh => absurd ?_ hbe) (fun _ => kk rfl (hF.st (ai_tl (ai_tl hF.2.2))))
        exact Bool.eq_iff_iff.mpr (e3.trans hh)
    · cases hq
  · cases hq
/-- a reference into an array: of the elements' own class, or of one that can be cast to it -/
theorem ar_aast {ac : Nat → Nat → Bool} {nw : List Cond} (hx : p.tables.exec = Jvm.exec) (hb : c.code = cc) (hK : va_K D cl [] s) (hnw : ∀ w ∈ nw, va_Nw w s) (hac : ∀ t b, ac t b = true → ∃ (C : String) (T : u_T) (N : Nat), cl[b]? = some (C, T, N) ∧ (C = rc t ∨ Cond.castable C (rc t) ∈ nw)) (hw : ai_w cl D rc P0 n0 ad h s H) (hS0 : va_S A H0 H locs) (hA : ∀ q, n0 ≤ q → A q) (hdg : decode cc pc = .ok (.aastore, 1))
    (hq : ai_ast (fun t => decide (110 ≤ t) && decide (t < 200)) (ai_narA ac h) P0 pc lv st h = some (.inl (pc', lv', st', x))) (hF : ai_F nL ad h.length lv st ls)
    (kk : ∀ (H1 : Heap) (locs1 : List Loc), (∃ k f, x = .inr (.inl (k, f)) ∧ k < h.length) → (ai_app h x).length = h.length → ai_F nL ad h.length lv' st' ls → ai_w cl D rc P0 n0 ad (ai_app h x) s H1 → va_S A H0 H1 locs1 → W p l e R s m args below meth c H1 locs1 cells slots Q (F0 m pc' ls (st'.map (ai_v ad)))) : W p l e R s m args below meth c H locs cells slots Q (F0 m pc ls (st.map (ai_v ad))) := by
  have key : ∀ t v w, ai_narA ac h t v = some w → w = v ∧ (v = .null ∨ ∃ b cb, v = .ref b ∧ h[b]? = some cb ∧ cb.1 < 100 ∧ ac t cb.1 = true) := by
    intro t v w hv
    unfold ai_narA at hv
    split at hv
    · cases hv; exact ⟨rfl, Or.inl rfl⟩
    · rename_i b
      split at hv
      · rename_i cb hcb
        split at hv
        · rename_i hcd
          cases hv
          rw [Bool.and_eq_true, decide_eq_true_eq] at hcd
          exact ⟨rfl, Or.inr ⟨b, cb, rfl, hcb, hcd.1, hcd.2⟩⟩
        · cases hv
      · cases hv
    · cases hv
  refine ar_ast (fun t ht => by simp at ht; omega) (fun t v w hv n hn => by rw [(key t v w hv).1]; exact hn) hw hS0 hA (fun t a n j cell v w r ht hv hvo g1 g2 g3 g4 g5 kx => ?_) hq hF kk
  simp at ht
  have hty : ai_ty rc t = .object (rc t) := by unfold ai_ty; rw [if_neg (by omega), if_neg (by omega), if_neg (by omega), if_neg (by omega), if_neg (by omega)]
  rw [hty] at g2 g4
  obtain ⟨rfl, hcase⟩ := key t v w hv
  rcases hcase with rfl | ⟨b, cb, rfl, hcb, hc1, hc2⟩
  · exact va_WaastN hx hb g1 g2 (by rw [g3]; exact fun z => by cases z) g5 rfl rfl hdg kx
  · obtain ⟨C, T, N, hcl, hCC⟩ := hac t cb.1 hc2
    obtain ⟨r0, h1, h2, cellV, q1, q2, q3, q4⟩ := (hw.1 b cb hcb).1 hc1
    obtain ⟨kA, comp, k1, k2, k3, k4⟩ := g4
    have hcls := (hK.1 cb.1 _ hcl).2
    obtain ⟨kC, hkC, -⟩ := hcls.2
    obtain ⟨kE, hkE, -⟩ := Vm.findClass_spec k3
    have hasg : s.vm.assignable (D.1 cb.1) comp = true := by
      rcases hCC with rfl | hca
      · have : comp = D.1 cb.1 := Option.some.inj (k3.symm.trans hcls.1)
        subst this
        exact va_assign hcls
      · obtain ⟨c0, t1, f1, f2, f3⟩ := Cond.castable_spec (va_Nw.use (A := args) rfl (hnw _ hca))
        cases hcls.1.symm.trans f1
        cases k3.symm.trans f2
        exact f3
    exact W.aast hx hb g1 (fun q h => by rw [g3] at h; cases h) (by rw [g3]; exact fun z => by cases z) k1 k2 rfl hkE ⟨fun z => g5 (Or.inl z), Nat.lt_of_not_le (fun z => g5 (Or.inr z))⟩ q1 (fun q h => by rw [q3] at h; cases h) (by rw [q2]; exact hkC) (by rw [q2]; exact hasg) rfl rfl hdg kx
end AIC
