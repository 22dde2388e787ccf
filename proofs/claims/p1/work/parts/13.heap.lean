/-! fields, arrays, new cells -/
def ai_fit (ty : FieldType) (v : Value) : Bool := match ty, v with
  | .int, .int _ => true
  | .long, .long _ => true
  | .boolean, .int x => x == 0 || x == 1
  | .object _, .null => true
  | .object _, .ref _ => true
  | .array _, .null => true
  | .array _, .ref _ => true
  | _, _ => false
theorem ai_fit_ok {ty : FieldType} {v : Value} (ad : Nat → Nat) (h : ai_fit ty v = true) : narrow ty (ai_v ad v) = ai_v ad v ∧ fits ty (ai_v ad v) = true := by
  unfold ai_fit at h
  split at h <;> first | (cases h; done) | (exact ⟨rfl, rfl⟩) | skip
  rename_i x
  rw [Bool.or_eq_true, beq_iff_eq, beq_iff_eq] at h
  rcases h with rfl | rfl <;> exact ⟨by show narrow FieldType.boolean (Value.int _) = Value.int _; decide, by show fits FieldType.boolean (Value.int _) = true; decide⟩
def ai_sz (h : ai_H) : Nat := (h.map (fun c => c.2.1)).sum
/-- what the tables say of the classes -/
def ai_K (cl : List vw_C) (tyf : Nat → Nat → FieldType) (tb : List Cond) : Prop := ∀ (ci : Nat) (C : String) (T : u_T) (N : Nat), cl[ci]? = some (C, T, N) →
  (∀ w ∈ u_ws C T N, w ∈ tb) ∧ (∀ k, k < N → parseFieldDescriptor (T k).2.2.1 = some (tyf ci k)) ∧ ∀ a, a < N → ∀ b, b < N → a ≠ b → (T a).2.1 ≠ (T b).2.1
/-- the field's entry in the pool: by its own class, or by a class that inherits it -/
def ai_link (tb : List Cond) (own : String) (index : Nat) (T : u_T) (k : Nat) : Prop := Cond.fieldLink own index (T k).1 (T k).2.1 (T k).2.2.1 ∈ tb ∨ ∃ ref, Cond.fieldLink own index ref (T k).2.1 (T k).2.2.1 ∈ tb ∧ Cond.sameField ref (T k).1 (T k).2.1 (T k).2.2.1 ∈ tb
theorem ai_link_ref {tb : List Cond} {own : String} {index : Nat} {T : u_T} {k : Nat} (h : ai_link tb own index T k) {args : Array Value} {s : State} (hts : ∀ w ∈ tb, w.before args s = true) :
    ∃ ref, (Cond.fieldLink own index ref (T k).2.1 (T k).2.2.1).before args s = true ∧ ∀ x, s.fieldFound? (T k).1 (T k).2.1 (T k).2.2.1 = some x → s.fieldFound? ref (T k).2.1 (T k).2.2.1 = some x := by
  rcases h with h | ⟨ref, h1, h2⟩
  · exact ⟨_, hts _ h, fun _ h => h⟩
  · exact ⟨ref, hts _ h1, fun x hx => u_same (hts _ h2) x hx⟩
def ai_get (ci k pc : Nat) (lv : ai_L) (st : List Value) (h : ai_H) : Option ai_O := match st with
  | .ref a :: r => match h[a]? with
    | some (t, n, f) => if decide (t = ci) && decide (k < n) then ai_nx (pc + 3) lv (f k :: r) else none
    | none => none
  | _ => none
def ai_put (ty : FieldType) (P0 ci k pc : Nat) (lv : ai_L) (st : List Value) (h : ai_H) : Option ai_O := match st with
  | v :: .ref a :: r => match h[a]? with
    | some (t, n, f) => if decide (t = ci) && decide (k < n) && decide (P0 ≤ a) && ai_fit ty v then ai_nxE (pc + 3) lv r (.inr (.inl (a, va_up f k v))) else none
    | none => none
  | _ => none
def ai_len (pc : Nat) (lv : ai_L) (st : List Value) (h : ai_H) : Option ai_O := match st with
  | .ref a :: r => match h[a]? with
    | some (t, n, f) => if decide (100 ≤ t) && decide (t < 200) then ai_nx (pc + 1) lv (.int (Int32.ofNat n) :: r) else none
    | none => none
  | _ => none
theorem ai_idx_in {j : Int32} {n : Nat} (h : ai_idx j n = true) : ¬ j < 0 ∧ j.toNatClampNeg < n := by
  unfold ai_idx at h
  rw [Bool.and_eq_true, decide_eq_true_eq, decide_eq_true_eq] at h
  have h0 : (0 : Int32).toInt = 0 := by decide
  refine ⟨fun hj => ?_, ?_⟩
  · have := Int32.lt_iff_toInt_lt.mp hj
    omega
  · have : j.toNatClampNeg = j.toInt.toNat := rfl
    omega
section AIH
variable {p : Program} {l : Launch} {e : Env} {R : Room} {s : State} {m : MethodId} {args : Array Value} {below : List Frame} {meth : Method} {c : Code} {H : Heap} {locs : List Loc} {cells slots : Nat} {Q : State → Prop}
variable {nL pc pc' : Nat} {ad : Nat → Nat} {lv lv' : ai_L} {st st' : List Value} {ls : Array Slot} {x : ai_E} {cc : ByteArray} {h : ai_H}
variable {cl : List vw_C} {tyf : Nat → Nat → FieldType} {tb : List Cond} {D : va_G} {rc : Nat → String} {P0 n0 : Nat} {A : Nat → Prop} {H0 : Heap} {own : String} {index : Nat} {tys : List (ClassId × FieldType)}
theorem ar_get (hx : p.tables.exec = Jvm.exec) (hb : c.code = cc) (hts : ∀ w ∈ tb, w.before args s = true) (hCK : ai_K cl tyf tb) (hown : s.vm.findClass own = some m.cls) (hK : va_K D cl tys s) (hw : ai_w cl D rc P0 n0 ad h s H)
    {ci k N : Nat} {C : String} {T : u_T} (hci : ci < 100) (hc : cl[ci]? = some (C, T, N)) (hk : k < N) (hlink : ai_link tb own index T k) (hdg : decode cc pc = .ok (.getfield index, 3))
    (hq : ai_get ci k pc lv st h = some (.inl (pc', lv', st', x))) (hF : ai_F nL ad h.length lv st ls) (kk : x = .inl () → ai_F nL ad h.length lv' st' ls → W p l e R s m args below meth c H locs cells slots Q (F0 m pc' ls (st'.map (ai_v ad)))) : W p l e R s m args below meth c H locs cells slots Q (F0 m pc ls (st.map (ai_v ad))) := by
  unfold ai_get at hq
  split at hq
  · rename_i a r
    split at hq
    · rename_i t n f ha
      split at hq
      · rename_i hcd
        cases hq
        rw [Bool.and_eq_true, decide_eq_true_eq, decide_eq_true_eq] at hcd
        obtain ⟨rfl, hkn⟩ := hcd
        obtain ⟨r0, h1, h2, cell, q1, q2, q3, q4⟩ := (hw.1 a _ ha).1 hci
        have hr : r0 = (C, T, N) := Option.some.inj (h1.symm.trans hc)
        subst hr
        obtain ⟨hin, -, -⟩ := hCK _ _ _ _ hc
        obtain ⟨ref, hl, hsame⟩ := ai_link_ref hlink hts
        obtain ⟨hS, hfc, kC, hkC, hkind⟩ := hK.1 t _ hc
        obtain ⟨cf, kf, fi, fd, hi, hsl⟩ := hS k hk
        refine W.getf hx hb hown hl (hsame _ hi) (u_facts hfc hkC (u_lays hts hin hk) hi).1 q1 (by rw [q3]; exact fun h => by cases h) (v := ai_v ad (f k)) (by rw [hsl, q4 k hk]) rfl rfl hdg ?_
        exact kk rfl (hF.st (ai_cons (hw.2.1 a _ ha k hkn) (ai_tl hF.2.2)))
      · cases hq
    · cases hq
  · cases hq
theorem ar_put (hx : p.tables.exec = Jvm.exec) (hb : c.code = cc) (hts : ∀ w ∈ tb, w.before args s = true) (hCK : ai_K cl tyf tb) (hown : s.vm.findClass own = some m.cls) (hK : va_K D cl tys s) (hw : ai_w cl D rc P0 n0 ad h s H) (hS0 : va_S A H0 H locs) (hA : ∀ q, n0 ≤ q → A q)
    {ci k N : Nat} {C : String} {T : u_T} (hci : ci < 100) (hc : cl[ci]? = some (C, T, N)) (hk : k < N) (hlink : ai_link tb own index T k) (hfin : (T k).2.2.2 = true → meth.name = "<init>" ∧ (T k).1 = own) (hdg : decode cc pc = .ok (.putfield index, 3))
    (hq : ai_put (tyf ci k) P0 ci k pc lv st h = some (.inl (pc', lv', st', x))) (hF : ai_F nL ad h.length lv st ls)
    (kk : ∀ (H1 : Heap) (locs1 : List Loc), (∃ k f, x = .inr (.inl (k, f)) ∧ k < h.length) → (ai_app h x).length = h.length → ai_F nL ad h.length lv' st' ls → ai_w cl D rc P0 n0 ad (ai_app h x) s H1 → va_S A H0 H1 locs1 → W p l e R s m args below meth c H1 locs1 cells slots Q (F0 m pc' ls (st'.map (ai_v ad)))) : W p l e R s m args below meth c H locs cells slots Q (F0 m pc ls (st.map (ai_v ad))) := by
  unfold ai_put at hq
  split at hq
  · rename_i v a r
    split at hq
    · rename_i t n f ha
      split at hq
      · rename_i hcd
        cases hq
        rw [Bool.and_eq_true, Bool.and_eq_true, Bool.and_eq_true, decide_eq_true_eq, decide_eq_true_eq, decide_eq_true_eq] at hcd
        obtain ⟨⟨⟨rfl, hkn⟩, hPa⟩, hft⟩ := hcd
        obtain ⟨hn, hfit⟩ := ai_fit_ok ad hft
        obtain ⟨r0, h1, h2, cell, q1, q2, q3, q4⟩ := (hw.1 a _ ha).1 hci
        have hr : r0 = (C, T, N) := Option.some.inj (h1.symm.trans hc)
        subst hr
        have h2 : n = N := h2
        subst h2
        obtain ⟨hin, hty, hnm⟩ := hCK _ _ _ _ hc
        obtain ⟨ref, hl, hsame⟩ := ai_link_ref hlink hts
        have hap := va_apart (own := own) hts hin (tyf t) hty hnm hK hc
        obtain ⟨hS, hfc, kC, hkC, hkind⟩ := hK.1 t _ hc
        obtain ⟨cf, kf, fi, fd, hi, hsl⟩ := hS k hk
        have hst := (u_facts hfc hkC (u_lays hts hin hk) hi).1
        have hlay := hts _ (hin _ (u_in_lay hk))
        have hlt : fd.slot < cell.slots.size := by rw [hsl]; exact k2_hasslot (q4 k hk)
        have hlen : (ai_app h (.inr (.inl (a, va_up f k v)))).length = h.length := by simp [ai_app, ha]
        have hfinal : ∀ H' : Heap, H'[ad a]? = some (cell.setSlot fd.slot (ai_v ad v)) → H'.size = H.size → (∀ q, q ≠ ad a → H'[q]? = H[q]?) → W p l e R s m args below meth c H' (locs ++ [⟨ad a, fd.slot⟩]) cells slots Q (F0 m (pc + 3) ls (st'.map (ai_v ad))) := by
          intro H' e1 e2 e3
          refine kk H' _ ⟨_, _, rfl, (List.getElem?_eq_some_iff.mp ha).1⟩ hlen (hF.st (ai_tl (ai_tl hF.2.2))) ?_ (hS0.put e2 e3 (hA _ (hw.2.2.2 a _ ha hPa (by show t < 200; omega))))
          have e9 : ai_app h (.inr (.inl (a, va_up f k v))) = h.set a (t, n, va_up f k v) := by simp [ai_app, ha]
          rw [e9]
          refine hw.set ha hPa (by omega) ⟨fun _ => ⟨_, hc, rfl, ?_⟩, fun h100 _ => absurd hci (by omega)⟩ (fun j hj => ?_) e3
          · rw [hsl] at e1
            refine t_OB.to (V := updV (fun j => ai_v ad (f j)) k (ai_v ad v)) ⟨_, e1, q2, q3, t_set q4 hap hk (ai_v ad v)⟩ (fun j _ => ?_)
            show updV (fun j => ai_v ad (f j)) k (ai_v ad v) j = ai_v ad (va_up f k v j)
            unfold updV va_up
            by_cases hjk : j = k <;> simp [hjk]
          · unfold va_up
            by_cases hjk : j = k
            · rw [if_pos hjk]; exact ai_hd hF.2.2
            · rw [if_neg hjk]; exact hw.2.1 a _ ha j hj
        unfold u_lay at hlay
        by_cases hf : (T k).2.2.2 = true
        · rw [if_pos hf] at hlay
          obtain ⟨hin2, hdecl⟩ := hfin hf
          have hcf : m.cls = cf := by
            obtain ⟨_, _, c', _, _, _, -, -, hf', -, -, -, hown2, -⟩ := Cond.laysFinal_spec hlay
            have e1 : c' = cf := by have := hi.symm.trans hf'; simp at this; exact this.1.symm
            rw [hdecl] at hown2
            rw [← e1]; exact Option.some.inj (hown.symm.trans hown2)
          have h6 := u_fits hfc hkC hkind (Or.inr hlay) hi (hty k hk) hn hfit
          exact W.putFinK hx hb hown hl (hsame _ hi) hst hcf hin2 (by rw [q2]; exact h6) q1 q3 hlt rfl rfl hdg hfinal
        · rw [if_neg hf] at hlay
          have h6 := u_store hfc hkC hkind hlay hi (hty k hk) hn hfit
          exact W.putK hx hb (f := fd) ⟨hown, hl, ⟨_, _, _, hsame _ hi⟩, hst⟩ (by rw [q2]; exact h6) q1 q3 hlt rfl rfl hdg hfinal
      · cases hq
    · cases hq
  · cases hq
theorem ar_len (hx : p.tables.exec = Jvm.exec) (hb : c.code = cc) (hw : ai_w cl D rc P0 n0 ad h s H) (hdg : decode cc pc = .ok (.arraylength, 1))
    (hq : ai_len pc lv st h = some (.inl (pc', lv', st', x))) (hF : ai_F nL ad h.length lv st ls) (kk : x = .inl () → ai_F nL ad h.length lv' st' ls → W p l e R s m args below meth c H locs cells slots Q (F0 m pc' ls (st'.map (ai_v ad)))) : W p l e R s m args below meth c H locs cells slots Q (F0 m pc ls (st.map (ai_v ad))) := by
  unfold ai_len at hq
  split at hq
  · rename_i a r
    split at hq
    · rename_i t n f ha
      split at hq
      · rename_i hcd
        cases hq
        rw [Bool.and_eq_true, decide_eq_true_eq, decide_eq_true_eq] at hcd
        obtain ⟨cell, h1, h2, h3, h4, h5, h6, -⟩ := (hw.1 a _ ha).2 hcd.1 hcd.2
        exact W.alen hx hb h1 h2 h5 rfl rfl hdg (kk rfl (hF.st (ai_cons (ai_ok_i _ _) (ai_tl hF.2.2))))
      · cases hq
    · cases hq
  · cases hq
/-- a load from an array of a kind t -/
theorem ar_ald {ok : Nat → Bool} (hok : ∀ t, ok t = true → 100 ≤ t ∧ t < 200) (hw : ai_w cl D rc P0 n0 ad h s H)
    (row : ∀ (t a n : Nat) (j : Int32) (cell : Cell) (v : Value) (r : List Value), ok t = true → H[a]? = some cell → s.isArrayOf cell (ai_ty rc t) → cell.vm ≠ .unknown → ¬ (j < 0 ∨ cell.slots.size ≤ j.toNatClampNeg) → cell.slots[j.toNatClampNeg]? = some v → W p l e R s m args below meth c H locs cells slots Q (F0 m (pc + 1) ls (v :: r)) → W p l e R s m args below meth c H locs cells slots Q (F0 m pc ls (.int j :: .ref a :: r)))
    (hq : ai_ald ok pc lv st h = some (.inl (pc', lv', st', x))) (hF : ai_F nL ad h.length lv st ls) (kk : x = .inl () → ai_F nL ad h.length lv' st' ls → W p l e R s m args below meth c H locs cells slots Q (F0 m pc' ls (st'.map (ai_v ad)))) : W p l e R s m args below meth c H locs cells slots Q (F0 m pc ls (st.map (ai_v ad))) := by
  unfold ai_ald at hq
  split at hq
  · rename_i j a r
    split at hq
    · rename_i t n f ha
      split at hq
      · rename_i hcd
        cases hq
        rw [Bool.and_eq_true] at hcd
        obtain ⟨ht, hj⟩ := hcd
        obtain ⟨hj0, hj1⟩ := ai_idx_in hj
        obtain ⟨cell, h1, h2, h3, h4, h5, h6, -⟩ := (hw.1 a _ ha).2 (hok t ht).1 (hok t ht).2
        have h4 : n ≤ cell.slots.size := h4
        refine row t (ad a) n j cell _ _ ht h1 h2 h3 (fun hh => hh.elim hj0 (fun h9 => by omega)) (h6 _ hj1) (kk rfl (hF.st (ai_cons (hw.2.1 a _ ha _ hj1) (ai_tl (ai_tl hF.2.2)))))
      · cases hq
    · cases hq
  · cases hq
/-- a store into an array of a kind t -/
theorem ar_ast {ok : Nat → Bool} {nar : Nat → Value → Option Value} (hok : ∀ t, ok t = true → 100 ≤ t ∧ t < 200) (hnar : ∀ t v w, nar t v = some w → ∀ n, ai_ok n v → ai_ok n w) (hw : ai_w cl D rc P0 n0 ad h s H) (hS0 : va_S A H0 H locs) (hA : ∀ q, n0 ≤ q → A q)
    (row : ∀ (t a n : Nat) (j : Int32) (cell : Cell) (v w : Value) (r : List Value), ok t = true → nar t v = some w → ai_ok h.length v → H[a]? = some cell → s.isArrayOf cell (ai_ty rc t) → cell.vm = .none → va_RA s cell.cls (ai_ty rc t) → ¬ (j < 0 ∨ cell.slots.size ≤ j.toNatClampNeg) →
      (∀ H' : Heap, H'[a]? = some (cell.setSlot j.toNatClampNeg (ai_v ad w)) → H'.size = H.size → (∀ q, q ≠ a → H'[q]? = H[q]?) → W p l e R s m args below meth c H' (locs ++ [⟨a, j.toNatClampNeg⟩]) cells slots Q (F0 m (pc + 1) ls r)) → W p l e R s m args below meth c H locs cells slots Q (F0 m pc ls (ai_v ad v :: .int j :: .ref a :: r)))
    (hq : ai_ast ok nar P0 pc lv st h = some (.inl (pc', lv', st', x))) (hF : ai_F nL ad h.length lv st ls)
    (kk : ∀ (H1 : Heap) (locs1 : List Loc), (∃ k f, x = .inr (.inl (k, f)) ∧ k < h.length) → (ai_app h x).length = h.length → ai_F nL ad h.length lv' st' ls → ai_w cl D rc P0 n0 ad (ai_app h x) s H1 → va_S A H0 H1 locs1 → W p l e R s m args below meth c H1 locs1 cells slots Q (F0 m pc' ls (st'.map (ai_v ad)))) : W p l e R s m args below meth c H locs cells slots Q (F0 m pc ls (st.map (ai_v ad))) := by
  unfold ai_ast at hq
  split at hq
  · rename_i v j a r
    split at hq
    · rename_i t n f ha
      split at hq
      · rename_i w hwv
        split at hq
        · rename_i hcd
          cases hq
          rw [Bool.and_eq_true, Bool.and_eq_true, decide_eq_true_eq] at hcd
          obtain ⟨⟨ht, hj⟩, hPa⟩ := hcd
          obtain ⟨hj0, hj1⟩ := ai_idx_in hj
          obtain ⟨cell, h1, h2, h3, h4, h5, h6, h7⟩ := (hw.1 a _ ha).2 (hok t ht).1 (hok t ht).2
          obtain ⟨h8, h9, h10⟩ := h7 hPa
          have h10 : cell.slots.size = n := h10
          refine row t (ad a) n j cell v w _ ht hwv (ai_hd hF.2.2) h1 h2 h9 h8 (fun hh => hh.elim hj0 (fun h9 => by omega)) (fun H' e1 e2 e3 => ?_)
          have hlen : (ai_app h (.inr (.inl (a, va_up f j.toNatClampNeg w)))).length = h.length := by simp [ai_app, ha]
          refine kk H' _ ⟨_, _, rfl, (List.getElem?_eq_some_iff.mp ha).1⟩ hlen (hF.st (ai_tl (ai_tl (ai_tl hF.2.2)))) ?_ (hS0.put e2 e3 (hA _ (hw.2.2.2 a _ ha hPa (hok t ht).2)))
          have e9 : ai_app h (.inr (.inl (a, va_up f j.toNatClampNeg w))) = h.set a (t, n, va_up f j.toNatClampNeg w) := by simp [ai_app, ha]
          rw [e9]
          refine hw.set ha hPa (hok t ht).2 ⟨fun h0 => absurd (hok t ht).1 (by have h0 : t < 100 := h0; omega), fun _ _ => ⟨_, e1, ⟨h2.1, h2.2⟩, h3, ?_, ?_, fun i hi => ?_, fun _ => ⟨h8, h9, ?_⟩⟩⟩ (fun i hi => ?_) e3
          · show n ≤ _
            simp only [Cell.setSlot, Array.size_setIfInBounds]; omega
          · show _ = Int32.ofNat n
            simp only [Cell.setSlot, Array.size_setIfInBounds]; exact h5
          · have hi : i < n := hi
            show (cell.setSlot j.toNatClampNeg (ai_v ad w)).slots[i]? = some (ai_v ad (va_up f j.toNatClampNeg w i))
            simp only [Cell.setSlot]
            by_cases hij : i = j.toNatClampNeg
            · subst hij
              rw [Array.getElem?_setIfInBounds_self_of_lt (by omega)]
              simp [va_up]
            · rw [Array.getElem?_setIfInBounds_ne (fun q => hij q.symm), h6 i hi]
              simp [va_up, hij]
          · show _ = n
            simp only [Cell.setSlot, Array.size_setIfInBounds]; exact h10
          · unfold va_up
            by_cases hij : i = j.toNatClampNeg
            · rw [if_pos hij]; exact hnar t v w hwv _ (ai_hd hF.2.2)
            · rw [if_neg hij]; exact hw.2.1 a _ ha i hi
        · cases hq
      · cases hq
    · cases hq
  · cases hq
end AIH
