/-! new objects and arrays -/
def ai_newo (ty : Nat → FieldType) (ci N pc : Nat) (lv : ai_L) (st : List Value) (h : ai_H) : Option ai_O := ai_nxE (pc + 3) lv (.ref h.length :: st) (.inr (.inr (ci, N, fun j => defaultValue (ty j))))
def ai_newa (ty : FieldType) (t len pc : Nat) (lv : ai_L) (st : List Value) (h : ai_H) : Option ai_O := match st with
  | .int n :: r => if decide (0 ≤ n.toInt) && decide (n.toInt ≤ 50000000) then ai_nxE (pc + len) lv (.ref h.length :: r) (.inr (.inr (t, n.toNatClampNeg, fun _ => defaultValue ty))) else none
  | _ => none
theorem ai_dv_ok (n : Nat) (ty : FieldType) : ai_ok n (defaultValue ty) := fun k h => by cases ty <;> cases h
theorem ai_dv (ad : Nat → Nat) (ty : FieldType) : ai_v ad (defaultValue ty) = defaultValue ty := by cases ty <;> rfl
theorem ai_app_push (h : ai_H) (c : ai_C) : ai_app h (.inr (.inr c)) = h ++ [c] := rfl
section AIN
variable {p : Program} {l : Launch} {e : Env} {R : Room} {s : State} {m : MethodId} {args : Array Value} {below : List Frame} {meth : Method} {c : Code} {H : Heap} {locs : List Loc} {cells slots : Nat} {Q : State → Prop}
variable {nL pc pc' : Nat} {ad : Nat → Nat} {lv lv' : ai_L} {st st' : List Value} {ls : Array Slot} {x : ai_E} {cc : ByteArray} {h : ai_H}
variable {cl : List vw_C} {tyf : Nat → Nat → FieldType} {tb : List Cond} {D : va_G} {rc : Nat → String} {P0 n0 : Nat} {A : Nat → Prop} {H0 : Heap} {own : String} {index : Nat} {tys : List (ClassId × FieldType)}
/-- behind a new cell: its number, its address, the frame -/
theorem ai_born {r : List Value} (hF : ai_F nL ad h.length lv r ls) (q : Nat) : ai_F nL (va_up ad h.length q) (h.length + 1) lv (.ref h.length :: r) ls ∧ (Value.ref h.length :: r).map (ai_v (va_up ad h.length q)) = .ref q :: r.map (ai_v ad) ∧ ∀ k, k < h.length → va_up ad h.length q k = ad k := by
  have he : ∀ k, k < h.length → va_up ad h.length q k = ad k := fun k hk => by simp [va_up, Nat.ne_of_lt hk]
  refine ⟨⟨(hF.ext he (Nat.le_succ _)).1, (hF.ext he (Nat.le_succ _)).2.1, ai_cons (fun k hk => by cases hk; exact Nat.lt_succ_self _) (hF.ext he (Nat.le_succ _)).2.2⟩, ?_, he⟩
  rw [List.map_cons, ai_map_ext hF.2.2 he]
  simp [ai_v, va_up]
theorem ai_push_S {H1 : Heap} (hS0 : va_S A H0 H locs) (z1 : H1.size = H.size + 1) (o1 : ∀ q, q < H.size → H1[q]? = H[q]?) : va_S A H0 H1 locs :=
  ⟨Nat.le_trans hS0.1 (by omega), fun x h1 h2 => (o1 x (Nat.lt_of_lt_of_le h1 hS0.1)).trans (hS0.2.1 x h1 h2), hS0.2.2⟩
theorem ar_new (hx : p.tables.exec = Jvm.exec) (hb : c.code = cc) (hts : ∀ w ∈ tb, w.before args s = true) (hCK : ai_K cl tyf tb) (hown : s.vm.findClass own = some m.cls) (hK : va_K D cl tys s) (hw : ai_w cl D rc P0 n0 ad h s H) (hS0 : va_S A H0 H locs) (hn0 : n0 ≤ H0.size)
    {ci N : Nat} {C : String} {T : u_T} (hci : ci < 100) (hc : cl[ci]? = some (C, T, N)) (hcl : Cond.classLink own index C ∈ tb) (hinst : Cond.instantiable C N ∈ tb) (hini : Cond.initialized C ∈ tb) (hcells : cells + 1 ≤ R.cells) (hslots : slots + N ≤ R.slots) (hdg : decode cc pc = .ok (.new index, 3))
    (hq : ai_newo (tyf ci) ci N pc lv st h = some (.inl (pc', lv', st', x))) (hF : ai_F nL ad h.length lv st ls)
    (kk : ∀ (ad' : Nat → Nat) (H1 : Heap), (∃ c : ai_C, x = .inr (.inr c) ∧ c.2.1 = N) → (∀ k, k < h.length → ad' k = ad k) → ai_F nL ad' (h.length + 1) lv' st' ls → ai_w cl D rc P0 n0 ad' (ai_app h x) s H1 → va_S A H0 H1 locs → W p l e R s m args below meth c H1 locs (cells + 1) (slots + N) Q (F0 m pc' ls (st'.map (ai_v ad')))) : W p l e R s m args below meth c H locs cells slots Q (F0 m pc ls (st.map (ai_v ad))) := by
  unfold ai_newo ai_nxE at hq
  cases hq
  obtain ⟨hin, hty, -⟩ := hCK _ _ _ _ hc
  have hKn := hK.1 ci _ hc
  refine W.newcK hx hb hown (hts _ hcl) (hts _ hinst) (hts _ hini) rfl hdg hcells hslots hKn.2.1 rfl fun H1 kC hkC e1 z1 o1 => ?_
  obtain ⟨hF', hm, he⟩ := ai_born hF H.size
  refine W.eq (g2 := F0 m (pc + 3) ls ((Value.ref h.length :: st).map (ai_v (va_up ad h.length H.size)))) (by rw [hm]) ?_
  refine kk _ H1 ⟨_, rfl, rfl⟩ he hF' ?_ (ai_push_S hS0 z1 o1)
  rw [ai_app_push]
  refine hw.push (Nat.le_trans hn0 hS0.1) ⟨fun _ => ⟨_, hc, rfl, ?_⟩, fun h100 _ => absurd hci (by have h100 : 100 ≤ ci := h100; omega)⟩ (Nat.le_refl _) (fun j hj => ai_dv_ok _ _) o1
  exact (u_born (tyf ci) hts hin hKn hkC e1 hty).to (fun j hj => (ai_dv ad _).symm)
theorem ai_in_range {n : Int32} (h : (decide (0 ≤ n.toInt) && decide (n.toInt ≤ 50000000)) = true) : ¬ n < 0 ∧ n.toNatClampNeg ≤ 50000000 ∧ (n.toNatClampNeg).toInt32 = Int32.ofNat n.toNatClampNeg := by
  rw [Bool.and_eq_true, decide_eq_true_eq, decide_eq_true_eq] at h
  have h0 : (0 : Int32).toInt = 0 := by decide
  have h1 : n.toNatClampNeg = n.toInt.toNat := rfl
  refine ⟨fun hj => ?_, by omega, rfl⟩
  have := Int32.lt_iff_toInt_lt.mp hj
  omega
theorem ar_arr {ty : FieldType} {t N : Nat} {q : Nat} {cA : ClassId} {kA : Class} {comp : ClassId} {H1 : Heap} (hH1 : H1 = H.push ({ cls := cA, slots := Array.replicate N (defaultValue ty), vm := .none } : Cell)) (hty : ai_ty rc t = ty) (ht : 100 ≤ t) (f2 : s.vm.classes[cA]? = some kA) (f3 : kA.kind = .array comp ty) (f4 : va_RA s cA ty) :
    ai_at cl D rc ad s H1 True H.size (t, N, fun _ => defaultValue ty) ∧ H1.size = H.size + 1 ∧ ∀ q : Nat, q < H.size → H1[q]? = H[q]? := by
  have z1 : H1.size = H.size + 1 := by rw [hH1, Array.size_push]
  have o1 : ∀ q : Nat, q < H.size → H1[q]? = H[q]? := fun q hq => by rw [hH1, Array.getElem?_push, if_neg (Nat.ne_of_lt hq)]
  have e1 : H1[H.size]? = some ({ cls := cA, slots := Array.replicate N (defaultValue ty), vm := .none } : Cell) := by rw [hH1, Array.getElem?_push_size]
  refine ⟨⟨fun h0 => absurd ht (by have h0 : t < 100 := h0; omega), fun _ _ => ⟨_, e1, ?_, (fun h => by cases h), ?_, ?_, fun j hj => ?_, fun _ => ⟨?_, rfl, ?_⟩⟩⟩, z1, o1⟩
  · show s.isArrayOf _ (ai_ty rc t)
    rw [hty]
    exact ⟨(fun k h => by cases h), kA, f2, comp, f3⟩
  · show N ≤ (Array.replicate N (defaultValue ty)).size
    rw [Array.size_replicate]
    exact Nat.le_refl _
  · show (Array.replicate N (defaultValue ty)).size.toInt32 = Int32.ofNat N
    rw [Array.size_replicate]
  · have hj : j < N := hj
    show (Array.replicate N (defaultValue ty))[j]? = some (ai_v ad (defaultValue ty))
    rw [ai_dv]
    simp [hj]
  · show va_RA s cA (ai_ty rc t)
    rw [hty]; exact f4
  · show (Array.replicate N (defaultValue ty)).size = N
    simp
theorem ar_newa (hx : p.tables.exec = Jvm.exec) (hb : c.code = cc) (hw : ai_w cl D rc P0 n0 ad h s H) (hS0 : va_S A H0 H locs) (hn0 : n0 ≤ H0.size)
    {atype : ArrayType} {t : Nat} (hty : ai_ty rc t = newarray.typeOf atype) (ht : 100 ≤ t) (harr : (Cond.arrayClass (newarray.typeOf atype)).before args s = true) (hcm : ∀ r n, st = .int n :: r → cells + 1 ≤ R.cells ∧ slots + n.toNatClampNeg ≤ R.slots) (hdg : decode cc pc = .ok (.newarray atype, 2))
    (hq : ai_newa (newarray.typeOf atype) t 2 pc lv st h = some (.inl (pc', lv', st', x))) (hF : ai_F nL ad h.length lv st ls)
    (kk : ∀ (ad' : Nat → Nat) (H1 : Heap) (N : Nat), (∃ c : ai_C, x = .inr (.inr c) ∧ c.2.1 = N) → (∀ k, k < h.length → ad' k = ad k) → ai_F nL ad' (h.length + 1) lv' st' ls → ai_w cl D rc P0 n0 ad' (ai_app h x) s H1 → va_S A H0 H1 locs → W p l e R s m args below meth c H1 locs (cells + 1) (slots + N) Q (F0 m pc' ls (st'.map (ai_v ad')))) : W p l e R s m args below meth c H locs cells slots Q (F0 m pc ls (st.map (ai_v ad))) := by
  unfold ai_newa at hq
  split at hq
  · rename_i n r
    split at hq
    · rename_i hcd
      unfold ai_nxE at hq
      cases hq
      obtain ⟨g1, g2, -⟩ := ai_in_range hcd
      have hcb : componentBytes (newarray.typeOf atype) ≤ 8 := by cases atype <;> decide
      refine W.newa hx hb harr rfl hdg rfl g1 (Nat.le_trans (Nat.mul_le_mul g2 hcb) (by decide)) (hcm _ _ rfl).1 (hcm _ _ rfl).2 fun cA kA comp f1 f2 f3 => ?_
      have hFr := hF.st (ai_tl hF.2.2)
      obtain ⟨hF', hm, he⟩ := ai_born hFr H.size
      have hRA : va_RA s cA (newarray.typeOf atype) := by cases atype <;> exact f1
      obtain ⟨hat, z1, o1⟩ := ar_arr (cl := cl) (D := D) (rc := rc) (ad := ad) (q := 0) (N := n.toNatClampNeg) rfl hty ht f2 f3 hRA
      refine W.eq (g2 := F0 m (pc + 2) ls ((Value.ref h.length :: r).map (ai_v (va_up ad h.length H.size)))) (by rw [hm]) ?_
      refine kk _ _ n.toNatClampNeg ⟨_, rfl, rfl⟩ he hF' ?_ (ai_push_S hS0 z1 o1)
      rw [ai_app_push]
      exact hw.push (Nat.le_trans hn0 hS0.1) hat (Nat.le_refl _) (fun j hj => ai_dv_ok _ _) o1
    · cases hq
  · cases hq
theorem ar_anew (hx : p.tables.exec = Jvm.exec) (hb : c.code = cc) (hown : s.vm.findClass own = some m.cls) (hw : ai_w cl D rc P0 n0 ad h s H) (hS0 : va_S A H0 H locs) (hn0 : n0 ≤ H0.size)
    {C : String} {t : Nat} (hty : ai_ty rc t = .object C) (ht : 100 ≤ t) (hclink : (Cond.classLink own index C).before args s = true) (hover : va_AO C s) (hcm : ∀ r n, st = .int n :: r → cells + 1 ≤ R.cells ∧ slots + n.toNatClampNeg ≤ R.slots) (hdg : decode cc pc = .ok (.anewarray index, 3))
    (hq : ai_newa (.object C) t 3 pc lv st h = some (.inl (pc', lv', st', x))) (hF : ai_F nL ad h.length lv st ls)
    (kk : ∀ (ad' : Nat → Nat) (H1 : Heap) (N : Nat), (∃ c : ai_C, x = .inr (.inr c) ∧ c.2.1 = N) → (∀ k, k < h.length → ad' k = ad k) → ai_F nL ad' (h.length + 1) lv' st' ls → ai_w cl D rc P0 n0 ad' (ai_app h x) s H1 → va_S A H0 H1 locs → W p l e R s m args below meth c H1 locs (cells + 1) (slots + N) Q (F0 m pc' ls (st'.map (ai_v ad')))) : W p l e R s m args below meth c H locs cells slots Q (F0 m pc ls (st.map (ai_v ad))) := by
  unfold ai_newa at hq
  split at hq
  · rename_i n r
    split at hq
    · rename_i hcd
      unfold ai_nxE at hq
      cases hq
      obtain ⟨g1, g2, -⟩ := ai_in_range hcd
      refine W.anew hx hb hown hclink (va_AO.use hover) rfl hdg rfl g1 (by omega) (hcm _ _ rfl).1 (hcm _ _ rfl).2 fun cA kA comp f1 f2 f3 f4 => ?_
      have hFr := hF.st (ai_tl hF.2.2)
      obtain ⟨hF', hm, he⟩ := ai_born hFr H.size
      have hRA : va_RA s cA (.object C) := ⟨kA, comp, f2, f3, f4, f1⟩
      obtain ⟨hat, z1, o1⟩ := ar_arr (cl := cl) (D := D) (rc := rc) (ad := ad) (q := 0) (N := n.toNatClampNeg) rfl hty ht f2 f3 hRA
      refine W.eq (g2 := F0 m (pc + 3) ls ((Value.ref h.length :: r).map (ai_v (va_up ad h.length H.size)))) (by rw [hm]) ?_
      refine kk _ _ n.toNatClampNeg ⟨_, rfl, rfl⟩ he hF' ?_ (ai_push_S hS0 z1 o1)
      rw [ai_app_push]
      exact hw.push (Nat.le_trans hn0 hS0.1) hat (Nat.le_refl _) (fun j hj => ai_dv_ok _ (.object C)) o1
    · cases hq
  · cases hq
end AIN
