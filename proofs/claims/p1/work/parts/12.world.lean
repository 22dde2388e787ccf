/-! the world: what the machine's heap holds where the interpreter's heap holds h -/
/-- an array at a: n places at least, and its length is n; z: made in this run -/
def ai_ar (U : State) (H : Heap) (z : Prop) (a : Nat) (ty : FieldType) (n : Nat) (F : Nat → Value) : Prop :=
  ∃ cell : Cell, H[a]? = some cell ∧ U.isArrayOf cell ty ∧ cell.vm ≠ .unknown ∧ n ≤ cell.slots.size ∧ cell.slots.size.toInt32 = Int32.ofNat n ∧ (∀ j : Nat, j < n → cell.slots[j]? = some (F j)) ∧ (z → va_RA U cell.cls ty ∧ cell.vm = .none ∧ cell.slots.size = n)
def ai_at (cl : List vw_C) (D : va_G) (rc : Nat → String) (ad : Nat → Nat) (U : State) (H : Heap) (z : Prop) (a : Nat) (c : ai_C) : Prop :=
  (c.1 < 100 → ∃ r : vw_C, cl[c.1]? = some r ∧ c.2.1 = r.2.2 ∧ t_OB a (D.1 c.1) r.2.2 (D.2 c.1) H (fun j => ai_v ad (c.2.2 j))) ∧
  (100 ≤ c.1 → c.1 < 200 → ai_ar U H z a (ai_ty rc c.1) c.2.1 (fun j => ai_v ad (c.2.2 j)))
def ai_w (cl : List vw_C) (D : va_G) (rc : Nat → String) (P0 n0 : Nat) (ad : Nat → Nat) (h : ai_H) (U : State) (H : Heap) : Prop :=
  (∀ (k : Nat) (c : ai_C), h[k]? = some c → ai_at cl D rc ad U H (P0 ≤ k) (ad k) c) ∧ (∀ (k : Nat) (c : ai_C), h[k]? = some c → ∀ j, j < c.2.1 → ai_ok h.length (c.2.2 j)) ∧
  (∀ (i j : Nat) (a b : ai_C), h[i]? = some a → h[j]? = some b → P0 ≤ i → a.1 < 200 → b.1 < 200 → ad i = ad j → i = j) ∧ ∀ (i : Nat) (a : ai_C), h[i]? = some a → P0 ≤ i → a.1 < 200 → n0 ≤ ad i
theorem ai_ar.kept {U : State} {H H1 : Heap} {z : Prop} {a : Nat} {ty : FieldType} {n : Nat} {F : Nat → Value} (h : ai_ar U H z a ty n F) (hq : H1[a]? = H[a]?) : ai_ar U H1 z a ty n F := by
  obtain ⟨cell, h1, h2⟩ := h
  exact ⟨cell, hq.trans h1, h2⟩
theorem ai_ar.moved {u U : State} {H : Heap} {z : Prop} {a : Nat} {ty : FieldType} {n : Nat} {F : Nat → Value} (hvm : u.vm.Alike U.vm) (h : ai_ar u H z a ty n F) : ai_ar U H z a ty n F := by
  obtain ⟨cell, h1, h2, h3, h4, h5, h6, h7⟩ := h
  exact ⟨cell, h1, State.isArrayOf_alike hvm h2, h3, h4, h5, h6, fun hz => ⟨(h7 hz).1.moved hvm, (h7 hz).2⟩⟩
theorem ai_at.kept {cl : List vw_C} {D : va_G} {rc : Nat → String} {ad : Nat → Nat} {U : State} {H H1 : Heap} {z : Prop} {a : Nat} {c : ai_C} (h : ai_at cl D rc ad U H z a c) (hq : c.1 < 200 → H1[a]? = H[a]?) : ai_at cl D rc ad U H1 z a c := by
  refine ⟨fun h0 => ?_, fun h0 h1 => (h.2 h0 h1).kept (hq h1)⟩
  obtain ⟨r, h1, h2, h3⟩ := h.1 h0
  exact ⟨r, h1, h2, h3.kept (hq (by omega))⟩
theorem ai_at.moved {cl : List vw_C} {D : va_G} {rc : Nat → String} {ad : Nat → Nat} {u U : State} {H : Heap} {z : Prop} {a : Nat} {c : ai_C} (hvm : u.vm.Alike U.vm) (h : ai_at cl D rc ad u H z a c) : ai_at cl D rc ad U H z a c :=
  ⟨h.1, fun h0 h1 => (h.2 h0 h1).moved hvm⟩
theorem ai_at.lt {cl : List vw_C} {D : va_G} {rc : Nat → String} {ad : Nat → Nat} {U : State} {H : Heap} {z : Prop} {a : Nat} {c : ai_C} (h : ai_at cl D rc ad U H z a c) (h2 : c.1 < 200) : a < H.size := by
  by_cases h0 : c.1 < 100
  · obtain ⟨r, -, -, cell, h3, -⟩ := h.1 h0
    exact (Array.getElem?_eq_some_iff.mp h3).1
  · obtain ⟨cell, h3, -⟩ := h.2 (by omega) h2
    exact (Array.getElem?_eq_some_iff.mp h3).1
theorem ai_v_ext {ad ad' : Nat → Nat} {n : Nat} (he : ∀ k, k < n → ad' k = ad k) {v : Value} (h : ai_ok n v) : ai_v ad' v = ai_v ad v := by
  cases v with
  | ref k => exact congrArg Value.ref (he k (h k rfl))
  | _ => rfl
theorem ai_at.ext {cl : List vw_C} {D : va_G} {rc : Nat → String} {ad ad' : Nat → Nat} {U : State} {H : Heap} {z : Prop} {a n : Nat} {c : ai_C} (he : ∀ k, k < n → ad' k = ad k) (hok : ∀ j, j < c.2.1 → ai_ok n (c.2.2 j)) (h : ai_at cl D rc ad U H z a c) : ai_at cl D rc ad' U H z a c := by
  refine ⟨fun h0 => ?_, fun h0 h1 => ?_⟩
  · obtain ⟨r, h1, h2, h3⟩ := h.1 h0
    exact ⟨r, h1, h2, h3.to (fun k hk => (ai_v_ext he (hok k (by omega))).symm)⟩
  · obtain ⟨cell, h1, h2, h3, h4, h5, h6, h7⟩ := h.2 h0 h1
    exact ⟨cell, h1, h2, h3, h4, h5, fun j hj => (h6 j hj).trans (congrArg some (ai_v_ext he (hok j hj)).symm), h7⟩
theorem ai_ok.mono {n n' : Nat} {v : Value} (h : ai_ok n v) (hn : n ≤ n') : ai_ok n' v := fun k hk => Nat.lt_of_lt_of_le (h k hk) hn
theorem ai_w.moved {cl : List vw_C} {D : va_G} {rc : Nat → String} {P0 n0 : Nat} {ad : Nat → Nat} {h : ai_H} {u U : State} {H : Heap} (hvm : u.vm.Alike U.vm) (w : ai_w cl D rc P0 n0 ad h u H) : ai_w cl D rc P0 n0 ad h U H :=
  ⟨fun k c hk => (w.1 k c hk).moved hvm, w.2⟩
theorem ai_w.kept {cl : List vw_C} {D : va_G} {rc : Nat → String} {P0 n0 : Nat} {ad : Nat → Nat} {h : ai_H} {U : State} {H H1 : Heap} (w : ai_w cl D rc P0 n0 ad h U H) (hq : ∀ q : Nat, q < H.size → H1[q]? = H[q]?) : ai_w cl D rc P0 n0 ad h U H1 :=
  ⟨fun k c hk => (w.1 k c hk).kept (fun hc => hq _ ((w.1 k c hk).lt hc)), w.2⟩
/-- one cell's contents anew -/
theorem ai_w.set {cl : List vw_C} {D : va_G} {rc : Nat → String} {P0 n0 : Nat} {ad : Nat → Nat} {h : ai_H} {U : State} {H H1 : Heap} (w : ai_w cl D rc P0 n0 ad h U H) {k t n : Nat} {f f' : Nat → Value} (hk : h[k]? = some (t, n, f)) (hP : P0 ≤ k) (ht : t < 200)
    (hat : ai_at cl D rc ad U H1 (P0 ≤ k) (ad k) (t, n, f')) (hok : ∀ j, j < n → ai_ok h.length (f' j)) (hq : ∀ q : Nat, q ≠ ad k → H1[q]? = H[q]?) : ai_w cl D rc P0 n0 ad (h.set k (t, n, f')) U H1 := by
  have hl := (List.getElem?_eq_some_iff.mp hk).1
  have key : ∀ (i : Nat) (c : ai_C), (h.set k (t, n, f'))[i]? = some c → (i = k ∧ c = (t, n, f')) ∨ (i ≠ k ∧ h[i]? = some c) := by
    intro i c hi
    by_cases hik : i = k
    · subst hik
      rw [List.getElem?_set_self hl] at hi
      cases hi
      exact Or.inl ⟨rfl, rfl⟩
    · rw [List.getElem?_set_ne (Ne.symm hik)] at hi
      exact Or.inr ⟨hik, hi⟩
  have old : ∀ (i : Nat) (c : ai_C), (h.set k (t, n, f'))[i]? = some c → ∃ c0 : ai_C, h[i]? = some c0 ∧ c0.1 = c.1 := by
    intro i c hi
    rcases key i c hi with ⟨rfl, rfl⟩ | ⟨-, h2⟩
    · exact ⟨_, hk, rfl⟩
    · exact ⟨c, h2, rfl⟩
  refine ⟨fun i c hi => ?_, fun i c hi j hj => ?_, fun i j a b hi hj h1 h2 h3 h4 => ?_, fun i a hi h1 h2 => ?_⟩
  · rcases key i c hi with ⟨rfl, rfl⟩ | ⟨hne, h2⟩
    · exact hat
    · exact (w.1 i c h2).kept (fun hc => hq _ (fun he => hne (w.2.2.1 k i _ _ hk h2 hP ht hc he.symm).symm))
  · rw [List.length_set]
    rcases key i c hi with ⟨rfl, rfl⟩ | ⟨hne, h2⟩
    · exact hok j hj
    · exact w.2.1 i c h2 j hj
  · obtain ⟨a0, p1, p2⟩ := old i a hi
    obtain ⟨b0, q1, q2⟩ := old j b hj
    exact w.2.2.1 i j a0 b0 p1 q1 h1 (by omega) (by omega) h4
  · obtain ⟨a0, p1, p2⟩ := old i a hi
    exact w.2.2.2 i a0 p1 h1 (by omega)
/-- a new cell: the next number stands for its address -/
theorem ai_w.push {cl : List vw_C} {D : va_G} {rc : Nat → String} {P0 n0 : Nat} {ad : Nat → Nat} {h : ai_H} {U : State} {H H1 : Heap} (w : ai_w cl D rc P0 n0 ad h U H) {c : ai_C} {q : Nat} (hz : n0 ≤ q)
    (hat : ai_at cl D rc ad U H1 True q c) (hnew : H.size ≤ q) (hok : ∀ j, j < c.2.1 → ai_ok h.length (c.2.2 j)) (hq : ∀ q : Nat, q < H.size → H1[q]? = H[q]?) : ai_w cl D rc P0 n0 (va_up ad h.length q) (h ++ [c]) U H1 := by
  have he : ∀ k, k < h.length → va_up ad h.length q k = ad k := fun k hk => by simp [va_up, Nat.ne_of_lt hk]
  have hs : va_up ad h.length q h.length = q := by simp [va_up]
  have key : ∀ (i : Nat) (b : ai_C), (h ++ [c])[i]? = some b → (i < h.length ∧ h[i]? = some b) ∨ (i = h.length ∧ b = c) := by
    intro i b hi
    by_cases hl : i < h.length
    · rw [List.getElem?_append_left hl] at hi
      exact Or.inl ⟨hl, hi⟩
    · rw [List.getElem?_append_right (by omega)] at hi
      have hz : i - h.length < 1 := (List.getElem?_eq_some_iff.mp hi).1
      have hi0 : i = h.length := by omega
      subst hi0
      rw [Nat.sub_self] at hi
      cases hi
      exact Or.inr ⟨rfl, rfl⟩
  have hlen : (h ++ [c]).length = h.length + 1 := by simp
  refine ⟨fun i b hi => ?_, fun i b hi j hj => ?_, fun i j a b hi hj h1 h2 h3 h4 => ?_, fun i a hi h1 h2 => ?_⟩
  · rcases key i b hi with ⟨hl, h2⟩ | ⟨rfl, rfl⟩
    · rw [he i hl]
      exact ((w.1 i b h2).kept (fun hc => hq _ ((w.1 i b h2).lt hc))).ext he (fun j hj => w.2.1 i b h2 j hj)
    · rw [hs]
      have h9 := hat.ext he hok
      refine ⟨h9.1, fun a1 a2 => ?_⟩
      obtain ⟨cell, b1, b2, b3, b4, b5, b6, b7⟩ := h9.2 a1 a2
      exact ⟨cell, b1, b2, b3, b4, b5, b6, fun _ => b7 trivial⟩
  · rw [hlen]
    rcases key i b hi with ⟨hl, h2⟩ | ⟨rfl, rfl⟩
    · exact (w.2.1 i b h2 j hj).mono (by omega)
    · exact (hok j hj).mono (by omega)
  · rcases key i a hi with ⟨hl, p2⟩ | ⟨rfl, rfl⟩ <;> rcases key j b hj with ⟨ml, q2⟩ | ⟨rfl, rfl⟩
    · rw [he i hl, he j ml] at h4
      exact w.2.2.1 i j a b p2 q2 h1 h2 h3 h4
    · rw [he i hl, hs] at h4
      have := (w.1 i a p2).lt h2
      omega
    · rw [he j ml, hs] at h4
      have := (w.1 j b q2).lt h3
      omega
    · rfl
  · rcases key i a hi with ⟨hl, p2⟩ | ⟨rfl, rfl⟩
    · rw [he i hl]
      exact w.2.2.2 i a p2 h1 h2
    · rw [hs]; exact hz
theorem ai_F.ext {nL : Nat} {ad ad' : Nat → Nat} {n n' : Nat} {lv : ai_L} {st : List Value} {ls : Array Slot} (h : ai_F nL ad n lv st ls) (he : ∀ k, k < n → ad' k = ad k) (hn : n ≤ n') : ai_F nL ad' n' lv st ls := by
  refine ⟨?_, fun q hq => (h.2.1 q hq).mono hn, fun v hv => (h.2.2 v hv).mono hn⟩
  have : ai_lc ad' lv = ai_lc ad lv := List.map_congr_left (fun q hq => by rw [ai_v_ext he (h.2.1 q hq)])
  rw [this]; exact h.1
theorem ai_map_ext {ad ad' : Nat → Nat} {n : Nat} {st : List Value} (h : ∀ v ∈ st, ai_ok n v) (he : ∀ k, k < n → ad' k = ad k) : st.map (ai_v ad') = st.map (ai_v ad) := List.map_congr_left (fun v hv => ai_v_ext he (h v hv))
