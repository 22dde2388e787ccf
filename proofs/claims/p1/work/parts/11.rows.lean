/-! rows that take a step of the interpreter to a step of the machine -/
def ai_v (ad : Nat → Nat) (v : Value) : Value := match v with
  | .ref k => .ref (ad k)
  | v => v
def ai_lc (ad : Nat → Nat) (lv : ai_L) : List (Nat × Value) := lv.map (fun q => (q.1, ai_v ad q.2))
def ai_ok (n : Nat) (v : Value) : Prop := ∀ k, v = .ref k → k < n
theorem ai_ok_i (n : Nat) (x : Int32) : ai_ok n (.int x) := fun _ h => by cases h
theorem ai_ok_l (n : Nat) (x : Int64) : ai_ok n (.long x) := fun _ h => by cases h
theorem ai_ok_n (n : Nat) : ai_ok n .null := fun _ h => by cases h
theorem ai_cat (ad : Nat → Nat) (v : Value) : (ai_v ad v).category = v.category := by cases v <;> rfl
theorem ai_lc_filter (ad : Nat → Nat) (lv : ai_L) (g : Nat → Nat → Bool) : ai_lc ad (lv.filter (fun q => g q.1 q.2.category)) = (ai_lc ad lv).filter (fun q => g q.1 q.2.category) := by
  induction lv with
  | nil => rfl
  | cons a l ih =>
    by_cases hg : g a.1 a.2.category = true
    · have h1 : g a.1 (ai_v ad a.2).category = true := by rw [ai_cat]; exact hg
      simp only [ai_lc, List.map_cons, List.filter_cons, hg, h1, if_true] at ih ⊢
      rw [ih]
    · have h1 : ¬ g a.1 (ai_v ad a.2).category = true := by rw [ai_cat]; exact hg
      simp only [ai_lc, List.map_cons, List.filter_cons, hg, h1, if_false] at ih ⊢
      exact ih
theorem ai_lc_st1 (ad : Nat → Nat) (i : Nat) (v : Value) (lv : ai_L) : ai_lc ad (ai_st1 i v lv) = (i, ai_v ad v) :: (ai_lc ad lv).filter (fun q => !(q.1 == i) && !(q.1 + 1 == i && q.2.category == 2)) := by
  rw [← ai_lc_filter ad lv (fun a b => !(a == i) && !(a + 1 == i && b == 2))]
  rfl
theorem ai_lc_st2 (ad : Nat → Nat) (i : Nat) (v : Value) (lv : ai_L) : ai_lc ad (ai_st2 i v lv) = (i, ai_v ad v) :: (ai_lc ad lv).filter (fun q => !(q.1 == i) && (!(q.1 == i + 1) && !(q.1 + 1 == i && q.2.category == 2))) := by
  rw [← ai_lc_filter ad lv (fun a b => !(a == i) && (!(a == i + 1) && !(a + 1 == i && b == 2)))]
  rfl
theorem ai_mem_lookup {i : Nat} {v : Value} : ∀ {lv : ai_L}, lv.lookup i = some v → (i, v) ∈ lv
  | [], h => by cases h
  | (a, b) :: l, h => by
    rw [List.lookup_cons] at h
    by_cases he : i == a
    · rw [he] at h
      have : i = a := by simpa using he
      cases h
      subst this
      exact List.mem_cons_self
    · rw [Bool.not_eq_true] at he
      rw [he] at h
      exact List.mem_cons_of_mem _ (ai_mem_lookup h)
/-- the frame: variables and operands -/
def ai_F (nL : Nat) (ad : Nat → Nat) (n : Nat) (lv : ai_L) (st : List Value) (ls : Array Slot) : Prop :=
  lv_has ls nL (ai_lc ad lv) ∧ (∀ q ∈ lv, ai_ok n q.2) ∧ ∀ v ∈ st, ai_ok n v
theorem ai_F.st {nL : Nat} {ad : Nat → Nat} {n : Nat} {lv : ai_L} {st st' : List Value} {ls : Array Slot} (h : ai_F nL ad n lv st ls) (h' : ∀ v ∈ st', ai_ok n v) : ai_F nL ad n lv st' ls := ⟨h.1, h.2.1, h'⟩
theorem ai_F.at {nL : Nat} {ad : Nat → Nat} {n : Nat} {lv : ai_L} {st : List Value} {ls : Array Slot} (h : ai_F nL ad n lv st ls) {i : Nat} {v : Value} (hv : lv.lookup i = some v) : ls[i]? = some (.val (ai_v ad v)) ∧ ai_ok n v := by
  have hm := ai_mem_lookup hv
  refine ⟨h.1.2.2 (i, ai_v ad v) ?_, h.2.1 _ hm⟩
  exact List.mem_map_of_mem (f := fun q : Nat × Value => (q.1, ai_v ad q.2)) hm
theorem ai_cons {n : Nat} {v : Value} {r : List Value} (hv : ai_ok n v) (hr : ∀ w ∈ r, ai_ok n w) : ∀ w ∈ v :: r, ai_ok n w := fun w hw => (List.mem_cons.mp hw).elim (fun e => e ▸ hv) (hr w)
theorem ai_tl {n : Nat} {v : Value} {r : List Value} (h : ∀ w ∈ v :: r, ai_ok n w) : ∀ w ∈ r, ai_ok n w := fun w hw => h w (List.mem_cons_of_mem _ hw)
theorem ai_hd {n : Nat} {v : Value} {r : List Value} (h : ∀ w ∈ v :: r, ai_ok n w) : ai_ok n v := h v List.mem_cons_self
theorem ai_st1_ok {n i : Nat} {v : Value} {lv : ai_L} (hl : ∀ q ∈ lv, ai_ok n q.2) (hv : ai_ok n v) : ∀ q ∈ ai_st1 i v lv, ai_ok n q.2 := fun q hq => (List.mem_cons.mp hq).elim (fun e => e ▸ hv) (fun h => hl q (List.mem_filter.mp h).1)
theorem ai_st2_ok {n i : Nat} {v : Value} {lv : ai_L} (hl : ∀ q ∈ lv, ai_ok n q.2) (hv : ai_ok n v) : ∀ q ∈ ai_st2 i v lv, ai_ok n q.2 := fun q hq => (List.mem_cons.mp hq).elim (fun e => e ▸ hv) (fun h => hl q (List.mem_filter.mp h).1)
section AIR
variable {p : Program} {l : Launch} {e : Env} {R : Room} {s : State} {m : MethodId} {args : Array Value} {below : List Frame} {meth : Method} {c : Code} {H : Heap} {locs : List Loc} {cells slots : Nat} {Q : State → Prop}
variable {nL n pc pc' : Nat} {ad : Nat → Nat} {lv lv' : ai_L} {st st' : List Value} {ls : Array Slot} {x : ai_E} {cc : ByteArray}
theorem ar_bin {f : Int32 → Int32 → Int32} (row : ∀ (a b : Int32) (r : List Value), W p l e R s m args below meth c H locs cells slots Q (F0 m (pc + 1) ls (.int (f a b) :: r)) → W p l e R s m args below meth c H locs cells slots Q (F0 m pc ls (.int b :: .int a :: r)))
    (h : ai_bin f pc lv st = some (.inl (pc', lv', st', x))) (hF : ai_F nL ad n lv st ls) (kk : x = .inl () → ai_F nL ad n lv' st' ls → W p l e R s m args below meth c H locs cells slots Q (F0 m pc' ls (st'.map (ai_v ad)))) : W p l e R s m args below meth c H locs cells slots Q (F0 m pc ls (st.map (ai_v ad))) := by
  unfold ai_bin at h
  split at h
  · cases h
    exact row _ _ _ (kk rfl (hF.st (ai_cons (ai_ok_i _ _) (ai_tl (ai_tl hF.2.2)))))
  · cases h
theorem ar_binL {f : Int64 → Int64 → Int64} (row : ∀ (a b : Int64) (r : List Value), W p l e R s m args below meth c H locs cells slots Q (F0 m (pc + 1) ls (.long (f a b) :: r)) → W p l e R s m args below meth c H locs cells slots Q (F0 m pc ls (.long b :: .long a :: r)))
    (h : ai_binL f pc lv st = some (.inl (pc', lv', st', x))) (hF : ai_F nL ad n lv st ls) (kk : x = .inl () → ai_F nL ad n lv' st' ls → W p l e R s m args below meth c H locs cells slots Q (F0 m pc' ls (st'.map (ai_v ad)))) : W p l e R s m args below meth c H locs cells slots Q (F0 m pc ls (st.map (ai_v ad))) := by
  unfold ai_binL at h
  split at h
  · cases h
    exact row _ _ _ (kk rfl (hF.st (ai_cons (ai_ok_l _ _) (ai_tl (ai_tl hF.2.2)))))
  · cases h
theorem ar_binS {f : Int64 → Int32 → Int64} (row : ∀ (a : Int64) (b : Int32) (r : List Value), W p l e R s m args below meth c H locs cells slots Q (F0 m (pc + 1) ls (.long (f a b) :: r)) → W p l e R s m args below meth c H locs cells slots Q (F0 m pc ls (.int b :: .long a :: r)))
    (h : ai_binS f pc lv st = some (.inl (pc', lv', st', x))) (hF : ai_F nL ad n lv st ls) (kk : x = .inl () → ai_F nL ad n lv' st' ls → W p l e R s m args below meth c H locs cells slots Q (F0 m pc' ls (st'.map (ai_v ad)))) : W p l e R s m args below meth c H locs cells slots Q (F0 m pc ls (st.map (ai_v ad))) := by
  unfold ai_binS at h
  split at h
  · cases h
    exact row _ _ _ (kk rfl (hF.st (ai_cons (ai_ok_l _ _) (ai_tl (ai_tl hF.2.2)))))
  · cases h
theorem ar_div {f : Int32 → Int32 → Int32} (row : ∀ (a b : Int32) (r : List Value), ¬ b = 0 → W p l e R s m args below meth c H locs cells slots Q (F0 m (pc + 1) ls (.int (f a b) :: r)) → W p l e R s m args below meth c H locs cells slots Q (F0 m pc ls (.int b :: .int a :: r)))
    (h : ai_div f pc lv st = some (.inl (pc', lv', st', x))) (hF : ai_F nL ad n lv st ls) (kk : x = .inl () → ai_F nL ad n lv' st' ls → W p l e R s m args below meth c H locs cells slots Q (F0 m pc' ls (st'.map (ai_v ad)))) : W p l e R s m args below meth c H locs cells slots Q (F0 m pc ls (st.map (ai_v ad))) := by
  unfold ai_div at h
  split at h
  · split at h
    · cases h
    · rename_i hne
      cases h
      exact row _ _ _ hne (kk rfl (hF.st (ai_cons (ai_ok_i _ _) (ai_tl (ai_tl hF.2.2)))))
  · cases h
theorem ar_un {f : Int32 → Int32} (row : ∀ (a : Int32) (r : List Value), W p l e R s m args below meth c H locs cells slots Q (F0 m (pc + 1) ls (.int (f a) :: r)) → W p l e R s m args below meth c H locs cells slots Q (F0 m pc ls (.int a :: r)))
    (h : ai_un f pc lv st = some (.inl (pc', lv', st', x))) (hF : ai_F nL ad n lv st ls) (kk : x = .inl () → ai_F nL ad n lv' st' ls → W p l e R s m args below meth c H locs cells slots Q (F0 m pc' ls (st'.map (ai_v ad)))) : W p l e R s m args below meth c H locs cells slots Q (F0 m pc ls (st.map (ai_v ad))) := by
  unfold ai_un at h
  split at h
  · cases h
    exact row _ _ (kk rfl (hF.st (ai_cons (ai_ok_i _ _) (ai_tl hF.2.2))))
  · cases h
theorem ar_if {b : Int32 → Bool} {tgt : Nat} (row : ∀ (a : Int32) (r : List Value), (b a = true → W p l e R s m args below meth c H locs cells slots Q (F0 m tgt ls r)) → (¬ b a = true → W p l e R s m args below meth c H locs cells slots Q (F0 m (pc + 3) ls r)) → W p l e R s m args below meth c H locs cells slots Q (F0 m pc ls (.int a :: r)))
    (h : ai_if b tgt pc lv st = some (.inl (pc', lv', st', x))) (hF : ai_F nL ad n lv st ls) (kk : x = .inl () → ai_F nL ad n lv' st' ls → W p l e R s m args below meth c H locs cells slots Q (F0 m pc' ls (st'.map (ai_v ad)))) : W p l e R s m args below meth c H locs cells slots Q (F0 m pc ls (st.map (ai_v ad))) := by
  unfold ai_if at h
  split at h
  · split at h
    · rename_i hc
      cases h
      exact row _ _ (fun _ => kk rfl (hF.st (ai_tl hF.2.2))) (fun hn => absurd hc hn)
    · rename_i hc
      cases h
      exact row _ _ (fun hn => absurd hn hc) (fun _ => kk rfl (hF.st (ai_tl hF.2.2)))
  · cases h
theorem ar_cmp {b : Int32 → Int32 → Bool} {tgt : Nat} (row : ∀ (a y : Int32) (r : List Value), (b a y = true → W p l e R s m args below meth c H locs cells slots Q (F0 m tgt ls r)) → (¬ b a y = true → W p l e R s m args below meth c H locs cells slots Q (F0 m (pc + 3) ls r)) → W p l e R s m args below meth c H locs cells slots Q (F0 m pc ls (.int y :: .int a :: r)))
    (h : ai_cmp b tgt pc lv st = some (.inl (pc', lv', st', x))) (hF : ai_F nL ad n lv st ls) (kk : x = .inl () → ai_F nL ad n lv' st' ls → W p l e R s m args below meth c H locs cells slots Q (F0 m pc' ls (st'.map (ai_v ad)))) : W p l e R s m args below meth c H locs cells slots Q (F0 m pc ls (st.map (ai_v ad))) := by
  unfold ai_cmp at h
  split at h
  · split at h
    · rename_i hc
      cases h
      exact row _ _ _ (fun _ => kk rfl (hF.st (ai_tl (ai_tl hF.2.2)))) (fun hn => absurd hc hn)
    · rename_i hc
      cases h
      exact row _ _ _ (fun hn => absurd hn hc) (fun _ => kk rfl (hF.st (ai_tl (ai_tl hF.2.2))))
  · cases h
theorem ar_ld {i len : Nat} {ok : Value → Bool} (row : ∀ (v : Value), ok v = true → ls[i]? = some (.val (ai_v ad v)) → W p l e R s m args below meth c H locs cells slots Q (F0 m (pc + len) ls (ai_v ad v :: st.map (ai_v ad))) → W p l e R s m args below meth c H locs cells slots Q (F0 m pc ls (st.map (ai_v ad))))
    (h : ai_ld i ok len pc lv st = some (.inl (pc', lv', st', x))) (hF : ai_F nL ad n lv st ls) (kk : x = .inl () → ai_F nL ad n lv' st' ls → W p l e R s m args below meth c H locs cells slots Q (F0 m pc' ls (st'.map (ai_v ad)))) : W p l e R s m args below meth c H locs cells slots Q (F0 m pc ls (st.map (ai_v ad))) := by
  unfold ai_ld at h
  split at h
  · rename_i v hv
    split at h
    · rename_i hc
      cases h
      obtain ⟨h1, h2⟩ := hF.at hv
      exact row _ hc h1 (kk rfl (hF.st (ai_cons h2 hF.2.2)))
    · cases h
  · cases h
theorem ar_sto {i len : Nat} {ok : Value → Bool} (hok : ∀ v, ok v = true → v.category = 1) (row : ∀ (v : Value) (r : List Value) (lw : List (Nat × Value)), ok v = true → i < nL → lv_has ls nL lw → (∀ ls' : Array Slot, lv_has ls' nL ((i, ai_v ad v) :: lw.filter (fun q => !(q.1 == i) && !(q.1 + 1 == i && q.2.category == 2))) → W p l e R s m args below meth c H locs cells slots Q (F0 m (pc + len) ls' r)) → W p l e R s m args below meth c H locs cells slots Q (F0 m pc ls (ai_v ad v :: r)))
    (h : ai_sto i ok len nL pc lv st = some (.inl (pc', lv', st', x))) (hF : ai_F nL ad n lv st ls) (kk : ∀ ls', x = .inl () → ai_F nL ad n lv' st' ls' → W p l e R s m args below meth c H locs cells slots Q (F0 m pc' ls' (st'.map (ai_v ad)))) : W p l e R s m args below meth c H locs cells slots Q (F0 m pc ls (st.map (ai_v ad))) := by
  unfold ai_sto at h
  split at h
  · rename_i v r
    split at h
    · rename_i hc
      cases h
      rw [Bool.and_eq_true, decide_eq_true_eq] at hc
      refine row _ _ _ hc.1 hc.2 hF.1 (fun ls' hl => kk ls' rfl ⟨?_, ai_st1_ok hF.2.1 (ai_hd hF.2.2), ai_tl hF.2.2⟩)
      rw [ai_lc_st1]; exact hl
    · cases h
  · cases h
theorem ar_stoL {i len : Nat} (row : ∀ (v : Int64) (r : List Value) (lw : List (Nat × Value)), i + 1 < nL → lv_has ls nL lw → (∀ ls' : Array Slot, lv_has ls' nL ((i, .long v) :: lw.filter (fun q => !(q.1 == i) && (!(q.1 == i + 1) && !(q.1 + 1 == i && q.2.category == 2)))) → W p l e R s m args below meth c H locs cells slots Q (F0 m (pc + len) ls' r)) → W p l e R s m args below meth c H locs cells slots Q (F0 m pc ls (.long v :: r)))
    (h : ai_stoL i len nL pc lv st = some (.inl (pc', lv', st', x))) (hF : ai_F nL ad n lv st ls) (kk : ∀ ls', x = .inl () → ai_F nL ad n lv' st' ls' → W p l e R s m args below meth c H locs cells slots Q (F0 m pc' ls' (st'.map (ai_v ad)))) : W p l e R s m args below meth c H locs cells slots Q (F0 m pc ls (st.map (ai_v ad))) := by
  unfold ai_stoL at h
  split at h
  · rename_i v r
    split at h
    · rename_i hc
      cases h
      refine row _ _ _ hc hF.1 (fun ls' hl => kk ls' rfl ⟨?_, ai_st2_ok hF.2.1 (ai_hd hF.2.2), ai_tl hF.2.2⟩)
      rw [ai_lc_st2]; exact hl
    · cases h
  · cases h
end AIR
