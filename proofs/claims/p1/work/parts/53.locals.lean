/-! more local variables change nothing -/
def subL (l l' : ai_L) : Prop := (l.map Prod.fst).Nodup ∧ (l'.map Prod.fst).Nodup ∧ ∀ j v, l.lookup j = some v → l'.lookup j = some v
theorem lk_mem : ∀ (l : ai_L) {j : Nat} {v : Value}, l.lookup j = some v → (j, v) ∈ l
  | [], j, v, h => by cases h
  | (k, u) :: t, j, v, h => by
    by_cases e : j = k
    · subst e
      simp at h
      subst h
      exact List.mem_cons_self
    · have : (j == k) = false := by simpa using e
      rw [List.lookup_cons, this] at h
      exact List.mem_cons_of_mem _ (lk_mem t h)
theorem lk_of_mem : ∀ (l : ai_L) {j : Nat} {v : Value}, (l.map Prod.fst).Nodup → (j, v) ∈ l → l.lookup j = some v
  | [], j, v, _, h => by cases h
  | (k, u) :: t, j, v, hn, h => by
    simp only [List.map_cons, List.nodup_cons] at hn
    rcases List.mem_cons.mp h with e | e
    · cases e
      simp
    · have hk : ¬ j = k := by
        rintro rfl
        exact hn.1 (List.mem_map_of_mem (f := Prod.fst) e)
      have : (j == k) = false := by simpa using hk
      rw [List.lookup_cons, this]
      exact lk_of_mem t hn.2 e
theorem nd_filter {l : ai_L} (p : Nat × Value → Bool) (h : (l.map Prod.fst).Nodup) : ((l.filter p).map Prod.fst).Nodup := List.Sublist.nodup (List.Sublist.map _ List.filter_sublist) h
theorem lk_filter {l : ai_L} (p : Nat × Value → Bool) (hn : (l.map Prod.fst).Nodup) {j : Nat} {v : Value} : (l.filter p).lookup j = some v ↔ l.lookup j = some v ∧ p (j, v) = true := by
  constructor
  · intro h
    have := List.mem_filter.mp (lk_mem _ h)
    exact ⟨lk_of_mem _ hn this.1, this.2⟩
  · rintro ⟨h1, h2⟩
    exact lk_of_mem _ (nd_filter p hn) (List.mem_filter.mpr ⟨lk_mem _ h1, h2⟩)
theorem subL_cons {l l' : ai_L} (p : Nat × Value → Bool) (s : subL l l') (i : Nat) (u : Value) (hp : ∀ v, p (i, v) = false) : subL ((i, u) :: l.filter p) ((i, u) :: l'.filter p) := by
  obtain ⟨h1, h2, h3⟩ := s
  have nn : ∀ m : ai_L, (m.map Prod.fst).Nodup → (((i, u) :: m.filter p).map Prod.fst).Nodup := by
    intro m hm
    simp only [List.map_cons, List.nodup_cons]
    refine ⟨fun hx => ?_, nd_filter p hm⟩
    obtain ⟨⟨a, b⟩, hab, e⟩ := List.mem_map.mp hx
    cases e
    have := (List.mem_filter.mp hab).2
    rw [hp b] at this
    cases this
  refine ⟨nn l h1, nn l' h2, fun j v hv => ?_⟩
  by_cases e : j = i
  · subst e
    simpa using hv
  · have e2 : (j == i) = false := by simpa using e
    rw [List.lookup_cons, e2] at hv ⊢
    obtain ⟨a, b⟩ := (lk_filter p h1).mp hv
    exact (lk_filter p h2).mpr ⟨h3 j v a, b⟩
theorem subL.st1 {l l' : ai_L} (s : subL l l') (i : Nat) (v : Value) : subL (ai_st1 i v l) (ai_st1 i v l') := subL_cons _ s i v (by intro v; simp)
theorem subL.st2 {l l' : ai_L} (s : subL l l') (i : Nat) (v : Value) : subL (ai_st2 i v l) (ai_st2 i v l') := subL_cons _ s i v (by intro v; simp)
def lvR (o o' : Option ai_O) : Prop := match o with
  | none => True
  | some (.inl (pc, l, st, x)) => ∃ l', o' = some (.inl (pc, l', st, x)) ∧ subL l l'
  | some (.inr z) => o' = some (.inr z)
section LVR
variable {l l' : ai_L} {pc : Nat} {st : List Value} {o : Option ai_O}
theorem lvR_none : lvR none o := trivial
theorem lvR_nx (s : subL l l') : lvR (ai_nx pc l st) (ai_nx pc l' st) := ⟨l', rfl, s⟩
theorem lvR_nxE {x : ai_E} (s : subL l l') : lvR (ai_nxE pc l st x) (ai_nxE pc l' st x) := ⟨l', rfl, s⟩
theorem lvR_some {x : ai_E} (s : subL l l') : lvR (some (.inl (pc, l, st, x))) (some (.inl (pc, l', st, x))) := ⟨l', rfl, s⟩
theorem lvR_inr {z : (Nat × List Value × List Value) ⊕ (Option Value) ⊕ Nat} : lvR (some (.inr z)) (some (.inr z)) := rfl
end LVR
section LVX
variable {l l' : ai_L}
theorem lvR_ld (s : subL l l') (i : Nat) (ok : Value → Bool) (len pc : Nat) (st : List Value) : lvR (ai_ld i ok len pc l st) (ai_ld i ok len pc l' st) := by
  unfold ai_ld
  cases h : l.lookup i with
  | none => exact lvR_none
  | some v =>
    rw [s.2.2 i v h]
    dsimp only
    split
    · exact lvR_nx s
    · exact lvR_none
theorem lvR_inc (s : subL l l') (i : Nat) (rv : Value) (nL pc : Nat) (st : List Value) : lvR (ai_inc i rv nL pc l st) (ai_inc i rv nL pc l' st) := by
  unfold ai_inc
  cases h : l.lookup i with
  | none => exact lvR_none
  | some v =>
    rw [s.2.2 i v h]
    repeat' (first | exact lvR_none | exact lvR_nx (s.st1 _ _) | split)
theorem lvR_sto (s : subL l l') (i : Nat) (ok : Value → Bool) (len nL pc : Nat) (st : List Value) : lvR (ai_sto i ok len nL pc l st) (ai_sto i ok len nL pc l' st) := by
  unfold ai_sto
  repeat' (first | exact lvR_none | exact lvR_nx (s.st1 _ _) | split)
theorem lvR_stoL (s : subL l l') (i : Nat) (len nL pc : Nat) (st : List Value) : lvR (ai_stoL i len nL pc l st) (ai_stoL i len nL pc l' st) := by
  unfold ai_stoL
  repeat' (first | exact lvR_none | exact lvR_nx (s.st2 _ _) | split)
theorem lvR_bin (s : subL l l') (f : Int32 → Int32 → Int32) (pc : Nat) (st : List Value) : lvR (ai_bin f pc l st) (ai_bin f pc l' st) := by
  unfold ai_bin
  repeat' (first | exact lvR_none | exact lvR_nx s | split)
theorem lvR_binL (s : subL l l') (f : Int64 → Int64 → Int64) (pc : Nat) (st : List Value) : lvR (ai_binL f pc l st) (ai_binL f pc l' st) := by
  unfold ai_binL
  repeat' (first | exact lvR_none | exact lvR_nx s | split)
theorem lvR_binS (s : subL l l') (f : Int64 → Int32 → Int64) (pc : Nat) (st : List Value) : lvR (ai_binS f pc l st) (ai_binS f pc l' st) := by
  unfold ai_binS
  repeat' (first | exact lvR_none | exact lvR_nx s | split)
theorem lvR_div (s : subL l l') (f : Int32 → Int32 → Int32) (pc : Nat) (st : List Value) : lvR (ai_div f pc l st) (ai_div f pc l' st) := by
  unfold ai_div
  repeat' (first | exact lvR_none | exact lvR_nx s | split)
theorem lvR_un (s : subL l l') (f : Int32 → Int32) (pc : Nat) (st : List Value) : lvR (ai_un f pc l st) (ai_un f pc l' st) := by
  unfold ai_un
  repeat' (first | exact lvR_none | exact lvR_nx s | split)
theorem lvR_if (s : subL l l') (c : Int32 → Bool) (t pc : Nat) (st : List Value) : lvR (ai_if c t pc l st) (ai_if c t pc l' st) := by
  unfold ai_if
  repeat' (first | exact lvR_none | exact lvR_nx s | split)
theorem lvR_cmp (s : subL l l') (c : Int32 → Int32 → Bool) (t pc : Nat) (st : List Value) : lvR (ai_cmp c t pc l st) (ai_cmp c t pc l' st) := by
  unfold ai_cmp
  repeat' (first | exact lvR_none | exact lvR_nx s | split)
theorem lvR_ret (ok : Value → Bool) (st : List Value) : lvR (ai_ret st ok) (ai_ret st ok) := by
  unfold ai_ret
  repeat' (first | exact lvR_none | exact lvR_inr | split)
theorem lvR_sw (s : subL l l') (lo hi d : Int) (offs : Array Int) (pc : Nat) (st : List Value) : lvR (ai_sw lo hi d offs pc l st) (ai_sw lo hi d offs pc l' st) := by
  unfold ai_sw
  repeat' (first | exact lvR_none | exact lvR_nx s | split)
theorem lvR_inv (virt : Bool) (q : ai_I) (pc : Nat) (st : List Value) (h : ai_H) : lvR (ai_inv virt q pc l st h) (ai_inv virt q pc l' st h) := by
  unfold ai_inv
  repeat' (first | exact lvR_none | exact lvR_inr | split)
theorem lvR_math (s : subL l l') (k d w pc : Nat) (st : List Value) : lvR (ai_math k d w pc l st) (ai_math k d w pc l' st) := by
  unfold ai_math
  repeat' (first | exact lvR_none | exact lvR_nx s | split)
theorem lvR_ald (s : subL l l') (ok : Nat → Bool) (pc : Nat) (st : List Value) (h : ai_H) : lvR (ai_ald ok pc l st h) (ai_ald ok pc l' st h) := by
  unfold ai_ald
  repeat' (first | exact lvR_none | exact lvR_nx s | split)
theorem lvR_ast (s : subL l l') (ok : Nat → Bool) (nar : Nat → Value → Option Value) (p0 pc : Nat) (st : List Value) (h : ai_H) : lvR (ai_ast ok nar p0 pc l st h) (ai_ast ok nar p0 pc l' st h) := by
  unfold ai_ast
  repeat' (first | exact lvR_none | exact lvR_nxE s | split)
theorem lvR_copy (s : subL l l') (rc : Nat → String) (p0 d w pc : Nat) (st : List Value) (h : ai_H) : lvR (ai_copy rc p0 d w pc l st h) (ai_copy rc p0 d w pc l' st h) := by
  unfold ai_copy
  repeat' (first | exact lvR_none | exact lvR_nxE s | split)
theorem lvR_acmp (s : subL l l') (eq : Bool) (p0 t pc : Nat) (st : List Value) (h : ai_H) : lvR (ai_acmp eq p0 t pc l st h) (ai_acmp eq p0 t pc l' st h) := by
  unfold ai_acmp
  repeat' (first | exact lvR_none | exact lvR_nx s | split)
theorem lvR_get (s : subL l l') (a b pc : Nat) (st : List Value) (h : ai_H) : lvR (ai_get a b pc l st h) (ai_get a b pc l' st h) := by
  unfold ai_get
  repeat' (first | exact lvR_none | exact lvR_nx s | split)
theorem lvR_put (s : subL l l') (t : FieldType) (a b c pc : Nat) (st : List Value) (h : ai_H) : lvR (ai_put t a b c pc l st h) (ai_put t a b c pc l' st h) := by
  unfold ai_put
  repeat' (first | exact lvR_none | exact lvR_nxE s | exact lvR_some s | split)
theorem lvR_newo (s : subL l l') (t : Nat → FieldType) (a b pc : Nat) (st : List Value) (h : ai_H) : lvR (ai_newo t a b pc l st h) (ai_newo t a b pc l' st h) := by
  unfold ai_newo
  repeat' (first | exact lvR_none | exact lvR_nxE s | exact lvR_some s | split)
theorem lvR_newa (s : subL l l') (t : FieldType) (a b pc : Nat) (st : List Value) (h : ai_H) : lvR (ai_newa t a b pc l st h) (ai_newa t a b pc l' st h) := by
  unfold ai_newa
  repeat' (first | exact lvR_none | exact lvR_nxE s | exact lvR_some s | split)
theorem lvR_len (s : subL l l') (pc : Nat) (st : List Value) (h : ai_H) : lvR (ai_len pc l st h) (ai_len pc l' st h) := by
  unfold ai_len
  repeat' (first | exact lvR_none | exact lvR_nx s | split)
theorem lvR_ex (s : subL l l') (P : ai_P) (d w nL : Nat) (rt : Option FieldType) (q : ai_I) (pc : Nat) (st : List Value) (h : ai_H) : lvR (ai_ex P d w nL rt q pc l st h) (ai_ex P d w nL rt q pc l' st h) := by
  obtain ⟨ins, q2⟩ := q
  unfold ai_ex
  cases ins <;> dsimp only <;> first
    | exact lvR_none
    | exact lvR_nx s
    | exact lvR_ld s _ _ _ _ _
    | exact lvR_sto s _ _ _ _ _ _
    | exact lvR_stoL s _ _ _ _ _
    | exact lvR_inc s _ _ _ _ _
    | exact lvR_bin s _ _ _
    | exact lvR_binL s _ _ _
    | exact lvR_binS s _ _ _
    | exact lvR_div s _ _ _
    | exact lvR_un s _ _ _
    | exact lvR_ret _ _
    | exact lvR_sw s _ _ _ _ _ _
    | exact lvR_inv _ _ _ _ _
    | exact lvR_ald s _ _ _ _
    | exact lvR_ast s _ _ _ _ _ _
    | exact lvR_get s _ _ _ _ _
    | exact lvR_put s _ _ _ _ _ _ _
    | exact lvR_newa s _ _ _ _ _ _
    | exact lvR_len s _ _ _
    | (repeat' (first | exact lvR_none | exact lvR_nx s | exact lvR_inr | exact lvR_if s _ _ _ _ | exact lvR_cmp s _ _ _ _ | exact lvR_acmp s _ _ _ _ _ _ | exact lvR_newo s _ _ _ _ _ _ | exact lvR_inv _ _ _ _ _ | exact lvR_math s _ _ _ _ _ | exact lvR_copy s _ _ _ _ _ _ _ | split))
end LVX
section LVRUN
variable {P : ai_P}
theorem ai_run_lv : ∀ (n mid d w pc : Nat) (l l' : ai_L) (st : List Value) (h : ai_H) (r : (Option Value ⊕ Nat) × ai_H), subL l l' → ai_run P n mid d w pc l st h = some r → ai_run P n mid d w pc l' st h = some r
  | 0, _, _, _, _, _, _, _, _, _, _, hr => by cases hr
  | n + 1, mid, d, w, pc, l, l', st, h, r, s, hr => by
    unfold ai_run at hr ⊢
    split at hr
    · cases hr
    · rename_i q hq
      have hx := lvR_ex s P d w (P.mth mid).maxL (P.mth mid).ret q pc st h
      split at hr
      · cases hr
      · rename_i pc' lv' st' x he
        rw [he] at hx
        obtain ⟨l2, e2, s2⟩ := hx
        rw [e2]
        exact ai_run_lv n _ _ _ _ _ _ _ _ _ s2 hr
      · rename_i mid' as rest he
        rw [he] at hx
        have e2 : ai_ex P d w (P.mth mid).maxL (P.mth mid).ret q pc l' st h = _ := hx
        rw [e2]
        dsimp only
        split at hr
        · cases hr
        · rename_i hc
          rw [if_neg hc]
          cases hcal : ai_run P n mid' (d - 1) (w - (8 + ((P.mth mid').maxL + 11))) 0 (lv_args 0 as) [] h with
          | none => rw [hcal] at hr; cases hr
          | some r1 =>
            rw [hcal] at hr
            obtain ⟨o1, h1⟩ := r1
            cases o1 with
            | inl v => exact ai_run_lv n _ _ _ _ _ _ _ _ _ s hr
            | inr t =>
              dsimp only [ai_post] at hr ⊢
              split at hr
              · rename_i ht
                rw [if_pos ht]
                split at hr
                · exact ai_run_lv n _ _ _ _ _ _ _ _ _ s hr
                · exact hr
              · cases hr
      · rename_i he
        rw [he] at hx
        have e2 : ai_ex P d w (P.mth mid).maxL (P.mth mid).ret q pc l' st h = _ := hx
        rw [e2]
        exact hr
      · rename_i he
        rw [he] at hx
        have e2 : ai_ex P d w (P.mth mid).maxL (P.mth mid).ret q pc l' st h = _ := hx
        rw [e2]
        exact hr
/-- every variable of l is in m -/
def inL (m : ai_L) : ai_L → Prop
  | [] => True
  | (k, v) :: t => m.lookup k = some v ∧ inL m t
theorem inL_n {m : ai_L} : inL m [] := trivial
theorem inL_c {m l : ai_L} {k : Nat} {v : Value} (h : m.lookup k = some v) (t : inL m l) : inL m ((k, v) :: l) := ⟨h, t⟩
theorem inL_lk {m : ai_L} : ∀ {l : ai_L}, inL m l → ∀ j v, l.lookup j = some v → m.lookup j = some v
  | [], _, j, v, h => by cases h
  | (k, u) :: t, hi, j, v, h => by
    by_cases e : j = k
    · subst e
      simp at h
      subst h
      exact hi.1
    · have e2 : (j == k) = false := by simpa using e
      rw [List.lookup_cons, e2] at h
      exact inL_lk hi.2 j v h
theorem lvS {mid d w pc : Nat} {l m : ai_L} {st : List Value} {h : ai_H} {r : (Option Value ⊕ Nat) × ai_H} (h1 : (l.map Prod.fst).Nodup) (h2 : (m.map Prod.fst).Nodup) (hi : inL m l) (k : ai_Runs P mid d w pc l st h r) : ai_Runs P mid d w pc m st h r := by
  obtain ⟨n, hn⟩ := k
  exact ⟨n, ai_run_lv n _ _ _ _ _ _ _ _ _ ⟨h1, h2, inL_lk hi⟩ hn⟩
def ndB : List Nat → Bool
  | [] => true
  | k :: t => !(t.contains k) && ndB t
theorem ndB_ok : ∀ {l : List Nat}, ndB l = true → l.Nodup
  | [], _ => List.nodup_nil
  | k :: t, h => by
    simp only [ndB, Bool.and_eq_true, Bool.not_eq_true'] at h
    refine List.nodup_cons.mpr ⟨fun hm => ?_, ndB_ok h.2⟩
    have := List.contains_iff_mem.mpr hm
    rw [h.1] at this
    cases this
theorem lvS' {mid d w pc : Nat} {l m : ai_L} {st : List Value} {h : ai_H} {r : (Option Value ⊕ Nat) × ai_H} (k : ai_Runs P mid d w pc l st h r) (h1 : ndB (l.map Prod.fst) = true) (h2 : ndB (m.map Prod.fst) = true) (hi : inL m l) : ai_Runs P mid d w pc m st h r := lvS (ndB_ok h1) (ndB_ok h2) hi k
end LVRUN
