/-! Entry and Tree: what only looks -/
/-- the numbers of an int[] -/
def IA (h : ai_H) (a : Nat) (xs : List Int32) : Prop := (∃ f : Nat → Value, h[a]? = some (102, xs.length, f) ∧ ∀ j, j < xs.length → f j = .int (xs.getD j 0)) ∧ xs.length < 2147483648
def OB (h : ai_H) (v : Value) (o : Option (List Int32)) : Prop := match o with
  | none => v = .null
  | some bs => ∃ a, v = .ref a ∧ BA h a bs
def OI (h : ai_H) (v : Value) (o : Option (List Int32)) : Prop := match o with
  | none => v = .null
  | some xs => ∃ a, v = .ref a ∧ IA h a xs
/-- an entry: path, kind, mode, time, locked, content, sum -/
abbrev Ent : Type := List Int32 × Int32 × Int32 × Int32 × Bool × Option (List Int32) × Option (List Int32)
abbrev Ent.path (x : Ent) : List Int32 := x.1
abbrev Ent.kind (x : Ent) : Int32 := x.2.1
abbrev Ent.mode (x : Ent) : Int32 := x.2.2.1
abbrev Ent.time (x : Ent) : Int32 := x.2.2.2.1
abbrev Ent.lock (x : Ent) : Bool := x.2.2.2.2.1
abbrev Ent.cont (x : Ent) : Option (List Int32) := x.2.2.2.2.2.1
abbrev Ent.sum (x : Ent) : Option (List Int32) := x.2.2.2.2.2.2
def e0 : Ent := ([], 0, 0, 0, false, none, none)
def EntAt (h : ai_H) (e : Nat) (x : Ent) : Prop := ∃ pa cv sv, Ob h e 3 [.ref pa, .int x.kind, .int x.mode, .int x.time, .int (zB x.lock), cv, sv] ∧ BA h pa x.path ∧ OB h cv x.cont ∧ OI h sv x.sum
/-- rows: any entries -/
def RowAt (h : ai_H) (e : Nat) : Prop := ∃ x, EntAt h e x
def TreeAt (h : ai_H) (t ra cap : Nat) (rs : Nat → Nat) (sz : Nat) (es : Nat → Ent) : Prop := Ob h t 8 [.ref ra, .int (nI sz)] ∧ (∃ f : Nat → Value, h[ra]? = some (110, cap, f) ∧ ∀ j, j < cap → f j = .ref (rs j)) ∧ sz ≤ cap ∧ cap < 1000000 ∧ (∀ i j, i < cap → j < cap → rs i = rs j → i = j) ∧ (∀ j, j < sz → EntAt h (rs j) (es j)) ∧ (∀ j, j < cap → RowAt h (rs j))
def lenO (o : Option (List Int32)) : Nat := match o with
  | none => 0
  | some bs => bs.length
theorem zB_0 {b : Bool} (h : zB b = 0) : b = false := by cases b <;> first | rfl | exact absurd h (by decide)
theorem i32_nlt {x y : Int32} (h : y ≤ x) : ¬ x < y := Int32.not_lt.mpr h
theorem i32_lt {x y : Int32} (h : ¬ y ≤ x) : x < y := Int32.not_le.mp h
section TR
variable {d w : Nat} {h : ai_H} {e e' : Nat} {x y : Ent}
theorem m_length (he : EntAt h e x) : ai_Runs aiP 28 d w 0 [(0, .ref e)] [] h (.inl (some (.int (nI (lenO x.cont)))), h) := by
  obtain ⟨pa, cv, sv, he, hp, hc, hs⟩ := he
  cases hx : x.cont with
  | none =>
    rw [hx] at hc
    have hc : cv = .null := hc
    subst hc
    refine r_aload_n rfl rfl ?_
    refine r_getO rfl (by assumption) rfl ?_
    refine r_ifnonnullN rfl ?_
    refine r_iconst rfl ?_
    refine r_goto rfl ?_
    exact r_ireturn rfl rfl rfl
  | some bs =>
    rw [hx] at hc
    obtain ⟨a, rfl, ⟨f, hf, hf2⟩, hn⟩ := hc
    refine r_aload_n rfl rfl ?_
    refine r_getO rfl (by assumption) rfl ?_
    refine r_ifnonnull rfl ?_
    refine r_aload_n rfl rfl ?_
    refine r_getO rfl (by assumption) rfl ?_
    refine r_alen rfl (by assumption) (by decide) (by decide) ?_
    exact r_ireturn rfl rfl rfl
def sameO (o p : Option (List Int32)) : Bool := decide (o = p)
theorem m_hasSame (hx : EntAt h e x) (hy : EntAt h e' y) (hd : 1 ≤ d) (hw : 22 ≤ w) : ai_Runs aiP 96 d w 0 [(0, .ref e), (1, .ref e')] [] h (.inl (some (.int (zB (sameO x.cont y.cont)))), h) := by
  obtain ⟨pa, cv, sv, he, hp, hc, hs⟩ := hx
  obtain ⟨pa2, cv2, sv2, he2, hp2, hc2, hs2⟩ := hy
  cases hx : x.cont with
  | none =>
    rw [hx] at hc
    have hc : cv = .null := hc
    subst hc
    cases hy : y.cont with
    | none =>
      rw [hy] at hc2
      have hc2 : cv2 = .null := hc2
      subst hc2
      refine r_aload_n rfl rfl ?_
      refine r_getO rfl (by assumption) rfl ?_
      refine r_ifnullN rfl ?_
      refine r_aload_n rfl rfl ?_
      refine r_getO rfl (by assumption) rfl ?_
      refine r_ifnonnullN rfl ?_
      refine r_aload_n rfl rfl ?_
      refine r_getO rfl (by assumption) rfl ?_
      refine r_ifnonnullN rfl ?_
      refine r_iconst rfl ?_
      refine r_goto rfl ?_
      exact r_ireturn rfl rfl rfl
    | some cs =>
      rw [hy] at hc2
      obtain ⟨a2, rfl, hb2⟩ := hc2
      refine r_aload_n rfl rfl ?_
      refine r_getO rfl (by assumption) rfl ?_
      refine r_ifnullN rfl ?_
      refine r_aload_n rfl rfl ?_
      refine r_getO rfl (by assumption) rfl ?_
      refine r_ifnonnullN rfl ?_
      refine r_aload_n rfl rfl ?_
      refine r_getO rfl (by assumption) rfl ?_
      refine r_ifnonnull rfl ?_
      refine r_iconst rfl ?_
      exact r_ireturn rfl rfl rfl
  | some bs =>
    rw [hx] at hc
    obtain ⟨a, rfl, hb⟩ := hc
    cases hy : y.cont with
    | none =>
      rw [hy] at hc2
      have hc2 : cv2 = .null := hc2
      subst hc2
      refine r_aload_n rfl rfl ?_
      refine r_getO rfl (by assumption) rfl ?_
      refine r_ifnull rfl ?_
      refine r_aload_n rfl rfl ?_
      refine r_getO rfl (by assumption) rfl ?_
      refine r_ifnonnullN rfl ?_
      refine r_aload_n rfl rfl ?_
      refine r_getO rfl (by assumption) rfl ?_
      refine r_ifnonnull rfl ?_
      refine r_iconst rfl ?_
      exact r_ireturn rfl rfl rfl
    | some cs =>
      rw [hy] at hc2
      obtain ⟨a2, rfl, hb2⟩ := hc2
      have e1 : sameO (some bs) (some cs) = decide (bs = cs) := by simp [sameO]
      rw [e1]
      refine r_aload_n rfl rfl ?_
      refine r_getO rfl (by assumption) rfl ?_
      refine r_ifnull rfl ?_
      refine r_aload_n rfl rfl ?_
      refine r_getO rfl (by assumption) rfl ?_
      refine r_ifnonnull rfl ?_
      refine r_aload_n rfl rfl ?_
      refine r_getO rfl (by assumption) rfl ?_
      refine r_aload_n rfl rfl ?_
      refine r_getO rfl (by assumption) rfl ?_
      refine r_callS rfl (by decide) (as := [.ref a, .ref a2]) rfl rfl (rm hd hw rfl) (m_same hb hb2) ?_
      exact r_ireturn rfl (zB_ok _) rfl
def isAsE (x y : Ent) : Bool := decide (x.kind = y.kind) && decide (x.mode = y.mode) && decide (x.time = y.time) && sameO x.cont y.cont
theorem m_isAs (hx : EntAt h e x) (hy : EntAt h e' y) (hd : 2 ≤ d) (hw : 43 ≤ w) : ai_Runs aiP 95 d w 0 [(0, .ref e), (1, .ref e')] [] h (.inl (some (.int (zB (isAsE x y)))), h) := by
  obtain ⟨pa, cv, sv, he, hp, hc, hs⟩ := id hx
  obtain ⟨pa2, cv2, sv2, he2, hp2, hc2, hs2⟩ := id hy
  have hh := m_hasSame (d := d - 1) (w := w - 21) hx hy (by omega) (by omega)
  refine r_aload_n rfl rfl ?_
  refine r_getO rfl (by assumption) rfl ?_
  refine r_aload_n rfl rfl ?_
  refine r_getO rfl (by assumption) rfl ?_
  refine r_icmp_ne rfl (fun c8 => ?_) (fun c8 => ?_)
  · refine r_iconst rfl ?_
    have e1 : isAsE x y = false := by rw [isAsE, decide_eq_false c8]; rfl
    rw [e1]
    exact r_ireturn rfl rfl rfl
  · refine r_aload_n rfl rfl ?_
    refine r_getO rfl (by assumption) rfl ?_
    refine r_aload_n rfl rfl ?_
    refine r_getO rfl (by assumption) rfl ?_
    refine r_icmp_ne rfl (fun c19 => ?_) (fun c19 => ?_)
    · refine r_iconst rfl ?_
      have e1 : isAsE x y = false := by rw [isAsE, decide_eq_false c19, Bool.and_false]; rfl
      rw [e1]
      exact r_ireturn rfl rfl rfl
    · refine r_aload_n rfl rfl ?_
      refine r_getO rfl (by assumption) rfl ?_
      refine r_aload_n rfl rfl ?_
      refine r_getO rfl (by assumption) rfl ?_
      refine r_icmp_ne rfl (fun c30 => ?_) (fun c30 => ?_)
      · refine r_iconst rfl ?_
        have e1 : isAsE x y = false := by rw [isAsE, decide_eq_false c30, Bool.and_false]; rfl
        rw [e1]
        exact r_ireturn rfl rfl rfl
      · have e0 : isAsE x y = sameO x.cont y.cont := by rw [isAsE, decide_eq_true (Classical.not_not.mp c8), decide_eq_true (Classical.not_not.mp c19), decide_eq_true (Classical.not_not.mp c30)]; rfl
        rw [e0]
        refine r_aload_n rfl rfl ?_
        refine r_aload_n rfl rfl ?_
        refine r_callVO rfl he (as := [.ref e']) rfl rfl (rm (by omega) (by show 21 ≤ w; omega) rfl) hh ?_
        refine r_if_eq rfl (fun c38 => ?_) (fun c38 => ?_)
        · refine r_iconst rfl ?_
          rw [zB_0 c38]
          exact r_ireturn rfl rfl rfl
        · refine r_iconst rfl ?_
          refine r_goto rfl ?_
          rw [zB_ne c38]
          exact r_ireturn rfl rfl rfl
end TR
section TRW
variable {d w : Nat} {h : ai_H} {t ra : Nat} {cap sz : Nat} {rs : Nat → Nat} {es : Nat → Ent}
theorem m_row (ht : TreeAt h t ra cap rs sz es) {j : Nat} (hj : j < sz) : ai_Runs aiP 25 d w 0 [(0, .ref t), (1, .int (nI j))] [] h (.inl (some (.ref (rs j))), h) := by
  obtain ⟨h1, ⟨f, hf, hf2⟩, h2, h3, h4, h5, h6⟩ := ht
  refine r_iload_n rfl rfl ?_
  refine r_if_lt rfl (fun c => absurd c (nI_pos (by omega))) (fun _ => ?_)
  refine r_iload_n rfl rfl ?_
  refine r_aload_n rfl rfl ?_
  refine r_getO rfl (by assumption) rfl ?_
  refine r_icmp_ge rfl (fun c => absurd ((nI_leI (by omega) (by omega)).mp c) (by omega)) (fun _ => ?_)
  refine r_iload_n rfl rfl ?_
  refine r_aload_n rfl rfl ?_
  refine r_getO rfl (by assumption) rfl ?_
  refine r_alen rfl (by assumption) (by decide) (by decide) ?_
  refine r_icmp_lt rfl (fun _ => ?_) (fun c => absurd ((nI_ltI (by omega) (by omega)).mpr (by omega)) c)
  refine r_aload_n rfl rfl ?_
  refine r_getO rfl (by assumption) rfl ?_
  refine r_iload_n rfl rfl ?_
  refine r_aaload rfl hf (by decide) (by decide) (by omega) (by omega) (hf2 j (by omega)) ?_
  exact r_areturn rfl rfl rfl rfl
theorem m_rowN (ht : TreeAt h t ra cap rs sz es) {i : Int32} (hi : i < 0 ∨ nI sz ≤ i) : ai_Runs aiP 25 d w 0 [(0, .ref t), (1, .int i)] [] h (.inl (some .null), h) := by
  obtain ⟨h1, ⟨f, hf, hf2⟩, h2, h3, h4, h5, h6⟩ := ht
  refine r_iload_n rfl rfl ?_
  refine r_if_lt rfl (fun c1 => ?_) (fun c1 => ?_)
  · refine r_null rfl ?_
    refine r_goto rfl ?_
    exact r_areturn rfl rfl rfl rfl
  · refine r_iload_n rfl rfl ?_
    refine r_aload_n rfl rfl ?_
    refine r_getO rfl (by assumption) rfl ?_
    refine r_icmp_ge rfl (fun _ => ?_) (fun c => absurd (hi.resolve_left c1) c)
    refine r_null rfl ?_
    refine r_goto rfl ?_
    exact r_areturn rfl rfl rfl rfl
/-- where a path stands, k rows from i on to be looked at -/
def fndK (es : Nat → Ent) (p : List Int32) : Nat → Nat → Option Nat
  | 0, _ => none
  | k + 1, i => if (es i).path = p then some i else fndK es p k (i + 1)
def oI (o : Option Nat) : Int32 := match o with
  | none => -1
  | some i => nI i
theorem find_loop {a : Nat} {p : List Int32} (ht : TreeAt h t ra cap rs sz es) (hp : BA h a p) (hd : 1 ≤ d) (hw : 22 ≤ w) : ∀ k i, i + k = sz → ai_Runs aiP 23 d w 2 [(2, .int (nI i)), (0, .ref t), (1, .ref a)] [] h (.inl (some (.int (oI (fndK es p k i)))), h)
  | 0, i, hk => by
    obtain ⟨h1, ⟨f, hf, hf2⟩, h2, h3, h4, h5, h6⟩ := id ht
    refine r_iload_n rfl rfl ?_
    refine r_aload_n rfl rfl ?_
    refine r_getO rfl (by assumption) rfl ?_
    refine r_icmp_ge rfl (fun _ => ?_) (fun c => absurd ((nI_leI (by omega) (by omega)).mpr (by omega)) c)
    refine r_iconst rfl ?_
    exact r_ireturn rfl rfl rfl
  | k + 1, i, hk => by
    obtain ⟨h1, ⟨f, hf, hf2⟩, h2, h3, h4, h5, h6⟩ := id ht
    obtain ⟨pa, cv, sv, he, hq, hc, hs⟩ := h5 i (by omega)
    refine r_iload_n rfl rfl ?_
    refine r_aload_n rfl rfl ?_
    refine r_getO rfl (by assumption) rfl ?_
    refine r_icmp_ge rfl (fun c => absurd ((nI_leI (by omega) (by omega)).mp c) (by omega)) (fun _ => ?_)
    refine r_iload_n rfl rfl ?_
    refine r_aload_n rfl rfl ?_
    refine r_getO rfl (by assumption) rfl ?_
    refine r_alen rfl (by assumption) (by decide) (by decide) ?_
    refine r_icmp_ge rfl (fun c => absurd ((nI_leI (by omega) (by omega)).mp c) (by omega)) (fun _ => ?_)
    refine r_aload_n rfl rfl ?_
    refine r_getO rfl (by assumption) rfl ?_
    refine r_iload_n rfl rfl ?_
    refine r_aaload rfl hf (by decide) (by decide) (by omega) (by omega) (hf2 i (by omega)) ?_
    refine r_getO rfl (by assumption) rfl ?_
    refine r_aload_n rfl rfl ?_
    refine r_callS rfl (by decide) (as := [.ref pa, .ref a]) rfl rfl (rm hd hw rfl) (m_same hq hp) ?_
    refine r_if_eq rfl (fun c32 => ?_) (fun c32 => ?_)
    · refine r_iinc rfl rfl (by decide) ?_
      refine r_goto rfl ?_
      have e1 : ¬ (es i).path = p := of_decide_eq_false (zB_0 c32)
      have e2 : fndK es p (k + 1) i = fndK es p k (i + 1) := by rw [fndK, if_neg e1]
      rw [e2, nI_1 i]
      exact lvS' (find_loop ht hp hd hw k (i + 1) (by omega)) rfl rfl (by repeat' (first | exact inL_n | refine inL_c rfl ?_))
    · refine r_iload_n rfl rfl ?_
      have e1 : (es i).path = p := of_decide_eq_true (zB_ne c32)
      have e2 : fndK es p (k + 1) i = some i := by rw [fndK, if_pos e1]
      rw [e2]
      exact r_ireturn rfl rfl rfl
theorem m_find {a : Nat} {p : List Int32} (ht : TreeAt h t ra cap rs sz es) (hp : BA h a p) (hd : 1 ≤ d) (hw : 22 ≤ w) : ai_Runs aiP 23 d w 0 [(0, .ref t), (1, .ref a)] [] h (.inl (some (.int (oI (fndK es p sz 0)))), h) := by
  refine r_iconst rfl ?_
  refine r_istore_n rfl (by decide) ?_
  exact find_loop ht hp hd hw sz 0 (by omega)
def plcK (es : Nat → Ent) (p : List Int32) : Nat → Nat → Nat
  | 0, i => i
  | k + 1, i => if ordB (es i).path p < 0 then plcK es p k (i + 1) else i
theorem place_loop {a : Nat} {p : List Int32} (ht : TreeAt h t ra cap rs sz es) (hp : BA h a p) (hd : 2 ≤ d) (hw : 40 ≤ w) : ∀ k i, i + k = sz → ai_Runs aiP 65 d w 2 [(2, .int (nI i)), (0, .ref t), (1, .ref a)] [] h (.inl (some (.int (nI (plcK es p k i)))), h)
  | 0, i, hk => by
    obtain ⟨h1, ⟨f, hf, hf2⟩, h2, h3, h4, h5, h6⟩ := id ht
    refine r_iload_n rfl rfl ?_
    refine r_aload_n rfl rfl ?_
    refine r_getO rfl (by assumption) rfl ?_
    refine r_icmp_ge rfl (fun _ => ?_) (fun c => absurd ((nI_leI (by omega) (by omega)).mpr (by omega)) c)
    refine r_iload_n rfl rfl ?_
    exact r_ireturn rfl rfl rfl
  | k + 1, i, hk => by
    obtain ⟨h1, ⟨f, hf, hf2⟩, h2, h3, h4, h5, h6⟩ := id ht
    obtain ⟨pa, cv, sv, he, hq, hc, hs⟩ := h5 i (by omega)
    have ho := m_order (d := d - 1) (w := w - 25) hq hp (by omega) (by omega)
    refine r_iload_n rfl rfl ?_
    refine r_aload_n rfl rfl ?_
    refine r_getO rfl (by assumption) rfl ?_
    refine r_icmp_ge rfl (fun c => absurd ((nI_leI (by omega) (by omega)).mp c) (by omega)) (fun _ => ?_)
    refine r_iload_n rfl rfl ?_
    refine r_aload_n rfl rfl ?_
    refine r_getO rfl (by assumption) rfl ?_
    refine r_alen rfl (by assumption) (by decide) (by decide) ?_
    refine r_icmp_ge rfl (fun c => absurd ((nI_leI (by omega) (by omega)).mp c) (by omega)) (fun _ => ?_)
    refine r_aload_n rfl rfl ?_
    refine r_getO rfl (by assumption) rfl ?_
    refine r_iload_n rfl rfl ?_
    refine r_aaload rfl hf (by decide) (by decide) (by omega) (by omega) (hf2 i (by omega)) ?_
    refine r_getO rfl (by assumption) rfl ?_
    refine r_aload_n rfl rfl ?_
    refine r_callS rfl (by decide) (as := [.ref pa, .ref a]) rfl rfl (rm (by omega) (by show 25 ≤ w; omega) rfl) ho ?_
    refine r_if_ge rfl (fun c32 => ?_) (fun c32 => ?_)
    · refine r_iload_n rfl rfl ?_
      have e2 : plcK es p (k + 1) i = i := by rw [plcK, if_neg (i32_nlt c32)]
      rw [e2]
      exact r_ireturn rfl rfl rfl
    · refine r_iinc rfl rfl (by decide) ?_
      refine r_goto rfl ?_
      have e2 : plcK es p (k + 1) i = plcK es p k (i + 1) := by rw [plcK, if_pos (i32_lt c32)]
      rw [e2, nI_1 i]
      exact lvS' (place_loop ht hp hd hw k (i + 1) (by omega)) rfl rfl (by repeat' (first | exact inL_n | refine inL_c rfl ?_))
theorem m_place {a : Nat} {p : List Int32} (ht : TreeAt h t ra cap rs sz es) (hp : BA h a p) (hd : 2 ≤ d) (hw : 40 ≤ w) : ai_Runs aiP 65 d w 0 [(0, .ref t), (1, .ref a)] [] h (.inl (some (.int (nI (plcK es p sz 0)))), h) := by
  refine r_iconst rfl ?_
  refine r_istore_n rfl (by decide) ?_
  exact place_loop ht hp hd hw sz 0 (by omega)
def bytK (es : Nat → Ent) : Nat → Nat → Nat
  | 0, _ => 0
  | k + 1, i => lenO (es i).cont + bytK es k (i + 1)
theorem bytes_loop (ht : TreeAt h t ra cap rs sz es) (hd : 1 ≤ d) (hw : 20 ≤ w) : ∀ k i n, i + k = sz → ai_Runs aiP 39 d w 4 [(2, .int (nI i)), (1, .int (nI n)), (0, .ref t)] [] h (.inl (some (.int (nI (n + bytK es k i)))), h)
  | 0, i, n, hk => by
    obtain ⟨h1, ⟨f, hf, hf2⟩, h2, h3, h4, h5, h6⟩ := id ht
    refine r_iload_n rfl rfl ?_
    refine r_aload_n rfl rfl ?_
    refine r_getO rfl (by assumption) rfl ?_
    refine r_icmp_ge rfl (fun _ => ?_) (fun c => absurd ((nI_leI (by omega) (by omega)).mpr (by omega)) c)
    refine r_iload_n rfl rfl ?_
    exact r_ireturn rfl rfl rfl
  | k + 1, i, n, hk => by
    obtain ⟨h1, ⟨f, hf, hf2⟩, h2, h3, h4, h5, h6⟩ := id ht
    have hE := h5 i (by omega)
    obtain ⟨pa, cv, sv, he, hq, hc, hs⟩ := id hE
    refine r_iload_n rfl rfl ?_
    refine r_aload_n rfl rfl ?_
    refine r_getO rfl (by assumption) rfl ?_
    refine r_icmp_ge rfl (fun c => absurd ((nI_leI (by omega) (by omega)).mp c) (by omega)) (fun _ => ?_)
    refine r_iload_n rfl rfl ?_
    refine r_aload_n rfl rfl ?_
    refine r_getO rfl (by assumption) rfl ?_
    refine r_alen rfl (by assumption) (by decide) (by decide) ?_
    refine r_icmp_ge rfl (fun c => absurd ((nI_leI (by omega) (by omega)).mp c) (by omega)) (fun _ => ?_)
    refine r_iload_n rfl rfl ?_
    refine r_aload_n rfl rfl ?_
    refine r_getO rfl (by assumption) rfl ?_
    refine r_iload_n rfl rfl ?_
    refine r_aaload rfl hf (by decide) (by decide) (by omega) (by omega) (hf2 i (by omega)) ?_
    refine r_callVO rfl he (as := []) rfl rfl (rm hd hw rfl) (m_length hE) ?_
    refine r_iadd rfl ?_
    rw [nI_add]
    refine r_istore_n rfl (by decide) ?_
    refine r_iinc rfl rfl (by decide) ?_
    refine r_goto rfl ?_
    have e2 : n + bytK es (k + 1) i = (n + lenO (es i).cont) + bytK es k (i + 1) := by rw [bytK]; omega
    rw [e2, nI_1 i]
    exact lvS' (bytes_loop ht hd hw k (i + 1) _ (by omega)) rfl rfl (by repeat' (first | exact inL_n | refine inL_c rfl ?_))
theorem m_bytes (ht : TreeAt h t ra cap rs sz es) (hd : 1 ≤ d) (hw : 20 ≤ w) : ai_Runs aiP 39 d w 0 [(0, .ref t)] [] h (.inl (some (.int (nI (bytK es sz 0)))), h) := by
  rw [← Nat.zero_add (bytK es sz 0)]
  refine r_iconst rfl ?_
  refine r_istore_n rfl (by decide) ?_
  refine r_iconst rfl ?_
  refine r_istore_n rfl (by decide) ?_
  exact bytes_loop ht hd hw sz 0 0 (by omega)
def lckK (es : Nat → Ent) : Nat → Nat → Nat
  | 0, _ => 0
  | k + 1, i => (if (es i).lock then 1 else 0) + lckK es k (i + 1)
theorem locked_loop (ht : TreeAt h t ra cap rs sz es) : ∀ k i n, i + k = sz → ai_Runs aiP 76 d w 4 [(2, .int (nI i)), (1, .int (nI n)), (0, .ref t)] [] h (.inl (some (.int (nI (n + lckK es k i)))), h)
  | 0, i, n, hk => by
    obtain ⟨h1, ⟨f, hf, hf2⟩, h2, h3, h4, h5, h6⟩ := id ht
    refine r_iload_n rfl rfl ?_
    refine r_aload_n rfl rfl ?_
    refine r_getO rfl (by assumption) rfl ?_
    refine r_icmp_ge rfl (fun _ => ?_) (fun c => absurd ((nI_leI (by omega) (by omega)).mpr (by omega)) c)
    refine r_iload_n rfl rfl ?_
    exact r_ireturn rfl rfl rfl
  | k + 1, i, n, hk => by
    obtain ⟨h1, ⟨f, hf, hf2⟩, h2, h3, h4, h5, h6⟩ := id ht
    obtain ⟨pa, cv, sv, he, hq, hc, hs⟩ := h5 i (by omega)
    refine r_iload_n rfl rfl ?_
    refine r_aload_n rfl rfl ?_
    refine r_getO rfl (by assumption) rfl ?_
    refine r_icmp_ge rfl (fun c => absurd ((nI_leI (by omega) (by omega)).mp c) (by omega)) (fun _ => ?_)
    refine r_iload_n rfl rfl ?_
    refine r_aload_n rfl rfl ?_
    refine r_getO rfl (by assumption) rfl ?_
    refine r_alen rfl (by assumption) (by decide) (by decide) ?_
    refine r_icmp_ge rfl (fun c => absurd ((nI_leI (by omega) (by omega)).mp c) (by omega)) (fun _ => ?_)
    refine r_aload_n rfl rfl ?_
    refine r_getO rfl (by assumption) rfl ?_
    refine r_iload_n rfl rfl ?_
    refine r_aaload rfl hf (by decide) (by decide) (by omega) (by omega) (hf2 i (by omega)) ?_
    refine r_getO rfl (by assumption) rfl ?_
    refine r_if_eq rfl (fun c30 => ?_) (fun c30 => ?_)
    · refine r_iinc rfl rfl (by decide) ?_
      refine r_goto rfl ?_
      have e2 : n + lckK es (k + 1) i = n + lckK es k (i + 1) := by rw [lckK, zB_0 c30]; simp
      rw [e2, nI_1 i]
      exact lvS' (locked_loop ht k (i + 1) n (by omega)) rfl rfl (by repeat' (first | exact inL_n | refine inL_c rfl ?_))
    · refine r_iinc rfl rfl (by decide) ?_
      refine r_iinc rfl rfl (by decide) ?_
      refine r_goto rfl ?_
      have e2 : n + lckK es (k + 1) i = (n + 1) + lckK es k (i + 1) := by rw [lckK, zB_ne c30]; simp; omega
      rw [e2, nI_1 i, nI_1 n]
      exact lvS' (locked_loop ht k (i + 1) (n + 1) (by omega)) rfl rfl (by repeat' (first | exact inL_n | refine inL_c rfl ?_))
theorem m_lockedCount (ht : TreeAt h t ra cap rs sz es) : ai_Runs aiP 76 d w 0 [(0, .ref t)] [] h (.inl (some (.int (nI (lckK es sz 0)))), h) := by
  rw [← Nat.zero_add (lckK es sz 0)]
  refine r_iconst rfl ?_
  refine r_istore_n rfl (by decide) ?_
  refine r_iconst rfl ?_
  refine r_istore_n rfl (by decide) ?_
  exact locked_loop ht sz 0 0 (by omega)
end TRW
