/-! new entries, new trees -/
theorem Hs.grow {L n q k m n' q' : Nat} {S : Nat → Prop} {h h' : ai_H} (s : Hs L n q h) (f : Fr S k m h h') (l : h'.length = h.length + k) (hn : n + k = n') (hq : q + m = q') : Hs L n' q' h' := by
  subst hn; subst hq
  have h1 := s.1
  have h2 := s.2
  have h3 := f.2.2.1
  exact ⟨by omega, by omega⟩
theorem Hs.exc {L n q : Nat} {h h' : ai_H} (s : Hs L n q h) (f : Fr (fun _ => False) 1 6 h h') (l : h'.length = h.length + 1) : Hs L (n + 1) (q + 6) h' := s.grow f l rfl rfl
theorem m_eInit {d w e : Nat} {h : ai_H} (ho : Ob h e 3 [.null, .int 0, .int 0, .int 0, .int 0, .null, .null]) (h6 : 6 ≤ e) (hd : 1 ≤ d) (hw : 20 ≤ w) : aW aiP 3 d w 0 [(0, .ref e)] [] h (fun o h' => ∃ v, o = .inl v ∧ v = none ∧ Ob h' e 3 [.ref 1, .int 0, .int 0, .int 0, .int 0, .null, .null] ∧ Fr (fun z => z = e) 0 0 h h') := by
  refine q_aload_n rfl rfl ?_
  refine q_objInit rfl hd hw (by decide) ?_
  refine q_aload_n rfl rfl ?_
  refine q_getstatic rfl ?_
  refine q_putO rfl (by assumption) rfl (by assumption) (by first | rfl | assumption) (fun h8 o8 f8 => ?_)
  refine q_aload_n rfl rfl ?_
  refine q_iconst rfl ?_
  refine q_putO rfl (by assumption) rfl (by assumption) (by first | rfl | assumption) (fun h13 o13 f13 => ?_)
  refine q_aload_n rfl rfl ?_
  refine q_iconst rfl ?_
  refine q_putO rfl (by assumption) rfl (by assumption) (by first | rfl | assumption) (fun h18 o18 f18 => ?_)
  refine q_aload_n rfl rfl ?_
  refine q_iconst rfl ?_
  refine q_putO rfl (by assumption) rfl (by assumption) (by first | rfl | assumption) (fun h23 o23 f23 => ?_)
  refine q_aload_n rfl rfl ?_
  refine q_iconst rfl ?_
  refine q_putO rfl (by assumption) rfl (by assumption) (by first | rfl | assumption) (fun h28 o28 f28 => ?_)
  refine q_aload_n rfl rfl ?_
  refine q_null rfl ?_
  refine q_putO rfl (by assumption) rfl (by assumption) (by first | rfl | assumption) (fun h33 o33 f33 => ?_)
  refine q_aload_n rfl rfl ?_
  refine q_null rfl ?_
  refine q_putO rfl (by assumption) rfl (by assumption) (by first | rfl | assumption) (fun h38 o38 f38 => ?_)
  refine q_return rfl rfl ?_
  exact ⟨none, rfl, rfl, o38, ((((((f8.tr f13).tr f18).tr f23).tr f28).tr f33).tr f38)⟩
theorem t_loop {d w n t ra : Nat} (hn : n ≤ 1000) (hr : 6 ≤ ra) (htr : t ≠ ra) (hd : 2 ≤ d) (hw : 60 ≤ w) : ∀ (k i : Nat) (h : ai_H) (f : Nat → Value), i + k = n → Ob h t 8 [.ref ra, .int 0] → h[ra]? = some (110, n, f) → aW aiP 2 d w 19 [(2, .int (nI i)), (0, .ref t), (1, .int (nI n))] [] h (fun o h' => ∃ v, o = .inl v ∧ v = none ∧ Ob h' t 8 [.ref ra, .int 0] ∧ Fr (fun z => z = ra) k (7 * k) h h' ∧ h'.length = h.length + k)
  | 0, i, h, f, hik, ho, ha => by
    refine q_iload_n rfl rfl ?_
    refine q_iload_n rfl rfl ?_
    refine q_icmp_ge rfl (fun _ => ?_) (fun c => absurd (nI_le (by omega) (by omega)) c)
    refine q_return rfl rfl ?_
    exact ⟨none, rfl, rfl, ho, Fr.refl _ _, rfl⟩
  | k + 1, i, h, f, hik, ho, ha => by
    have hl := lt_len ha
    have hot := ho.lt
    refine q_iload_n rfl rfl ?_
    refine q_iload_n rfl rfl ?_
    refine q_icmp_ge rfl (fun c => absurd c (Int32.not_le.mpr (nI_lt (by omega) (by omega)))) (fun _ => ?_)
    refine q_aload_n rfl rfl ?_
    refine q_getO rfl (by assumption) rfl ?_
    refine q_iload_n rfl rfl ?_
    refine q_new rfl (by decide) (fun h29 o29 f29 l29 => ?_)
    refine q_dup rfl rfl ?_
    refine q_callI rfl (by decide) (as := []) (rest := [.ref h.length, .int (nI i), .ref ra]) rfl rfl (rm (by omega) (by show 20 ≤ w; omega) rfl) (m_eInit (show Ob h29 h.length 3 [.null, .int 0, .int 0, .int 0, .int 0, .null, .null] from o29) (by omega) (by omega) (by show 20 ≤ w - 20; omega)) (fun v h33 r33 => ?_)
    obtain ⟨rfl, o33, f33⟩ := r33
    obtain ⟨g33, e33, _⟩ := id o33
    have a33 := f33.get (b := ra) (fun z => by have z : ra = h.length := z; omega) (f29.get id ha)
    have p33 := (ho.fr f29 id).fr f33 (fun z => by have z : t = h.length := z; omega)
    refine q_aastore rfl a33 (by decide) (by decide) (by omega) (by omega) hr e33 rfl (fun h36 a36 f36 => ?_)
    have p36 := p33.fr f36 htr
    refine q_iinc rfl rfl (by decide) ?_
    refine q_goto rfl ?_
    have K := t_loop hn hr htr hd hw k (i + 1) h36 _ (by omega) p36 a36
    rw [nI_succ] at K
    refine aW_mono K (fun o h' r => ?_)
    obtain ⟨v, e1, e2, e3, e4, e5⟩ := r
    have F1 : Fr (fun z => z = ra) 1 7 h h33 := (f29.trans f33).mono (fun z hz q => q.elim False.elim (fun e => absurd e (by have e : z = h.length := e; omega))) (Nat.le_refl _) (Nat.le_refl _)
    have l1 := f33.1
    have l2 := f33.2.1
    have l3 := f36.1
    have l4 := f36.2.1
    exact ⟨v, e1, e2, e3, ((F1.tr f36).tr e4).mono (fun _ _ z => z) (by omega) (by omega), by omega⟩
theorem m_treeInit {d w n t : Nat} {x : Int32} {h : ai_H} (ho : Ob h t 8 [.null, .int 0]) (hx : x = nI n) (hn : n ≤ 1000) (h6 : 6 ≤ t) (hd : 2 ≤ d) (hw : 60 ≤ w) : aW aiP 2 d w 0 [(0, .ref t), (1, .int x)] [] h (fun o h' => ∃ v, o = .inl v ∧ v = none ∧ Ob h' t 8 [.ref h.length, .int 0] ∧ Fr (fun z => z = t) (1 + n) (8 * n) h h' ∧ h'.length = h.length + (1 + n)) := by
  subst hx
  have hot := ho.lt
  refine q_aload_n rfl rfl ?_
  refine q_objInit rfl (by omega) (by omega) (by decide) ?_
  refine q_aload_n rfl rfl ?_
  refine q_iconst rfl ?_
  refine q_putO rfl (by assumption) rfl (by assumption) (by first | rfl | assumption) (fun h6 o6 f6 => ?_)
  refine q_aload_n rfl rfl ?_
  refine q_iload_n rfl rfl ?_
  refine q_anewa rfl (by omega) (fun h11 a11 f11 l11 => ?_)
  have o11 := o6.fr f11 id
  have lz := f6.1
  have lz2 := f6.2.1
  have hne : h6.length = h.length := by omega
  rw [hne] at a11
  rw [hne]
  refine q_putO rfl (by assumption) rfl (by assumption) (by first | rfl | assumption) (fun h14 o14 f14 => ?_)
  have a14 := f14.get (b := h.length) (fun z => by have z : h.length = t := z; omega) a11
  refine q_iconst rfl ?_
  refine q_istore_n rfl (by decide) ?_
  have K := t_loop (d := d) (w := w) hn (ra := h.length) (t := t) (by omega) (by omega) hd hw n 0 h14 _ (by omega) o14 a14
  refine aW_mono K (fun o h' r => ?_)
  obtain ⟨v, e1, e2, e3, e4, e5⟩ := r
  have F1 : Fr (fun z => z = t) 1 n h h14 := (((f6.trans f11).trans f14)).mono (fun z hz q => q.elim (fun q => q.elim id False.elim) id) (by omega) (by omega)
  have l1 := f14.1
  have l2 := f14.2.1
  have l3 := f11.1
  have F2 : Fr (fun z => z = t) (1 + n) (8 * n) h h' := (F1.trans e4).mono (fun z hz q => q.elim id (fun e => absurd e (by have e : z = h.length := e; omega))) (by omega) (by omega)
  exact ⟨v, e1, e2, e3, F2, by omega⟩
