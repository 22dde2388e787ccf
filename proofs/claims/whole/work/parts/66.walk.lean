/-! Walk -/
def vE (b : Bool) (e : Nat) : Value := if b then .ref e else .null
theorem TreeAt.fr {S : Nat → Prop} {k m : Nat} {h h' : ai_H} {t ra cap n : Nat} {rs : Nat → Nat} {es : Nat → Ent} (ht : TreeAt h t ra cap rs n es) (F : Fr S k m h h') (na : NA S h) (g1 : ¬ S t) (g2 : ¬ S ra) (g3 : ∀ j, j < cap → ¬ S (rs j)) : TreeAt h' t ra cap rs n es := by
  obtain ⟨h1, ⟨f, hf, hf2⟩, h2, h3, h4, h5, h7⟩ := ht
  refine ⟨h1.fr F g1, ⟨f, F.get g2 hf, hf2⟩, h2, h3, h4, fun j hj => (h5 j hj).fr F na (g3 j (by omega)), fun j hj => ?_⟩
  obtain ⟨x, hx⟩ := h7 j hj
  exact ⟨x, hx.fr F na (g3 j hj)⟩
theorem TreeAt.frO {k m : Nat} {h h' : ai_H} {t ra cap n a c : Nat} {vs : List Value} {rs : Nat → Nat} {es : Nat → Ent} (ht : TreeAt h t ra cap rs n es) (ho : Ob h a c vs) (F : Fr (fun z => z = a) k m h h') (hc : c ≠ 3 ∧ c ≠ 8 ∧ c ≠ 110 ∧ c ≠ 100 ∧ c ≠ 102) : TreeAt h' t ra cap rs n es := by
  obtain ⟨c1, c2, c3, c4, c5⟩ := hc
  obtain ⟨h1, ⟨f, hf, hf2⟩, h2, h3, h4, h5, h7⟩ := id ht
  refine ht.fr F (NA_ob ho c4 c5) (fun z => ob_ne ho h1 c2 z.symm) (fun z => ob_nec ho hf c3 z.symm) (fun j hj z => ?_)
  obtain ⟨x, _, _, _, hx, _⟩ := h7 j hj
  exact ob_ne ho hx c1 z.symm
section WALK
variable {d w : Nat} {h : ai_H} {wk t1 t2 i j pa e1 e2 : Nat} {x1 x2 : Ent}
theorem next_tail (l r : Bool) (hL : l = true → EntAt h e1 x1) (hR : r = true → EntAt h e2 x2) (ho : Ob h wk 9 [.ref t1, .ref t2, .int (nI i), .int (nI j), .ref pa, vE l e1, vE r e2]) (h6 : 6 ≤ wk) : aW aiP 93 d w 83 [(0, .ref wk)] [] h (fun q h' => ∃ v, q = .inl v ∧ v = some (.int (zB (l || r))) ∧ (∃ pa', Ob h' wk 9 [.ref t1, .ref t2, .int (nI (i + l.toNat)), .int (nI (j + r.toNat)), .ref pa', vE l e1, vE r e2] ∧ (r = true → BA h' pa' x2.path) ∧ (l = true → r = false → BA h' pa' x1.path)) ∧ Fr (fun z => z = wk) 0 0 h h') := by
  have na : NA (fun z => z = wk) h := NA_ob ho (by decide) (by decide)
  cases l with
  | false =>
    cases r with
    | false =>
      refine q_aload_n rfl rfl ?_
      refine q_getO rfl (by assumption) rfl ?_
      refine q_ifnullN rfl ?_
      refine q_aload_n rfl rfl ?_
      refine q_getO rfl (by assumption) rfl ?_
      refine q_ifnullN rfl ?_
      refine q_aload_n rfl rfl ?_
      refine q_getO rfl (by assumption) rfl ?_
      refine q_ifnonnullN rfl ?_
      refine q_aload_n rfl rfl ?_
      refine q_getO rfl (by assumption) rfl ?_
      refine q_ifnullN rfl ?_
      refine q_iconst rfl ?_
      refine q_ireturn rfl rfl ?_
      exact ⟨_, rfl, rfl, ⟨pa, ho, fun z => absurd z (by decide), fun z => absurd z (by decide)⟩, Fr.refl _ _⟩
    | true =>
      obtain ⟨pa2, cv2, sv2, he2, hq2, hc2, hs2⟩ := hR rfl
      have n2 := ob_ne he2 ho (by decide)
      refine q_aload_n rfl rfl ?_
      refine q_getO rfl (by assumption) rfl ?_
      refine q_ifnullN rfl ?_
      refine q_aload_n rfl rfl ?_
      refine q_getO rfl (by assumption) rfl ?_
      refine q_ifnull rfl ?_
      refine q_aload_n rfl rfl ?_
      refine q_aload_n rfl rfl ?_
      refine q_getO rfl (by assumption) rfl ?_
      refine q_getO rfl (by assumption) rfl ?_
      refine q_putO rfl (by assumption) rfl (by assumption) (by first | rfl | assumption) (fun h126 o126 f126 => ?_)
      replace he2 := he2.fr f126 n2
      refine q_aload_n rfl rfl ?_
      refine q_dup rfl rfl ?_
      refine q_getO rfl (by assumption) rfl ?_
      refine q_iconst rfl ?_
      refine q_iadd rfl ?_
      rw [nI_1 j]
      refine q_putO rfl (by assumption) rfl (by assumption) (by first | rfl | assumption) (fun h136 o136 f136 => ?_)
      replace he2 := he2.fr f136 n2
      refine q_aload_n rfl rfl ?_
      refine q_getO rfl (by assumption) rfl ?_
      refine q_ifnonnullN rfl ?_
      refine q_aload_n rfl rfl ?_
      refine q_getO rfl (by assumption) rfl ?_
      refine q_ifnull rfl ?_
      refine q_iconst rfl ?_
      refine q_goto rfl ?_
      refine q_ireturn rfl rfl ?_
      have F := f126.tr f136
      exact ⟨_, rfl, rfl, ⟨pa2, o136, fun _ => hq2.fr F na, fun z => absurd z (by decide)⟩, F⟩
  | true =>
    obtain ⟨pa1, cv1, sv1, he1, hq1, hc1, hs1⟩ := hL rfl
    have n1 := ob_ne he1 ho (by decide)
    cases r with
    | false =>
      refine q_aload_n rfl rfl ?_
      refine q_getO rfl (by assumption) rfl ?_
      refine q_ifnull rfl ?_
      refine q_aload_n rfl rfl ?_
      refine q_aload_n rfl rfl ?_
      refine q_getO rfl (by assumption) rfl ?_
      refine q_getO rfl (by assumption) rfl ?_
      refine q_putO rfl (by assumption) rfl (by assumption) (by first | rfl | assumption) (fun h98 o98 f98 => ?_)
      replace he1 := he1.fr f98 n1
      refine q_aload_n rfl rfl ?_
      refine q_dup rfl rfl ?_
      refine q_getO rfl (by assumption) rfl ?_
      refine q_iconst rfl ?_
      refine q_iadd rfl ?_
      rw [nI_1 i]
      refine q_putO rfl (by assumption) rfl (by assumption) (by first | rfl | assumption) (fun h108 o108 f108 => ?_)
      replace he1 := he1.fr f108 n1
      refine q_aload_n rfl rfl ?_
      refine q_getO rfl (by assumption) rfl ?_
      refine q_ifnullN rfl ?_
      refine q_aload_n rfl rfl ?_
      refine q_getO rfl (by assumption) rfl ?_
      refine q_ifnonnull rfl ?_
      refine q_iconst rfl ?_
      refine q_goto rfl ?_
      refine q_ireturn rfl rfl ?_
      have F := f98.tr f108
      exact ⟨_, rfl, rfl, ⟨pa1, o108, fun z => absurd z (by decide), fun _ _ => hq1.fr F na⟩, F⟩
    | true =>
      obtain ⟨pa2, cv2, sv2, he2, hq2, hc2, hs2⟩ := hR rfl
      have n2 := ob_ne he2 ho (by decide)
      refine q_aload_n rfl rfl ?_
      refine q_getO rfl (by assumption) rfl ?_
      refine q_ifnull rfl ?_
      refine q_aload_n rfl rfl ?_
      refine q_aload_n rfl rfl ?_
      refine q_getO rfl (by assumption) rfl ?_
      refine q_getO rfl (by assumption) rfl ?_
      refine q_putO rfl (by assumption) rfl (by assumption) (by first | rfl | assumption) (fun h98 o98 f98 => ?_)
      replace he1 := he1.fr f98 n1
      replace he2 := he2.fr f98 n2
      refine q_aload_n rfl rfl ?_
      refine q_dup rfl rfl ?_
      refine q_getO rfl (by assumption) rfl ?_
      refine q_iconst rfl ?_
      refine q_iadd rfl ?_
      rw [nI_1 i]
      refine q_putO rfl (by assumption) rfl (by assumption) (by first | rfl | assumption) (fun h108 o108 f108 => ?_)
      replace he1 := he1.fr f108 n1
      replace he2 := he2.fr f108 n2
      refine q_aload_n rfl rfl ?_
      refine q_getO rfl (by assumption) rfl ?_
      refine q_ifnull rfl ?_
      refine q_aload_n rfl rfl ?_
      refine q_aload_n rfl rfl ?_
      refine q_getO rfl (by assumption) rfl ?_
      refine q_getO rfl (by assumption) rfl ?_
      refine q_putO rfl (by assumption) rfl (by assumption) (by first | rfl | assumption) (fun h126 o126 f126 => ?_)
      replace he1 := he1.fr f126 n1
      replace he2 := he2.fr f126 n2
      refine q_aload_n rfl rfl ?_
      refine q_dup rfl rfl ?_
      refine q_getO rfl (by assumption) rfl ?_
      refine q_iconst rfl ?_
      refine q_iadd rfl ?_
      rw [nI_1 j]
      refine q_putO rfl (by assumption) rfl (by assumption) (by first | rfl | assumption) (fun h136 o136 f136 => ?_)
      replace he1 := he1.fr f136 n1
      replace he2 := he2.fr f136 n2
      refine q_aload_n rfl rfl ?_
      refine q_getO rfl (by assumption) rfl ?_
      refine q_ifnonnull rfl ?_
      refine q_iconst rfl ?_
      refine q_goto rfl ?_
      refine q_ireturn rfl rfl ?_
      have F := ((f98.tr f108).tr f126).tr f136
      exact ⟨_, rfl, rfl, ⟨pa2, o136, fun _ => hq2.fr F na, fun _ z => absurd z (by decide)⟩, F⟩
/-- which of the two trees' next entries is taken -/
def wkS (es1 : Nat → Ent) (n1 : Nat) (es2 : Nat → Ent) (n2 i j : Nat) : Bool × Bool := if i < n1 then (if j < n2 then (if ordB (es1 i).path (es2 j).path < 0 then (true, false) else if 0 < ordB (es1 i).path (es2 j).path then (false, true) else (true, true)) else (true, false)) else (false, decide (j < n2))
variable {ra1 ra2 c1 c2 n1 n2 : Nat} {rs1 rs2 : Nat → Nat} {es1 es2 : Nat → Ent} {v1 v2 : Value}
theorem m_next (hT1 : TreeAt h t1 ra1 c1 rs1 n1 es1) (hT2 : TreeAt h t2 ra2 c2 rs2 n2 es2) (ho : Ob h wk 9 [.ref t1, .ref t2, .int (nI i), .int (nI j), .ref pa, v1, v2]) (h6 : 6 ≤ wk) (hi : i ≤ n1) (hj : j ≤ n2) (hd : 2 ≤ d) (hw : 40 ≤ w) : aW aiP 93 d w 0 [(0, .ref wk)] [] h (fun q h' => ∃ v, q = .inl v ∧ v = some (.int (zB ((wkS es1 n1 es2 n2 i j).1 || (wkS es1 n1 es2 n2 i j).2))) ∧ (∃ pa', Ob h' wk 9 [.ref t1, .ref t2, .int (nI (i + (wkS es1 n1 es2 n2 i j).1.toNat)), .int (nI (j + (wkS es1 n1 es2 n2 i j).2.toNat)), .ref pa', vE (wkS es1 n1 es2 n2 i j).1 (rs1 i), vE (wkS es1 n1 es2 n2 i j).2 (rs2 j)] ∧ ((wkS es1 n1 es2 n2 i j).2 = true → BA h' pa' (es2 j).path) ∧ ((wkS es1 n1 es2 n2 i j).1 = true → (wkS es1 n1 es2 n2 i j).2 = false → BA h' pa' (es1 i).path)) ∧ Fr (fun z => z = wk) 0 0 h h') := by
  have hb1 : n1 < 1000000 := Nat.lt_of_le_of_lt hT1.2.2.1 hT1.2.2.2.1
  have hb2 : n2 < 1000000 := Nat.lt_of_le_of_lt hT2.2.2.1 hT2.2.2.2.1
  have ht1 := hT1.1
  have ht2 := hT2.1
  have nt1 := ob_ne ht1 ho (by decide)
  have nt2 := ob_ne ht2 ho (by decide)
  by_cases hi1 : i < n1
  · by_cases hj1 : j < n2
    · refine q_aload_n rfl rfl ?_
      refine q_aload_n rfl rfl ?_
      refine q_getO rfl (by assumption) rfl ?_
      refine q_aload_n rfl rfl ?_
      refine q_getO rfl (by assumption) rfl ?_
      refine q_callVR rfl ht1 (as := [.int (nI i)]) rfl rfl (rm (by omega) (by show 21 ≤ w; omega) rfl) (m_row hT1 hi1) ?_
      refine q_putO rfl (by assumption) rfl (by assumption) (by first | rfl | assumption) (fun h12 o12 f12 => ?_)
      replace ht1 := ht1.fr f12 nt1
      replace ht2 := ht2.fr f12 nt2
      have T1 := hT1.frO ho f12 (by decide)
      have T2 := hT2.frO ho f12 (by decide)
      refine q_aload_n rfl rfl ?_
      refine q_aload_n rfl rfl ?_
      refine q_getO rfl (by assumption) rfl ?_
      refine q_aload_n rfl rfl ?_
      refine q_getO rfl (by assumption) rfl ?_
      refine q_callVR rfl ht2 (as := [.int (nI j)]) rfl rfl (rm (by omega) (by show 21 ≤ w; omega) rfl) (m_row T2 hj1) ?_
      refine q_putO rfl (by assumption) rfl (by assumption) (by first | rfl | assumption) (fun h27 o27 f27 => ?_)
      replace ht1 := ht1.fr f27 nt1
      replace ht2 := ht2.fr f27 nt2
      replace T1 := T1.frO o12 f27 (by decide)
      replace T2 := T2.frO o12 f27 (by decide)
      have E1 := T1.2.2.2.2.2.1 i hi1
      have E2 := T2.2.2.2.2.2.1 j hj1
      obtain ⟨pa1, cv1, sv1, he1, hq1, hc1, hs1⟩ := id E1
      obtain ⟨pa2, cv2, sv2, he2, hq2, hc2, hs2⟩ := id E2
      have F := f12.tr f27
      refine q_aload_n rfl rfl ?_
      refine q_getO rfl (by assumption) rfl ?_
      refine q_ifnull rfl ?_
      refine q_aload_n rfl rfl ?_
      refine q_getO rfl (by assumption) rfl ?_
      refine q_ifnull rfl ?_
      refine q_aload_n rfl rfl ?_
      refine q_getO rfl (by assumption) rfl ?_
      refine q_getO rfl (by assumption) rfl ?_
      refine q_aload_n rfl rfl ?_
      refine q_getO rfl (by assumption) rfl ?_
      refine q_getO rfl (by assumption) rfl ?_
      refine q_callSR rfl (by decide) (as := [.ref pa1, .ref pa2]) rfl rfl (rm (by omega) (by show 25 ≤ w; omega) rfl) (m_order hq1 hq2 (by omega) (by show 13 ≤ w - 25; omega)) ?_
      refine q_istore_n rfl (by decide) ?_
      refine q_iload_n rfl rfl ?_
      refine q_if_ge rfl (fun c63 => ?_) (fun c63 => ?_)
      · refine q_iload_n rfl rfl ?_
        refine q_if_le rfl (fun c75 => ?_) (fun c75 => ?_)
        · have e0 : wkS es1 n1 es2 n2 i j = (true, true) := by rw [wkS, if_pos hi1, if_pos hj1, if_neg (i32_nlt c63), if_neg (i32_nlt c75)]
          rw [e0]
          refine aW_lv (aW_mono (next_tail true true (fun _ => E1) (fun _ => E2) o27 h6) (fun q h' hq => ?_)) rfl rfl (by repeat' (first | exact inL_n | refine inL_c rfl ?_))
          obtain ⟨v, a1, a2, a3, a4⟩ := hq
          exact ⟨v, a1, a2, a3, F.tr a4⟩
        · refine q_aload_n rfl rfl ?_
          refine q_null rfl ?_
          refine q_putO rfl (by assumption) rfl (by assumption) (by first | rfl | assumption) (fun h80 o80 f80 => ?_)
          replace ht1 := ht1.fr f80 nt1
          replace ht2 := ht2.fr f80 nt2
          have e0 : wkS es1 n1 es2 n2 i j = (false, true) := by rw [wkS, if_pos hi1, if_pos hj1, if_neg (i32_nlt c63), if_pos (i32_lt c75)]
          rw [e0]
          have E2' := E2.fr f80 (NA_ob o27 (by decide) (by decide)) (ob_ne he2 o27 (by decide))
          refine aW_lv (aW_mono (next_tail (e1 := rs1 i) (x1 := es1 i) false true (fun z => absurd z (by decide)) (fun _ => E2') o80 h6) (fun q h' hq => ?_)) rfl rfl (by repeat' (first | exact inL_n | refine inL_c rfl ?_))
          obtain ⟨v, a1, a2, a3, a4⟩ := hq
          exact ⟨v, a1, a2, a3, (F.tr f80).tr a4⟩
      · refine q_aload_n rfl rfl ?_
        refine q_null rfl ?_
        refine q_putO rfl (by assumption) rfl (by assumption) (by first | rfl | assumption) (fun h68 o68 f68 => ?_)
        replace ht1 := ht1.fr f68 nt1
        replace ht2 := ht2.fr f68 nt2
        refine q_goto rfl ?_
        have e0 : wkS es1 n1 es2 n2 i j = (true, false) := by rw [wkS, if_pos hi1, if_pos hj1, if_pos (i32_lt c63)]
        rw [e0]
        have E1' := E1.fr f68 (NA_ob o27 (by decide) (by decide)) (ob_ne he1 o27 (by decide))
        refine aW_lv (aW_mono (next_tail (e2 := rs2 j) (x2 := es2 j) true false (fun _ => E1') (fun z => absurd z (by decide)) o68 h6) (fun q h' hq => ?_)) rfl rfl (by repeat' (first | exact inL_n | refine inL_c rfl ?_))
        obtain ⟨v, a1, a2, a3, a4⟩ := hq
        exact ⟨v, a1, a2, a3, (F.tr f68).tr a4⟩
    · have e0 : wkS es1 n1 es2 n2 i j = (true, false) := by rw [wkS, if_pos hi1, if_neg hj1]
      rw [e0]
      refine q_aload_n rfl rfl ?_
      refine q_aload_n rfl rfl ?_
      refine q_getO rfl (by assumption) rfl ?_
      refine q_aload_n rfl rfl ?_
      refine q_getO rfl (by assumption) rfl ?_
      refine q_callVR rfl ht1 (as := [.int (nI i)]) rfl rfl (rm (by omega) (by show 21 ≤ w; omega) rfl) (m_row hT1 hi1) ?_
      refine q_putO rfl (by assumption) rfl (by assumption) (by first | rfl | assumption) (fun h12 o12 f12 => ?_)
      replace ht1 := ht1.fr f12 nt1
      replace ht2 := ht2.fr f12 nt2
      have T1 := hT1.frO ho f12 (by decide)
      have T2 := hT2.frO ho f12 (by decide)
      refine q_aload_n rfl rfl ?_
      refine q_aload_n rfl rfl ?_
      refine q_getO rfl (by assumption) rfl ?_
      refine q_aload_n rfl rfl ?_
      refine q_getO rfl (by assumption) rfl ?_
      refine q_callVR rfl ht2 (as := [.int (nI j)]) rfl rfl (rm (by omega) (by show 21 ≤ w; omega) rfl) (m_rowN T2 (Or.inr (nI_le (by omega) (by omega)))) ?_
      refine q_putO rfl (by assumption) rfl (by assumption) (by first | rfl | assumption) (fun h27 o27 f27 => ?_)
      replace ht1 := ht1.fr f27 nt1
      replace ht2 := ht2.fr f27 nt2
      replace T1 := T1.frO o12 f27 (by decide)
      have E1 := T1.2.2.2.2.2.1 i hi1
      have F := f12.tr f27
      refine q_aload_n rfl rfl ?_
      refine q_getO rfl (by assumption) rfl ?_
      refine q_ifnull rfl ?_
      refine q_aload_n rfl rfl ?_
      refine q_getO rfl (by assumption) rfl ?_
      refine q_ifnullN rfl ?_
      refine aW_lv (aW_mono (next_tail (e2 := rs2 j) (x2 := es2 j) true false (fun _ => E1) (fun z => absurd z (by decide)) o27 h6) (fun q h' hq => ?_)) rfl rfl (by repeat' (first | exact inL_n | refine inL_c rfl ?_))
      obtain ⟨v, a1, a2, a3, a4⟩ := hq
      exact ⟨v, a1, a2, a3, F.tr a4⟩
  · by_cases hj1 : j < n2
    · have e0 : wkS es1 n1 es2 n2 i j = (false, true) := by rw [wkS, if_neg hi1, decide_eq_true hj1]
      rw [e0]
      refine q_aload_n rfl rfl ?_
      refine q_aload_n rfl rfl ?_
      refine q_getO rfl (by assumption) rfl ?_
      refine q_aload_n rfl rfl ?_
      refine q_getO rfl (by assumption) rfl ?_
      refine q_callVR rfl ht1 (as := [.int (nI i)]) rfl rfl (rm (by omega) (by show 21 ≤ w; omega) rfl) (m_rowN hT1 (Or.inr (nI_le (by omega) (by omega)))) ?_
      refine q_putO rfl (by assumption) rfl (by assumption) (by first | rfl | assumption) (fun h12 o12 f12 => ?_)
      replace ht1 := ht1.fr f12 nt1
      replace ht2 := ht2.fr f12 nt2
      have T2 := hT2.frO ho f12 (by decide)
      refine q_aload_n rfl rfl ?_
      refine q_aload_n rfl rfl ?_
      refine q_getO rfl (by assumption) rfl ?_
      refine q_aload_n rfl rfl ?_
      refine q_getO rfl (by assumption) rfl ?_
      refine q_callVR rfl ht2 (as := [.int (nI j)]) rfl rfl (rm (by omega) (by show 21 ≤ w; omega) rfl) (m_row T2 hj1) ?_
      refine q_putO rfl (by assumption) rfl (by assumption) (by first | rfl | assumption) (fun h27 o27 f27 => ?_)
      replace ht1 := ht1.fr f27 nt1
      replace ht2 := ht2.fr f27 nt2
      replace T2 := T2.frO o12 f27 (by decide)
      have E2 := T2.2.2.2.2.2.1 j hj1
      have F := f12.tr f27
      refine q_aload_n rfl rfl ?_
      refine q_getO rfl (by assumption) rfl ?_
      refine q_ifnullN rfl ?_
      refine aW_lv (aW_mono (next_tail (e1 := rs1 i) (x1 := es1 i) false true (fun z => absurd z (by decide)) (fun _ => E2) o27 h6) (fun q h' hq => ?_)) rfl rfl (by repeat' (first | exact inL_n | refine inL_c rfl ?_))
      obtain ⟨v, a1, a2, a3, a4⟩ := hq
      exact ⟨v, a1, a2, a3, F.tr a4⟩
    · have e0 : wkS es1 n1 es2 n2 i j = (false, false) := by rw [wkS, if_neg hi1, decide_eq_false hj1]
      rw [e0]
      refine q_aload_n rfl rfl ?_
      refine q_aload_n rfl rfl ?_
      refine q_getO rfl (by assumption) rfl ?_
      refine q_aload_n rfl rfl ?_
      refine q_getO rfl (by assumption) rfl ?_
      refine q_callVR rfl ht1 (as := [.int (nI i)]) rfl rfl (rm (by omega) (by show 21 ≤ w; omega) rfl) (m_rowN hT1 (Or.inr (nI_le (by omega) (by omega)))) ?_
      refine q_putO rfl (by assumption) rfl (by assumption) (by first | rfl | assumption) (fun h12 o12 f12 => ?_)
      replace ht1 := ht1.fr f12 nt1
      replace ht2 := ht2.fr f12 nt2
      have T2 := hT2.frO ho f12 (by decide)
      refine q_aload_n rfl rfl ?_
      refine q_aload_n rfl rfl ?_
      refine q_getO rfl (by assumption) rfl ?_
      refine q_aload_n rfl rfl ?_
      refine q_getO rfl (by assumption) rfl ?_
      refine q_callVR rfl ht2 (as := [.int (nI j)]) rfl rfl (rm (by omega) (by show 21 ≤ w; omega) rfl) (m_rowN T2 (Or.inr (nI_le (by omega) (by omega)))) ?_
      refine q_putO rfl (by assumption) rfl (by assumption) (by first | rfl | assumption) (fun h27 o27 f27 => ?_)
      replace ht1 := ht1.fr f27 nt1
      replace ht2 := ht2.fr f27 nt2
      have F := f12.tr f27
      refine q_aload_n rfl rfl ?_
      refine q_getO rfl (by assumption) rfl ?_
      refine q_ifnullN rfl ?_
      refine aW_lv (aW_mono (next_tail (e1 := rs1 i) (x1 := es1 i) (e2 := rs2 j) (x2 := es2 j) false false (fun z => absurd z (by decide)) (fun z => absurd z (by decide)) o27 h6) (fun q h' hq => ?_)) rfl rfl (by repeat' (first | exact inL_n | refine inL_c rfl ?_))
      obtain ⟨v, a1, a2, a3, a4⟩ := hq
      exact ⟨v, a1, a2, a3, F.tr a4⟩
end WALK
