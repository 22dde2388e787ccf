/-! Walk -/
def vE (b : Bool) (e : Nat) : Value := if b then .ref e else .null
section WALK
variable {d w : Nat} {h : ai_H} {wk t1 t2 i j pa e1 e2 : Nat} {x1 x2 : Ent}
theorem next_tail (l r : Bool) (hL : l = true → EntAt h e1 x1) (hR : r = true → EntAt h e2 x2) (ho : Ob h wk 9 [.ref t1, .ref t2, .int (nI i), .int (nI j), .ref pa, vE l e1, vE r e2]) (h6 : 6 ≤ wk) : aW aiP 93 d w 83 [(0, .ref wk)] [] h (fun q h' => ∃ v, q = .inl v ∧ v = some (.int (zB (l || r))) ∧ (∃ pa', Ob h' wk 9 [.ref t1, .ref t2, .int (nI (i + l.toNat)), .int (nI (j + r.toNat)), .ref pa', vE l e1, vE r e2] ∧ (r = true → BA h' pa' x2.path) ∧ (l = true → r = false → BA h' pa' x1.path)) ∧ Fr (fun z => z = wk) 0 0 h h') := by
  have na : NA (fun z => z = wk) h := NA_ob ho (by decide) (by decide)
  cases l with
  | false =>
    cases r with
    | false =>
      refine q_aload_n rfl rfl ?_
      refine q_getO rfl (by assumption) rfl ?_
      refine q_ifnullN rfl ?_
      refine q_aload_n rfl rfl ?_
      refine q_getO rfl (by assumption) rfl ?_
      refine q_ifnullN rfl ?_
      refine q_aload_n rfl rfl ?_
      refine q_getO rfl (by assumption) rfl ?_
      refine q_ifnonnullN rfl ?_
      refine q_aload_n rfl rfl ?_
      refine q_getO rfl (by assumption) rfl ?_
      refine q_ifnullN rfl ?_
      refine q_iconst rfl ?_
      refine q_ireturn rfl rfl ?_
      exact ⟨_, rfl, rfl, ⟨pa, ho, fun z => absurd z (by decide), fun z => absurd z (by decide)⟩, Fr.refl _ _⟩
    | true =>
      obtain ⟨pa2, cv2, sv2, he2, hq2, hc2, hs2⟩ := hR rfl
      have n2 := ob_ne he2 ho (by decide)
      refine q_aload_n rfl rfl ?_
      refine q_getO rfl (by assumption) rfl ?_
      refine q_ifnullN rfl ?_
      refine q_aload_n rfl rfl ?_
      refine q_getO rfl (by assumption) rfl ?_
      refine q_ifnull rfl ?_
      refine q_aload_n rfl rfl ?_
      refine q_aload_n rfl rfl ?_
      refine q_getO rfl (by assumption) rfl ?_
      refine q_getO rfl (by assumption) rfl ?_
      refine q_putO rfl (by assumption) rfl (by assumption) (by first | rfl | assumption) (fun h126 o126 f126 => ?_)
      replace he2 := he2.fr f126 n2
      refine q_aload_n rfl rfl ?_
      refine q_dup rfl rfl ?_
      refine q_getO rfl (by assumption) rfl ?_
      refine q_iconst rfl ?_
      refine q_iadd rfl ?_
      rw [nI_1 j]
      refine q_putO rfl (by assumption) rfl (by assumption) (by first | rfl | assumption) (fun h136 o136 f136 => ?_)
      replace he2 := he2.fr f136 n2
      refine q_aload_n rfl rfl ?_
      refine q_getO rfl (by assumption) rfl ?_
      refine q_ifnonnullN rfl ?_
      refine q_aload_n rfl rfl ?_
      refine q_getO rfl (by assumption) rfl ?_
      refine q_ifnull rfl ?_
      refine q_iconst rfl ?_
      refine q_goto rfl ?_
      refine q_ireturn rfl rfl ?_
      have F := f126.tr f136
      exact ⟨_, rfl, rfl, ⟨pa2, o136, fun _ => hq2.fr F na, fun z => absurd z (by decide)⟩, F⟩
  | true =>
    obtain ⟨pa1, cv1, sv1, he1, hq1, hc1, hs1⟩ := hL rfl
    have n1 := ob_ne he1 ho (by decide)
    cases r with
    | false =>
      refine q_aload_n rfl rfl ?_
      refine q_getO rfl (by assumption) rfl ?_
      refine q_ifnull rfl ?_
      refine q_aload_n rfl rfl ?_
      refine q_aload_n rfl rfl ?_
      refine q_getO rfl (by assumption) rfl ?_
      refine q_getO rfl (by assumption) rfl ?_
      refine q_putO rfl (by assumption) rfl (by assumption) (by first | rfl | assumption) (fun h98 o98 f98 => ?_)
      replace he1 := he1.fr f98 n1
      refine q_aload_n rfl rfl ?_
      refine q_dup rfl rfl ?_
      refine q_getO rfl (by assumption) rfl ?_
      refine q_iconst rfl ?_
      refine q_iadd rfl ?_
      rw [nI_1 i]
      refine q_putO rfl (by assumption) rfl (by assumption) (by first | rfl | assumption) (fun h108 o108 f108 => ?_)
      replace he1 := he1.fr f108 n1
      refine q_aload_n rfl rfl ?_
      refine q_getO rfl (by assumption) rfl ?_
      refine q_ifnullN rfl ?_
      refine q_aload_n rfl rfl ?_
      refine q_getO rfl (by assumption) rfl ?_
      refine q_ifnonnull rfl ?_
      refine q_iconst rfl ?_
      refine q_goto rfl ?_
      refine q_ireturn rfl rfl ?_
      have F := f98.tr f108
      exact ⟨_, rfl, rfl, ⟨pa1, o108, fun z => absurd z (by decide), fun _ _ => hq1.fr F na⟩, F⟩
    | true =>
      obtain ⟨pa2, cv2, sv2, he2, hq2, hc2, hs2⟩ := hR rfl
      have n2 := ob_ne he2 ho (by decide)
      refine q_aload_n rfl rfl ?_
      refine q_getO rfl (by assumption) rfl ?_
      refine q_ifnull rfl ?_
      refine q_aload_n rfl rfl ?_
      refine q_aload_n rfl rfl ?_
      refine q_getO rfl (by assumption) rfl ?_
      refine q_getO rfl (by assumption) rfl ?_
      refine q_putO rfl (by assumption) rfl (by assumption) (by first | rfl | assumption) (fun h98 o98 f98 => ?_)
      replace he1 := he1.fr f98 n1
      replace he2 := he2.fr f98 n2
      refine q_aload_n rfl rfl ?_
      refine q_dup rfl rfl ?_
      refine q_getO rfl (by assumption) rfl ?_
      refine q_iconst rfl ?_
      refine q_iadd rfl ?_
      rw [nI_1 i]
      refine q_putO rfl (by assumption) rfl (by assumption) (by first | rfl | assumption) (fun h108 o108 f108 => ?_)
      replace he1 := he1.fr f108 n1
      replace he2 := he2.fr f108 n2
      refine q_aload_n rfl rfl ?_
      refine q_getO rfl (by assumption) rfl ?_
      refine q_ifnull rfl ?_
      refine q_aload_n rfl rfl ?_
      refine q_aload_n rfl rfl ?_
      refine q_getO rfl (by assumption) rfl ?_
      refine q_getO rfl (by assumption) rfl ?_
      refine q_putO rfl (by assumption) rfl (by assumption) (by first | rfl | assumption) (fun h126 o126 f126 => ?_)
      replace he1 := he1.fr f126 n1
      replace he2 := he2.fr f126 n2
      refine q_aload_n rfl rfl ?_
      refine q_dup rfl rfl ?_
      refine q_getO rfl (by assumption) rfl ?_
      refine q_iconst rfl ?_
      refine q_iadd rfl ?_
      rw [nI_1 j]
      refine q_putO rfl (by assumption) rfl (by assumption) (by first | rfl | assumption) (fun h136 o136 f136 => ?_)
      replace he1 := he1.fr f136 n1
      replace he2 := he2.fr f136 n2
      refine q_aload_n rfl rfl ?_
      refine q_getO rfl (by assumption) rfl ?_
      refine q_ifnonnull rfl ?_
      refine q_iconst rfl ?_
      refine q_goto rfl ?_
      refine q_ireturn rfl rfl ?_
      have F := ((f98.tr f108).tr f126).tr f136
      exact ⟨_, rfl, rfl, ⟨pa2, o136, fun _ => hq2.fr F na, fun _ z => absurd z (by decide)⟩, F⟩
/-- which of the two trees' next entries is taken -/
def wkS (es1 : Nat → Ent) (n1 : Nat) (es2 : Nat → Ent) (n2 i j : Nat) : Bool × Bool := if i < n1 then (if j < n2 then (if ordB (es1 i).path (es2 j).path < 0 then (true, false) else if 0 < ordB (es1 i).path (es2 j).path then (false, true) else (true, true)) else (true, false)) else (false, decide (j < n2))
end WALK
