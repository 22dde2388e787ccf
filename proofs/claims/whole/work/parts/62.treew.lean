/-! Entry and Tree: what changes them -/
/-- no cell of S is a byte[] or an int[] -/
def NA (S : Nat → Prop) (h : ai_H) : Prop := ∀ z, S z → ∀ c, h[z]? = some c → c.1 ≠ 100 ∧ c.1 ≠ 102
theorem NA_1 {h : ai_H} {a tg ln : Nat} {g : Nat → Value} (e : h[a]? = some (tg, ln, g)) (h1 : tg ≠ 100) (h2 : tg ≠ 102) : NA (fun z => z = a) h := by
  intro z hz c' hc
  have hz : z = a := hz
  subst hz
  rw [e] at hc
  rw [← Option.some.inj hc]
  exact ⟨h1, h2⟩
theorem NA_ob {h : ai_H} {a c : Nat} {vs : List Value} (o : Ob h a c vs) (h1 : c ≠ 100) (h2 : c ≠ 102) : NA (fun z => z = a) h := by
  obtain ⟨f, e, _⟩ := o
  exact NA_1 e h1 h2
section FRS
variable {S : Nat → Prop} {k m : Nat} {h h' : ai_H}
theorem BA.fr1 {a : Nat} {bs : List Int32} (b : BA h a bs) (F : Fr S k m h h') (hn : ¬ S a) : BA h' a bs := by
  obtain ⟨⟨f, e, q⟩, l⟩ := b
  exact ⟨⟨f, F.get hn e, q⟩, l⟩
theorem BA.fr {a : Nat} {bs : List Int32} (b : BA h a bs) (F : Fr S k m h h') (hS : NA S h) : BA h' a bs := by
  obtain ⟨⟨f, e, q⟩, l⟩ := id b
  exact b.fr1 F (fun z => (hS a z _ e).1 rfl)
theorem IA.fr1 {a : Nat} {bs : List Int32} (b : IA h a bs) (F : Fr S k m h h') (hn : ¬ S a) : IA h' a bs := by
  obtain ⟨⟨f, e, q⟩, l⟩ := b
  exact ⟨⟨f, F.get hn e, q⟩, l⟩
theorem IA.fr {a : Nat} {bs : List Int32} (b : IA h a bs) (F : Fr S k m h h') (hS : NA S h) : IA h' a bs := by
  obtain ⟨⟨f, e, q⟩, l⟩ := id b
  exact b.fr1 F (fun z => (hS a z _ e).2 rfl)
theorem OB.fr {v : Value} {o : Option (List Int32)} (b : OB h v o) (F : Fr S k m h h') (hS : NA S h) : OB h' v o := by
  cases o with
  | none => exact b
  | some bs =>
    obtain ⟨a, e, q⟩ := b
    exact ⟨a, e, q.fr F hS⟩
theorem OI.fr {v : Value} {o : Option (List Int32)} (b : OI h v o) (F : Fr S k m h h') (hS : NA S h) : OI h' v o := by
  cases o with
  | none => exact b
  | some bs =>
    obtain ⟨a, e, q⟩ := b
    exact ⟨a, e, q.fr F hS⟩
theorem EntAt.fr {e : Nat} {x : Ent} (b : EntAt h e x) (F : Fr S k m h h') (hS : NA S h) (he : ¬ S e) : EntAt h' e x := by
  obtain ⟨pa, cv, sv, h1, h2, h3, h4⟩ := b
  exact ⟨pa, cv, sv, h1.fr F he, h2.fr F hS, h3.fr F hS, h4.fr F hS⟩
theorem OB.isA {v : Value} {o : Option (List Int32)} (b : OB h v o) : ai_isA v = true := by
  cases o with
  | none => have b : v = .null := b; subst b; rfl
  | some bs => obtain ⟨a, rfl, q⟩ := b; rfl
theorem OI.isA {v : Value} {o : Option (List Int32)} (b : OI h v o) : ai_isA v = true := by
  cases o with
  | none => have b : v = .null := b; subst b; rfl
  | some bs => obtain ⟨a, rfl, q⟩ := b; rfl
theorem fitA {t : FieldType} {v : Value} (h : ai_isA v = true) : ai_fit (.array t) v = true := by
  cases v <;> first | rfl | cases h
end FRS
section TRC
variable {d w : Nat} {h : ai_H} {e e' : Nat} {x y : Ent}
theorem m_replaceContent {cv' : Value} {o : Option (List Int32)} (hx : EntAt h e x) (hp : 6 ≤ e) (ho : OB h cv' o) : aW aiP 67 d w 0 [(0, .ref e), (1, cv')] [] h (fun q h' => ∃ v, q = .inl v ∧ v = none ∧ EntAt h' e (x.path, x.kind, x.mode, x.time, x.lock, o, none) ∧ Fr (fun z => z = e) 0 0 h h') := by
  obtain ⟨pa, cv, sv, he, hq, hc, hs⟩ := hx
  have na : NA (fun z => z = e) h := NA_ob he (by decide) (by decide)
  have hA := ho.isA
  have hf5 : ai_fit (aiP.ty 3 5) cv' = true := fitA hA
  refine q_aload_n rfl rfl ?_
  refine q_aload_nA rfl rfl hA ?_
  refine q_putO rfl (by assumption) rfl (by assumption) (by first | rfl | assumption) (fun h2 o2 f2 => ?_)
  refine q_aload_n rfl rfl ?_
  refine q_null rfl ?_
  refine q_putO rfl (by assumption) rfl (by assumption) (by first | rfl | assumption) (fun h7 o7 f7 => ?_)
  refine q_return rfl rfl ?_
  have F := f2.tr f7
  exact ⟨none, rfl, rfl, ⟨pa, cv', .null, o7, hq.fr F na, ho.fr F na, rfl⟩, F⟩
theorem m_copyFrom (hx : EntAt h e x) (hy : EntAt h e' y) (hne : e' ≠ e) (hp : 6 ≤ e) : aW aiP 87 d w 0 [(0, .ref e), (1, .ref e')] [] h (fun q h' => ∃ v, q = .inl v ∧ v = none ∧ EntAt h' e (y.path, y.kind, y.mode, y.time, false, y.cont, y.sum) ∧ Fr (fun z => z = e) 0 0 h h') := by
  obtain ⟨pa, cv, sv, he, hq, hc, hs⟩ := hx
  obtain ⟨pa2, cv2, sv2, he2, hq2, hc2, hs2⟩ := hy
  have na : NA (fun z => z = e) h := NA_ob he (by decide) (by decide)
  have hf5 : ai_fit (aiP.ty 3 5) cv2 = true := fitA hc2.isA
  have hf6 : ai_fit (aiP.ty 3 6) sv2 = true := fitA hs2.isA
  refine q_aload_n rfl rfl ?_
  refine q_aload_n rfl rfl ?_
  refine q_getO rfl (by assumption) rfl ?_
  refine q_putO rfl (by assumption) rfl (by assumption) (by first | rfl | assumption) (fun h5 o5 f5 => ?_)
  replace he2 := he2.fr f5 hne
  refine q_aload_n rfl rfl ?_
  refine q_aload_n rfl rfl ?_
  refine q_getO rfl (by assumption) rfl ?_
  refine q_putO rfl (by assumption) rfl (by assumption) (by first | rfl | assumption) (fun h13 o13 f13 => ?_)
  replace he2 := he2.fr f13 hne
  refine q_aload_n rfl rfl ?_
  refine q_aload_n rfl rfl ?_
  refine q_getO rfl (by assumption) rfl ?_
  refine q_putO rfl (by assumption) rfl (by assumption) (by first | rfl | assumption) (fun h21 o21 f21 => ?_)
  replace he2 := he2.fr f21 hne
  refine q_aload_n rfl rfl ?_
  refine q_aload_n rfl rfl ?_
  refine q_getO rfl (by assumption) rfl ?_
  refine q_putO rfl (by assumption) rfl (by assumption) (by first | rfl | assumption) (fun h29 o29 f29 => ?_)
  replace he2 := he2.fr f29 hne
  refine q_aload_n rfl rfl ?_
  refine q_iconst rfl ?_
  refine q_putO rfl (by assumption) rfl (by assumption) (by first | rfl | assumption) (fun h34 o34 f34 => ?_)
  replace he2 := he2.fr f34 hne
  refine q_aload_n rfl rfl ?_
  refine q_aload_n rfl rfl ?_
  refine q_getO rfl (by assumption) rfl ?_
  refine q_putO rfl (by assumption) rfl (by assumption) (by first | rfl | assumption) (fun h42 o42 f42 => ?_)
  replace he2 := he2.fr f42 hne
  refine q_aload_n rfl rfl ?_
  refine q_aload_n rfl rfl ?_
  refine q_getO rfl (by assumption) rfl ?_
  refine q_putO rfl (by assumption) rfl (by assumption) (by first | rfl | assumption) (fun h50 o50 f50 => ?_)
  replace he2 := he2.fr f50 hne
  refine q_return rfl rfl ?_
  have F := (((((f5.tr f13).tr f21).tr f29).tr f34).tr f42).tr f50
  exact ⟨none, rfl, rfl, ⟨pa2, cv2, sv2, o50, hq2.fr F na, hc2.fr F na, hs2.fr F na⟩, F⟩
end TRC
