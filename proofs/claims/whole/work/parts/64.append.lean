/-! Tree.append; a row of a tree set anew -/
def updE (es : Nat → Ent) (j : Nat) (y : Ent) : Nat → Ent := fun i => if i = j then y else es i
section APP
variable {d w : Nat} {t ra cap n : Nat} {rs : Nat → Nat} {es : Nat → Ent} {h h' : ai_H}
theorem TreeAt.ne (ht : TreeAt h t ra cap rs n es) : ¬ t = ra ∧ (∀ j, j < cap → ¬ rs j = ra) ∧ ∀ j, j < cap → ¬ rs j = t := by
  obtain ⟨h1, ⟨f, hf, hf2⟩, h2, h3, h4, h5, h7⟩ := ht
  refine ⟨ob_nec h1 hf (by decide), fun j hj => ?_, fun j hj => ?_⟩
  · obtain ⟨x, pa, cv, sv, ho, _⟩ := h7 j hj
    exact ob_nec ho hf (by decide)
  · obtain ⟨x, pa, cv, sv, ho, _⟩ := h7 j hj
    exact ob_ne ho h1 (by decide)
theorem TreeAt.na (ht : TreeAt h t ra cap rs n es) {j : Nat} (hj : j < cap) : NA (fun z => z = rs j) h := by
  obtain ⟨h1, ⟨f, hf, hf2⟩, h2, h3, h4, h5, h7⟩ := ht
  obtain ⟨x, pa, cv, sv, ho, _⟩ := h7 j hj
  exact NA_ob ho (by decide) (by decide)
theorem TreeAt.na3 (ht : TreeAt h t ra cap rs n es) {j : Nat} (hj : j < cap) : NA (fun z => z = ra ∨ z = t ∨ z = rs j) h := by
  obtain ⟨h1, ⟨f, hf, hf2⟩, h2, h3, h4, h5, h7⟩ := id ht
  intro z hz c hc
  rcases hz with rfl | rfl | rfl
  · exact NA_1 hf (by decide) (by decide) _ rfl c hc
  · exact NA_ob h1 (by decide) (by decide) _ rfl c hc
  · exact ht.na hj _ rfl c hc
theorem TreeAt.row (ht : TreeAt h t ra cap rs n es) {j k m : Nat} {y : Ent} (hj : j < n) (F : Fr (fun z => z = rs j) k m h h') (hy : EntAt h' (rs j) y) : TreeAt h' t ra cap rs n (updE es j y) := by
  obtain ⟨htr, hrr, hrt⟩ := ht.ne
  have hjc : j < cap := Nat.lt_of_lt_of_le hj ht.2.2.1
  have na := ht.na hjc
  obtain ⟨h1, ⟨f, hf, hf2⟩, h2, h3, h4, h5, h7⟩ := ht
  refine ⟨h1.fr F (fun z => hrt j hjc z.symm), ⟨f, F.get (fun z => hrr j hjc z.symm) hf, hf2⟩, h2, h3, h4, fun i hi => ?_, fun i hi => ?_⟩
  · simp only [updE]
    by_cases hij : i = j
    · subst hij
      rw [if_pos rfl]
      exact hy
    · rw [if_neg hij]
      exact (h5 i hi).fr F na (fun z => hij (h4 _ _ (by omega) hjc z))
  · by_cases hij : i = j
    · subst hij
      exact ⟨y, hy⟩
    · obtain ⟨x, hx⟩ := h7 i hi
      exact ⟨x, hx.fr F na (fun z => hij (h4 _ _ hi hjc z))⟩
theorem TreeAt.congr {es' : Nat → Ent} (ht : TreeAt h t ra cap rs n es) (he : ∀ j, j < n → es j = es' j) : TreeAt h t ra cap rs n es' := by
  obtain ⟨h1, h0, h2, h3, h4, h5, h7⟩ := ht
  exact ⟨h1, h0, h2, h3, h4, fun j hj => he j hj ▸ h5 j hj, h7⟩
theorem rsI_last (rs : Nat → Nat) (n : Nat) : rsI rs n n = rs := by
  funext j
  simp only [rsI, shf]
  by_cases h : j = n
  · rw [if_pos h, h]
  · rw [if_neg h, if_neg (by omega)]
def apE (y : Ent) : Ent := (y.path, y.kind, y.mode, y.time, false, y.cont, y.sum)
theorem m_append {e' : Nat} {y : Ent} (ht : TreeAt h t ra cap rs n es) (hn : n < cap) (hy : EntAt h e' y) (hne : ¬ e' = rs n) (h6 : 6 ≤ t) (h6a : 6 ≤ ra) (h6r : ∀ j, j < cap → 6 ≤ rs j) (hd : 2 ≤ d) (hw : 45 ≤ w) : aW aiP 86 d w 0 [(0, .ref t), (1, .ref e')] [] h (fun q h' => ∃ v, q = .inl v ∧ v = some (.ref (rs n)) ∧ TreeAt h' t ra cap rs (n + 1) (updE es n (apE y)) ∧ Fr (fun z => z = ra ∨ z = t ∨ z = rs n) 0 0 h h') := by
  have na := ht.na3 hn
  have h1 := ht.1
  obtain ⟨f0, hf0, _⟩ := ht.2.1
  obtain ⟨pa, cv, sv, ho, hq, hc, hs⟩ := id hy
  have hg := m_grow (d := d - 1) (w := w - 23) (p := n) ht hn (Nat.le_refl _) h6 h6a h6r (by omega) (by omega)
  refine q_aload_n rfl rfl ?_
  refine q_aload_n rfl rfl ?_
  refine q_getO rfl (by assumption) rfl ?_
  refine q_callV rfl h1 (as := [.int (nI n)]) rfl rfl (rm (by omega) (by show 23 ≤ w; omega) rfl) hg (fun v hA R => ?_)
  obtain ⟨rfl, ⟨x, hx1, hx2, hx3, tA⟩, fA⟩ := R
  rw [rsI_last] at tA
  have yA := hy.fr fA na (fun z => z.elim (ob_nec ho hf0 (by decide)) (fun z => z.elim (ob_ne ho h1 (by decide)) hne))
  have xA := tA.2.2.2.2.2.1 n (Nat.lt_succ_self n)
  obtain ⟨pa3, cv3, sv3, ho3, _⟩ := id xA
  refine q_astore_n rfl (by decide) ?_
  refine q_aload_n rfl rfl ?_
  refine q_ifnull rfl ?_
  refine q_aload_n rfl rfl ?_
  refine q_aload_n rfl rfl ?_
  refine q_callV rfl ho3 (as := [.ref e']) rfl rfl (rm (by omega) (by show 21 ≤ w; omega) rfl) (m_copyFrom xA yA hne (h6r n hn)) (fun v hB R => ?_)
  obtain ⟨rfl, xB, fB⟩ := R
  refine q_aload_n rfl rfl ?_
  refine q_areturn rfl rfl rfl ?_
  refine ⟨_, rfl, rfl, (tA.row (Nat.lt_succ_self n) fB xB).congr (fun j hj => ?_), fA.tr (fB.sub (fun z q => Or.inr (Or.inr q)))⟩
  simp only [updE, esI]
  by_cases hjn : j = n
  · rw [if_pos hjn, if_pos hjn]
    rfl
  · rw [if_neg hjn, if_neg hjn, if_neg hjn, if_pos (by omega)]
end APP
