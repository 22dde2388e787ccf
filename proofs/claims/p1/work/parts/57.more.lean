/-! new objects, copies and calls over runs with ends -/
theorem sz_app (h : ai_H) (c : ai_C) : ai_sz (h ++ [c]) = ai_sz h + c.2.1 := by simp [ai_sz]
theorem fr_app (h : ai_H) (c : ai_C) : Fr (fun _ => False) 1 c.2.1 h (h ++ [c]) := by
  refine ⟨by simp, by simp, by rw [sz_app]; exact Nat.le_refl _, fun b hb _ => ?_⟩
  exact List.getElem?_append_left hb
theorem get_app (h : ai_H) (c : ai_C) : (h ++ [c])[h.length]? = some c := by simp
section MORE
variable {P : ai_P} {mid d w pc len r1 r2 m' n : Nat} {rv : Value} {lv : ai_L} {st : List Value} {h : ai_H} {Q : (Option Value ⊕ Nat) → ai_H → Prop} {r : (Option Value ⊕ Nat) × ai_H}
theorem q_new {z : Nat} (ht : P.tab mid pc = some (.new z, len, r1, r2, rv)) (h9 : ¬ r2 = 9999) (K : ∀ h', Ob h' h.length r1 ((List.range r2).map (fun j => defaultValue (P.ty r1 j))) → Fr (fun _ => False) 1 r2 h h' → h'.length = h.length + 1 → aW P mid d w (pc + 3) lv (.ref h.length :: st) h' Q) : aW P mid d w pc lv st h Q := by
  obtain ⟨o, hZ, C, q⟩ := K (h ++ [(r1, r2, fun j => defaultValue (P.ty r1 j))]) ⟨fun j => defaultValue (P.ty r1 j), by simp, fun j hj => by simp at hj; simp [List.getD_eq_getElem?_getD, hj]⟩ (fr_app h _) (by simp)
  refine ⟨o, hZ, ai_Runs.next (pc' := pc + 3) (lv' := lv) (st' := .ref h.length :: st) (x := .inr (.inr (r1, r2, fun j => defaultValue (P.ty r1 j)))) ht ?_ C, q⟩
  simp only [ai_ex]
  rw [if_neg h9]
  rfl
theorem q_newa {t : ArrayType} (ht : P.tab mid pc = some (.newarray t, len, r1, r2, rv)) (hn : n ≤ 50000000) (K : ∀ h', h'[h.length]? = some (r1, n, fun _ => defaultValue (newarray.typeOf t)) → Fr (fun _ => False) 1 n h h' → h'.length = h.length + 1 → aW P mid d w (pc + 2) lv (.ref h.length :: st) h' Q) : aW P mid d w pc lv (.int (nI n) :: st) h Q := by
  obtain ⟨o, hZ, C, q⟩ := K (h ++ [(r1, n, fun _ => defaultValue (newarray.typeOf t))]) (get_app h _) (fr_app h _) (by simp)
  refine ⟨o, hZ, ai_Runs.next (pc' := pc + 2) (lv' := lv) (st' := .ref h.length :: st) (x := .inr (.inr (r1, n, fun _ => defaultValue (newarray.typeOf t)))) ht ?_ C, q⟩
  simp only [ai_ex, ai_newa, nI_toInt (n := n) (by omega), nI_clamp (n := n) (by omega)]
  rw [if_pos (by simp; omega)]
  rfl
theorem q_anewa {z : Nat} (ht : P.tab mid pc = some (.anewarray z, len, r1, r2, rv)) (hn : n ≤ 50000000) (K : ∀ h', h'[h.length]? = some (r1, n, fun _ => .null) → Fr (fun _ => False) 1 n h h' → h'.length = h.length + 1 → aW P mid d w (pc + 3) lv (.ref h.length :: st) h' Q) : aW P mid d w pc lv (.int (nI n) :: st) h Q := by
  obtain ⟨o, hZ, C, q⟩ := K (h ++ [(r1, n, fun _ => .null)]) (get_app h _) (fr_app h _) (by simp)
  refine ⟨o, hZ, ai_Runs.next (pc' := pc + 3) (lv' := lv) (st' := .ref h.length :: st) (x := .inr (.inr (r1, n, fun _ => .null))) ht ?_ C, q⟩
  simp only [ai_ex, ai_newa, nI_toInt (n := n) (by omega), nI_clamp (n := n) (by omega)]
  rw [if_pos (by simp; omega)]
  rfl
theorem q_callS {z : Nat} {as rest : List Value} {R : Option Value → ai_H → Prop} (ht : P.tab mid pc = some (.invokestatic z, len, m', n, rv)) (hm : ¬ (5001 ≤ m' ∧ m' ≤ 5004)) (hst : st = as.reverse ++ rest) (hl : as.length = n) (hR : roomC P m' d w as rest) (C : aW P m' (d - 1) (w - (8 + ((P.mth m').maxL + 11))) 0 (lv_args 0 as) [] h (fun o h1 => ∃ v, o = .inl v ∧ R v h1)) (K : ∀ v h1, R v h1 → aW P mid d w (pc + 3) lv (v.toList ++ rest) h1 Q) : aW P mid d w pc lv st h Q := by
  obtain ⟨o, h1, C, v, rfl, q⟩ := C
  obtain ⟨o2, h2, K, q2⟩ := K v h1 q
  exact ⟨o2, h2, r_callS ht hm hst hl hR C K, q2⟩
theorem q_callV {z a t : Nat} {vs : List Value} {as rest : List Value} {R : Option Value → ai_H → Prop} (ht : P.tab mid pc = some (.invokevirtual z, len, m', n, .retAddr t)) (ha : Ob h a t vs) (hst : st = as.reverse ++ .ref a :: rest) (hl : as.length + 1 = n) (hR : roomC P m' d w (.ref a :: as) rest) (C : aW P m' (d - 1) (w - (8 + ((P.mth m').maxL + 11))) 0 (lv_args 0 (.ref a :: as)) [] h (fun o h1 => ∃ v, o = .inl v ∧ R v h1)) (K : ∀ v h1, R v h1 → aW P mid d w (pc + 3) lv (v.toList ++ rest) h1 Q) : aW P mid d w pc lv st h Q := by
  obtain ⟨f, e, _⟩ := ha
  obtain ⟨o, h1, C, v, rfl, q⟩ := C
  obtain ⟨o2, h2, K, q2⟩ := K v h1 q
  exact ⟨o2, h2, r_callV ht e hst hl hR C K, q2⟩
theorem q_callI {z a : Nat} {as rest : List Value} {R : Option Value → ai_H → Prop} (ht : P.tab mid pc = some (.invokespecial z, len, m', n, rv)) (hm : ¬ m' = 5000) (hst : st = as.reverse ++ .ref a :: rest) (hl : as.length + 1 = n) (hR : roomC P m' d w (.ref a :: as) rest) (C : aW P m' (d - 1) (w - (8 + ((P.mth m').maxL + 11))) 0 (lv_args 0 (.ref a :: as)) [] h (fun o h1 => ∃ v, o = .inl v ∧ R v h1)) (K : ∀ v h1, R v h1 → aW P mid d w (pc + 3) lv (v.toList ++ rest) h1 Q) : aW P mid d w pc lv st h Q := by
  obtain ⟨o, h1, C, v, rfl, q⟩ := C
  obtain ⟨o2, h2, K, q2⟩ := K v h1 q
  exact ⟨o2, h2, r_callI ht hm hst hl hR C K, q2⟩
theorem q_callSR {z : Nat} {as rest : List Value} {v : Option Value} {h1 : ai_H} (ht : P.tab mid pc = some (.invokestatic z, len, m', n, rv)) (hm : ¬ (5001 ≤ m' ∧ m' ≤ 5004)) (hst : st = as.reverse ++ rest) (hl : as.length = n) (hR : roomC P m' d w as rest) (C : ai_Runs P m' (d - 1) (w - (8 + ((P.mth m').maxL + 11))) 0 (lv_args 0 as) [] h (.inl v, h1)) (K : aW P mid d w (pc + 3) lv (v.toList ++ rest) h1 Q) : aW P mid d w pc lv st h Q := by
  obtain ⟨o2, h2, K, q2⟩ := K
  exact ⟨o2, h2, r_callS ht hm hst hl hR C K, q2⟩
theorem r_callVO {z a t : Nat} {vs : List Value} {as rest : List Value} {v : Option Value} {h1 : ai_H} (ht : P.tab mid pc = some (.invokevirtual z, len, m', n, .retAddr t)) (ha : Ob h a t vs) (hst : st = as.reverse ++ .ref a :: rest) (hl : as.length + 1 = n) (hR : roomC P m' d w (.ref a :: as) rest) (C : ai_Runs P m' (d - 1) (w - (8 + ((P.mth m').maxL + 11))) 0 (lv_args 0 (.ref a :: as)) [] h (.inl v, h1)) (K : ai_Runs P mid d w (pc + 3) lv (v.toList ++ rest) h1 r) : ai_Runs P mid d w pc lv st h r := by
  obtain ⟨f, e, _⟩ := ha
  exact r_callV ht e hst hl hR C K
theorem q_callVR {z a t : Nat} {vs : List Value} {as rest : List Value} {v : Option Value} {h1 : ai_H} (ht : P.tab mid pc = some (.invokevirtual z, len, m', n, .retAddr t)) (ha : Ob h a t vs) (hst : st = as.reverse ++ .ref a :: rest) (hl : as.length + 1 = n) (hR : roomC P m' d w (.ref a :: as) rest) (C : ai_Runs P m' (d - 1) (w - (8 + ((P.mth m').maxL + 11))) 0 (lv_args 0 (.ref a :: as)) [] h (.inl v, h1)) (K : aW P mid d w (pc + 3) lv (v.toList ++ rest) h1 Q) : aW P mid d w pc lv st h Q := by
  obtain ⟨o2, h2, K, q2⟩ := K
  exact ⟨o2, h2, r_callVO ht ha hst hl hR C K, q2⟩
theorem q_objInit {z a : Nat} (ht : P.tab mid pc = some (.invokespecial z, len, 5000, n, rv)) (hd : 1 ≤ d) (hw : 20 ≤ w) (hs : ai_wt st ≤ 8) (K : aW P mid d w (pc + 3) lv st h Q) : aW P mid d w pc lv (.ref a :: st) h Q := by
  obtain ⟨o2, h2, K, q2⟩ := K
  exact ⟨o2, h2, r_objInit ht hd hw hs K, q2⟩
theorem q_maxL {z : Nat} {x y : Int64} (ht : P.tab mid pc = some (.invokestatic z, len, 5004, n, rv)) (hd : 1 ≤ d) (hw : ai_wt st + 15 ≤ w) (K : aW P mid d w (pc + 3) lv (.long (if y < x then x else y) :: st) h Q) : aW P mid d w pc lv (.long y :: .long x :: st) h Q := by
  obtain ⟨o2, h2, K, q2⟩ := K
  exact ⟨o2, h2, r_maxL ht hd hw K, q2⟩
theorem q_aload_nA {i : Fin 4} {v : Value} (ht : P.tab mid pc = some (.aload_n i, len, r1, r2, rv)) (hl : lv.lookup (i : Nat) = some v) (hv : ai_isA v = true) (K : aW P mid d w (pc + 1) lv (v :: st) h Q) : aW P mid d w pc lv st h Q := by
  obtain ⟨o2, h2, K, q2⟩ := K
  exact ⟨o2, h2, ai_Runs.next (pc' := pc + 1) (lv' := lv) (st' := v :: st) (x := .inl ()) ht (by simp [ai_ex, ai_ld, hl, hv, ai_nx]) K, q2⟩
end MORE
theorem Fr.tr {S : Nat → Prop} {k m k' m' : Nat} {h h1 h2 : ai_H} (a : Fr S k m h h1) (b : Fr S k' m' h1 h2) : Fr S (k + k') (m + m') h h2 := (a.trans b).mono (fun _ _ z => z.elim id id) (Nat.le_refl _) (Nat.le_refl _)
