/-! rules: calls -/
theorem ai_inv_at {q : ai_I} {pc : Nat} {lv : ai_L} {h : ai_H} {as rest : List Value} (hl : as.length = q.r2) : ai_inv false q pc lv (as.reverse ++ rest) h = some (.inr (.inl (q.r1, as, rest))) := by
  have h1 : (as.reverse ++ rest).take q.r2 = as.reverse := by rw [← hl, ← List.length_reverse, List.take_left']; rfl
  have h2 : (as.reverse ++ rest).drop q.r2 = rest := by rw [← hl, ← List.length_reverse, List.drop_left']; rfl
  unfold ai_inv
  rw [if_neg (by simp; omega), h1, h2, List.reverse_reverse]
  rfl
theorem ai_invV_at {q : ai_I} {pc : Nat} {lv : ai_L} {h : ai_H} {a t n : Nat} {f : Nat → Value} {as rest : List Value} (hl : as.length + 1 = q.r2) (ha : h[a]? = some (t, n, f)) (hv : q.rv = .retAddr t) : ai_inv true q pc lv (as.reverse ++ .ref a :: rest) h = some (.inr (.inl (q.r1, .ref a :: as, rest))) := by
  have h0 : as.reverse ++ .ref a :: rest = (Value.ref a :: as).reverse ++ rest := by simp
  have hl2 : (Value.ref a :: as).length = q.r2 := hl
  have h1 : ((Value.ref a :: as).reverse ++ rest).take q.r2 = (Value.ref a :: as).reverse := by rw [← hl2, ← List.length_reverse, List.take_left']; rfl
  have h2 : ((Value.ref a :: as).reverse ++ rest).drop q.r2 = rest := by rw [← hl2, ← List.length_reverse, List.drop_left']; rfl
  rw [h0]
  unfold ai_inv
  rw [if_neg (by simp at hl2 ⊢; omega), h1, h2, List.reverse_reverse]
  simp [ha, hv]
section AICR
variable {P : ai_P} {mid d w pc len m' n : Nat} {rv : Value} {lv : ai_L} {st : List Value} {h : ai_H} {r : (Option Value ⊕ Nat) × ai_H}
theorem r_min {z : Nat} {x y : Int32} (ht : P.tab mid pc = some (.invokestatic z, len, 5002, n, rv)) (hd : 1 ≤ d) (hw : ai_wt st + 13 ≤ w) (K : ai_Runs P mid d w (pc + 3) lv (.int (if y < x then y else x) :: st) h r) : ai_Runs P mid d w pc lv (.int y :: .int x :: st) h r :=
  ai_Runs.next (pc' := pc + 3) (lv' := lv) (st' := .int (if y < x then y else x) :: st) (x := .inl ()) ht (by simp only [ai_ex, ai_I.ins, ai_I.r1]; simp [ai_math, hd, hw, ai_nx]) K
theorem r_max {z : Nat} {x y : Int32} (ht : P.tab mid pc = some (.invokestatic z, len, 5003, n, rv)) (hd : 1 ≤ d) (hw : ai_wt st + 13 ≤ w) (K : ai_Runs P mid d w (pc + 3) lv (.int (if x < y then y else x) :: st) h r) : ai_Runs P mid d w pc lv (.int y :: .int x :: st) h r :=
  ai_Runs.next (pc' := pc + 3) (lv' := lv) (st' := .int (if x < y then y else x) :: st) (x := .inl ()) ht (by simp only [ai_ex, ai_I.ins, ai_I.r1]; simp [ai_math, hd, hw, ai_nx]) K
theorem r_maxL {z : Nat} {x y : Int64} (ht : P.tab mid pc = some (.invokestatic z, len, 5004, n, rv)) (hd : 1 ≤ d) (hw : ai_wt st + 15 ≤ w) (K : ai_Runs P mid d w (pc + 3) lv (.long (if y < x then x else y) :: st) h r) : ai_Runs P mid d w pc lv (.long y :: .long x :: st) h r :=
  ai_Runs.next (pc' := pc + 3) (lv' := lv) (st' := .long (if y < x then x else y) :: st) (x := .inl ()) ht (by simp only [ai_ex, ai_I.ins, ai_I.r1]; simp [ai_math, hd, hw, ai_nx]) K
theorem r_objInit {z a : Nat} (ht : P.tab mid pc = some (.invokespecial z, len, 5000, n, rv)) (hd : 1 ≤ d) (hw : 20 ≤ w) (hs : ai_wt st ≤ 8) (K : ai_Runs P mid d w (pc + 3) lv st h r) : ai_Runs P mid d w pc lv (.ref a :: st) h r :=
  ai_Runs.next (pc' := pc + 3) (lv' := lv) (st' := st) (x := .inl ()) ht (by simp only [ai_ex, ai_I.ins, ai_I.r1]; simp [hd, hw, hs, ai_nx]) K
/-- the room that a call needs -/
def roomC (P : ai_P) (m' d w : Nat) (as rest : List Value) : Prop := d ≠ 0 ∧ 8 + ((P.mth m').maxL + 11) ≤ w ∧ ai_wt rest ≤ 8 ∧ ai_wt as ≤ (P.mth m').maxL
theorem rm {as rest : List Value} (h1 : 1 ≤ d) (h2 : 8 + ((P.mth m').maxL + 11) ≤ w) (h3 : (Nat.ble (ai_wt rest) 8 && Nat.ble (ai_wt as) (P.mth m').maxL) = true) : roomC P m' d w as rest := by
  simp only [Bool.and_eq_true, Nat.ble_eq] at h3
  exact ⟨by omega, h2, h3.1, h3.2⟩
theorem roomC.no {as rest : List Value} (h : roomC P m' d w as rest) : ¬ (d = 0 ∨ w < 8 + ((P.mth m').maxL + 11) ∨ 8 < ai_wt rest ∨ (P.mth m').maxL < ai_wt as) := by
  obtain ⟨h1, h2, h3, h4⟩ := h
  omega
theorem r_callS {z : Nat} {as rest : List Value} {v : Option Value} {h1 : ai_H} (ht : P.tab mid pc = some (.invokestatic z, len, m', n, rv)) (hm : ¬ (5001 ≤ m' ∧ m' ≤ 5004)) (hst : st = as.reverse ++ rest) (hl : as.length = n) (hR : roomC P m' d w as rest) (C : ai_Runs P m' (d - 1) (w - (8 + ((P.mth m').maxL + 11))) 0 (lv_args 0 as) [] h (.inl v, h1)) (K : ai_Runs P mid d w (pc + 3) lv (v.toList ++ rest) h1 r) : ai_Runs P mid d w pc lv st h r := by
  subst hst
  refine ai_Runs.call ht ?_ hR.no C K
  have h1 : ¬ m' = 5001 := fun e => hm (by omega)
  have h2 : ¬ (5002 ≤ m' ∧ m' ≤ 5004) := fun e => hm (by omega)
  simp only [ai_ex, ai_I.ins, ai_I.r1]
  rw [if_neg h1, if_neg h2]
  exact ai_inv_at (q := (.invokestatic z, len, m', n, rv)) hl
theorem r_callV {z a t nn : Nat} {f : Nat → Value} {as rest : List Value} {v : Option Value} {h1 : ai_H} (ht : P.tab mid pc = some (.invokevirtual z, len, m', n, .retAddr t)) (ha : h[a]? = some (t, nn, f)) (hst : st = as.reverse ++ .ref a :: rest) (hl : as.length + 1 = n) (hR : roomC P m' d w (.ref a :: as) rest) (C : ai_Runs P m' (d - 1) (w - (8 + ((P.mth m').maxL + 11))) 0 (lv_args 0 (.ref a :: as)) [] h (.inl v, h1)) (K : ai_Runs P mid d w (pc + 3) lv (v.toList ++ rest) h1 r) : ai_Runs P mid d w pc lv st h r := by
  subst hst
  refine ai_Runs.call ht ?_ hR.no C K
  simp only [ai_ex, ai_I.ins]
  exact ai_invV_at (q := (.invokevirtual z, len, m', n, .retAddr t)) (pc := pc) (lv := lv) hl ha rfl
theorem r_callI {z a : Nat} {as rest : List Value} {v : Option Value} {h1 : ai_H} (ht : P.tab mid pc = some (.invokespecial z, len, m', n, rv)) (hm : ¬ m' = 5000) (hst : st = as.reverse ++ .ref a :: rest) (hl : as.length + 1 = n) (hR : roomC P m' d w (.ref a :: as) rest) (C : ai_Runs P m' (d - 1) (w - (8 + ((P.mth m').maxL + 11))) 0 (lv_args 0 (.ref a :: as)) [] h (.inl v, h1)) (K : ai_Runs P mid d w (pc + 3) lv (v.toList ++ rest) h1 r) : ai_Runs P mid d w pc lv st h r := by
  subst hst
  refine ai_Runs.call ht ?_ hR.no C K
  have h0 : as.reverse ++ .ref a :: rest = (Value.ref a :: as).reverse ++ rest := by simp
  have hl2 : (Value.ref a :: as).length = n := hl
  have h1 : ((Value.ref a :: as).reverse ++ rest).take n = (Value.ref a :: as).reverse := by rw [← hl2, ← List.length_reverse, List.take_left']; rfl
  simp only [ai_ex, ai_I.ins, ai_I.r1, ai_I.r2]
  rw [if_neg hm, h0, h1, List.reverse_reverse]
  exact ai_inv_at (q := (.invokespecial z, len, m', n, rv)) hl2
end AICR
