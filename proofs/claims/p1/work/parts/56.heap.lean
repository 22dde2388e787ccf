/-! objects on the heap, and what changes -/
def Ob (h : ai_H) (a c : Nat) (vs : List Value) : Prop := ∃ f : Nat → Value, h[a]? = some (c, vs.length, f) ∧ ∀ j, j < vs.length → f j = vs.getD j .null
/-- h' is h but for the cells in S; at most k new cells with m slots -/
def Fr (S : Nat → Prop) (k m : Nat) (h h' : ai_H) : Prop := h.length ≤ h'.length ∧ h'.length ≤ h.length + k ∧ ai_sz h' ≤ ai_sz h + m ∧ ∀ b, b < h.length → ¬ S b → h'[b]? = h[b]?
theorem Fr.refl (S : Nat → Prop) (h : ai_H) : Fr S 0 0 h h := ⟨Nat.le_refl _, Nat.le_refl _, Nat.le_refl _, fun _ _ _ => rfl⟩
theorem Fr.trans {S S' : Nat → Prop} {k m k' m' : Nat} {h h1 h2 : ai_H} (a : Fr S k m h h1) (b : Fr S' k' m' h1 h2) : Fr (fun z => S z ∨ S' z) (k + k') (m + m') h h2 := by
  obtain ⟨a1, a2, a3, a4⟩ := a
  obtain ⟨b1, b2, b3, b4⟩ := b
  refine ⟨by omega, by omega, by omega, fun z hz hn => ?_⟩
  rw [b4 z (by omega) (fun q => hn (Or.inr q)), a4 z hz (fun q => hn (Or.inl q))]
theorem Fr.mono {S S' : Nat → Prop} {k m k' m' : Nat} {h h' : ai_H} (a : Fr S k m h h') (hs : ∀ z, z < h.length → S z → S' z) (hk : k ≤ k') (hm : m ≤ m') : Fr S' k' m' h h' := by
  obtain ⟨a1, a2, a3, a4⟩ := a
  exact ⟨a1, by omega, by omega, fun z hz hn => a4 z hz (fun q => hn (hs z hz q))⟩
theorem lt_len {h : ai_H} {a : Nat} {c : ai_C} (e : h[a]? = some c) : a < h.length := (List.getElem?_eq_some_iff.mp e).1
theorem Fr.get {S : Nat → Prop} {k m : Nat} {h h' : ai_H} (a : Fr S k m h h') {b : Nat} {c : ai_C} (hb : ¬ S b) (e : h[b]? = some c) : h'[b]? = some c := (a.2.2.2 b (lt_len e) hb).trans e
theorem Ob.fr {S : Nat → Prop} {k m : Nat} {h h' : ai_H} {b c : Nat} {vs : List Value} (o : Ob h b c vs) (a : Fr S k m h h') (hb : ¬ S b) : Ob h' b c vs := by
  obtain ⟨f, e, q⟩ := o
  exact ⟨f, a.get hb e, q⟩
theorem Ob.lt {h : ai_H} {b c : Nat} {vs : List Value} (o : Ob h b c vs) : b < h.length := by
  obtain ⟨f, e, q⟩ := o
  exact lt_len e
theorem sz_set {h : ai_H} {a : Nat} {c c' : ai_C} (e : h[a]? = some c) (hl : c'.2.1 = c.2.1) : ai_sz (h.set a c') = ai_sz h := by
  have hkl := lt_len e
  simp only [ai_sz, List.map_set]
  congr 1
  apply List.ext_getElem?
  intro i
  by_cases hik : i = a
  · subst hik
    rw [List.getElem?_set_self (by simpa using hkl), List.getElem?_map, e]
    simp [hl]
  · rw [List.getElem?_set_ne (Ne.symm hik)]
theorem fr_set {h : ai_H} {a : Nat} {c c' : ai_C} (e : h[a]? = some c) (hl : c'.2.1 = c.2.1) : Fr (fun z => z = a) 0 0 h (h.set a c') := by
  refine ⟨by simp, by simp, Nat.le_of_eq (sz_set e hl), fun b _ hn => ?_⟩
  exact List.getElem?_set_ne (fun q => hn q.symm)
theorem get_set {h : ai_H} {a : Nat} {c c' : ai_C} (e : h[a]? = some c) : (h.set a c')[a]? = some c' := by
  simp [lt_len e]
section HEAPR
variable {P : ai_P} {mid d w pc len r1 r2 : Nat} {rv : Value} {lv : ai_L} {st : List Value} {h : ai_H} {Q : (Option Value ⊕ Nat) → ai_H → Prop} {r : (Option Value ⊕ Nat) × ai_H}
theorem r_getO {z a : Nat} {vs : List Value} (ht : P.tab mid pc = some (.getfield z, len, r1, r2, rv)) (ha : Ob h a r1 vs) (hk : Nat.blt r2 vs.length = true) (K : ai_Runs P mid d w (pc + 3) lv (vs.getD r2 .null :: st) h r) : ai_Runs P mid d w pc lv (.ref a :: st) h r := by
  obtain ⟨f, e, q⟩ := ha
  have hk : r2 < vs.length := Nat.le_of_ble_eq_true hk
  exact r_getf ht e hk (q r2 hk) K
theorem q_getO {z a : Nat} {vs : List Value} (ht : P.tab mid pc = some (.getfield z, len, r1, r2, rv)) (ha : Ob h a r1 vs) (hk : Nat.blt r2 vs.length = true) (K : aW P mid d w (pc + 3) lv (vs.getD r2 .null :: st) h Q) : aW P mid d w pc lv (.ref a :: st) h Q := by
  obtain ⟨f, e, q⟩ := ha
  have hk : r2 < vs.length := Nat.le_of_ble_eq_true hk
  exact q_getf ht e hk (q r2 hk) K
theorem q_putO {z a : Nat} {vs : List Value} {v : Value} (ht : P.tab mid pc = some (.putfield z, len, r1, r2, rv)) (ha : Ob h a r1 vs) (hk : Nat.blt r2 vs.length = true) (hp : P.p0 ≤ a) (hf : ai_fit (P.ty r1 r2) v = true) (K : ∀ h', Ob h' a r1 (vs.set r2 v) → Fr (fun z => z = a) 0 0 h h' → aW P mid d w (pc + 3) lv st h' Q) : aW P mid d w pc lv (v :: .ref a :: st) h Q := by
  obtain ⟨f, e, q⟩ := ha
  have hk : r2 < vs.length := Nat.le_of_ble_eq_true hk
  refine q_putf ht e hk hp hf (K _ ⟨va_up f r2 v, ?_, ?_⟩ (fr_set e rfl))
  · rw [List.length_set]
    exact get_set e
  · intro j hj
    rw [List.length_set] at hj
    by_cases hjk : j = r2
    · subst hjk
      rw [va_up_self]
      simp [hj]
    · rw [va_up_ne _ _ hjk, q j hj]
      simp [List.getD_eq_getElem?_getD, List.getElem?_set_ne (Ne.symm hjk)]
theorem q_iastore {n a j : Nat} {f : Nat → Value} {x : Int32} (ht : P.tab mid pc = some (.iastore, len, r1, r2, rv)) (ha : h[a]? = some (102, n, f)) (hj : j < n) (hn : n < 2147483648) (hp : P.p0 ≤ a) (K : ∀ h', h'[a]? = some (102, n, va_up f j (.int x)) → Fr (fun z => z = a) 0 0 h h' → aW P mid d w (pc + 1) lv st h' Q) : aW P mid d w pc lv (.int x :: .int (nI j) :: .ref a :: st) h Q := by
  obtain ⟨o, hZ, C, q⟩ := K (h.set a (102, n, va_up f j (.int x))) (get_set ha) (fr_set ha rfl)
  refine ⟨o, hZ, ai_Runs.next (pc' := pc + 1) (lv' := lv) (st' := st) (x := .inr (.inl (a, va_up f j (.int x)))) ht ?_ ?_, q⟩
  · simp [ai_ex, ai_ast, ha, ai_narI, ai_idx_nI hj hn, nI_clamp (Nat.lt_trans hj hn), hp, ai_nxE]
  · simp only [ai_app, ha]
    exact C
theorem q_bastore {n a j : Nat} {f : Nat → Value} {x : Int32} (ht : P.tab mid pc = some (.bastore, len, r1, r2, rv)) (ha : h[a]? = some (100, n, f)) (hj : j < n) (hn : n < 2147483648) (hp : P.p0 ≤ a) (K : ∀ h', h'[a]? = some (100, n, va_up f j (.int x.toInt8.toInt32)) → Fr (fun z => z = a) 0 0 h h' → aW P mid d w (pc + 1) lv st h' Q) : aW P mid d w pc lv (.int x :: .int (nI j) :: .ref a :: st) h Q := by
  obtain ⟨o, hZ, C, q⟩ := K (h.set a (100, n, va_up f j (.int x.toInt8.toInt32))) (get_set ha) (fr_set ha rfl)
  refine ⟨o, hZ, ai_Runs.next (pc' := pc + 1) (lv' := lv) (st' := st) (x := .inr (.inl (a, va_up f j (.int x.toInt8.toInt32)))) ht ?_ ?_, q⟩
  · simp [ai_ex, ai_ast, ha, ai_narB, vp_nar_byte, ai_idx_nI hj hn, nI_clamp (Nat.lt_trans hj hn), hp, ai_nxE]
  · simp only [ai_app, ha]
    exact C
theorem q_bastoreZ {n a j : Nat} {f : Nat → Value} {x : Int32} (ht : P.tab mid pc = some (.bastore, len, r1, r2, rv)) (ha : h[a]? = some (101, n, f)) (hj : j < n) (hn : n < 2147483648) (hp : P.p0 ≤ a) (K : ∀ h', h'[a]? = some (101, n, va_up f j (.int (vp_nar .boolean x))) → Fr (fun z => z = a) 0 0 h h' → aW P mid d w (pc + 1) lv st h' Q) : aW P mid d w pc lv (.int x :: .int (nI j) :: .ref a :: st) h Q := by
  obtain ⟨o, hZ, C, q⟩ := K (h.set a (101, n, va_up f j (.int (vp_nar .boolean x)))) (get_set ha) (fr_set ha rfl)
  refine ⟨o, hZ, ai_Runs.next (pc' := pc + 1) (lv' := lv) (st' := st) (x := .inr (.inl (a, va_up f j (.int (vp_nar .boolean x))))) ht ?_ ?_, q⟩
  · simp [ai_ex, ai_ast, ha, ai_narB, ai_idx_nI hj hn, nI_clamp (Nat.lt_trans hj hn), hp, ai_nxE]
  · simp only [ai_app, ha]
    exact C
theorem q_lastore {n a j : Nat} {f : Nat → Value} {x : Int64} (ht : P.tab mid pc = some (.lastore, len, r1, r2, rv)) (ha : h[a]? = some (103, n, f)) (hj : j < n) (hn : n < 2147483648) (hp : P.p0 ≤ a) (K : ∀ h', h'[a]? = some (103, n, va_up f j (.long x)) → Fr (fun z => z = a) 0 0 h h' → aW P mid d w (pc + 1) lv st h' Q) : aW P mid d w pc lv (.long x :: .int (nI j) :: .ref a :: st) h Q := by
  obtain ⟨o, hZ, C, q⟩ := K (h.set a (103, n, va_up f j (.long x))) (get_set ha) (fr_set ha rfl)
  refine ⟨o, hZ, ai_Runs.next (pc' := pc + 1) (lv' := lv) (st' := st) (x := .inr (.inl (a, va_up f j (.long x)))) ht ?_ ?_, q⟩
  · simp [ai_ex, ai_ast, ha, ai_narJ, ai_idx_nI hj hn, nI_clamp (Nat.lt_trans hj hn), hp, ai_nxE]
  · simp only [ai_app, ha]
    exact C
theorem q_aastore {t n a j b : Nat} {f : Nat → Value} {c : ai_C} (ht : P.tab mid pc = some (.aastore, len, r1, r2, rv)) (ha : h[a]? = some (t, n, f)) (h1 : 110 ≤ t) (h2 : t < 200) (hj : j < n) (hn : n < 2147483648) (hp : P.p0 ≤ a) (hb : h[b]? = some c) (hc : (Nat.blt c.1 100 && P.ac t c.1) = true) (K : ∀ h', h'[a]? = some (t, n, va_up f j (.ref b)) → Fr (fun z => z = a) 0 0 h h' → aW P mid d w (pc + 1) lv st h' Q) : aW P mid d w pc lv (.ref b :: .int (nI j) :: .ref a :: st) h Q := by
  obtain ⟨o, hZ, C, q⟩ := K (h.set a (t, n, va_up f j (.ref b))) (get_set ha) (fr_set ha rfl)
  have hc1 : (decide (c.1 < 100) && P.ac t c.1) = true := by
    rw [Bool.and_eq_true] at hc ⊢
    exact ⟨decide_eq_true (Nat.le_of_ble_eq_true hc.1), hc.2⟩
  have hnar : ai_narA P.ac h t (.ref b) = some (.ref b) := by simp only [ai_narA, hb, hc1, if_true]
  refine ⟨o, hZ, ai_Runs.next (pc' := pc + 1) (lv' := lv) (st' := st) (x := .inr (.inl (a, va_up f j (.ref b)))) ht ?_ ?_, q⟩
  · simp [ai_ex, ai_ast, ha, hnar, h1, h2, ai_idx_nI hj hn, nI_clamp (Nat.lt_trans hj hn), hp, ai_nxE]
  · simp only [ai_app, ha]
    exact C
theorem q_aastoreN {t n a j : Nat} {f : Nat → Value} (ht : P.tab mid pc = some (.aastore, len, r1, r2, rv)) (ha : h[a]? = some (t, n, f)) (h1 : 110 ≤ t) (h2 : t < 200) (hj : j < n) (hn : n < 2147483648) (hp : P.p0 ≤ a) (K : ∀ h', h'[a]? = some (t, n, va_up f j .null) → Fr (fun z => z = a) 0 0 h h' → aW P mid d w (pc + 1) lv st h' Q) : aW P mid d w pc lv (.null :: .int (nI j) :: .ref a :: st) h Q := by
  obtain ⟨o, hZ, C, q⟩ := K (h.set a (t, n, va_up f j .null)) (get_set ha) (fr_set ha rfl)
  refine ⟨o, hZ, ai_Runs.next (pc' := pc + 1) (lv' := lv) (st' := st) (x := .inr (.inl (a, va_up f j .null))) ht ?_ ?_, q⟩
  · simp [ai_ex, ai_ast, ha, ai_narA, h1, h2, ai_idx_nI hj hn, nI_clamp (Nat.lt_trans hj hn), hp, ai_nxE]
  · simp only [ai_app, ha]
    exact C
end HEAPR
