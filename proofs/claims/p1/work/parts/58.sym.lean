/-! runs whose heap has a known size; calls walked into; made by wip/tools/symrules.py -/
/-- n cells; at most z elements beside the script's L -/
def Hs (L n z : Nat) (h : ai_H) : Prop := h.length = n ∧ ai_sz h ≤ z + L
theorem Hs.put {L n z : Nat} {S : Nat → Prop} {h h' : ai_H} (s : Hs L n z h) (f : Fr S 0 0 h h') : Hs L n z h' := by
  obtain ⟨a1, a2, a3, a4⟩ := f
  exact ⟨by have := s.1; omega, Nat.le_trans a3 s.2⟩
/-- the cells a .. b - 1 are kept -/
def Kp (a b : Nat) (h h' : ai_H) : Prop := h.length ≤ h'.length ∧ ∀ i, a ≤ i → i < b → i < h.length → h'[i]? = h[i]?
theorem Kp.refl (a b : Nat) (h : ai_H) : Kp a b h h := ⟨Nat.le_refl _, fun _ _ _ _ => rfl⟩
theorem Kp.put {a b c k m : Nat} {h0 h h' : ai_H} (p : Kp a b h0 h) (f : Fr (fun z => z = c) k m h h') (hc : (Nat.blt c a || Nat.ble b c) = true) : Kp a b h0 h' := by
  obtain ⟨a1, a2, a3, a4⟩ := f
  rw [Bool.or_eq_true] at hc
  have hc : c < a ∨ b ≤ c := hc.imp (fun z => Nat.le_of_ble_eq_true z) (fun z => Nat.le_of_ble_eq_true z)
  refine ⟨Nat.le_trans p.1 a1, fun i h1 h2 h3 => ?_⟩
  have hl := p.1
  rw [a4 i (by omega) (fun z => by have z : i = c := z; omega)]
  exact p.2 i h1 h2 h3
theorem Kp.new {a b k m : Nat} {h0 h h' : ai_H} (p : Kp a b h0 h) (f : Fr (fun _ => False) k m h h') : Kp a b h0 h' := by
  obtain ⟨a1, a2, a3, a4⟩ := f
  refine ⟨Nat.le_trans p.1 a1, fun i h1 h2 h3 => ?_⟩
  have hl := p.1
  rw [a4 i (by omega) id]
  exact p.2 i h1 h2 h3
theorem Kp.get {a b i : Nat} {h h' : ai_H} {c : ai_C} (p : Kp a b h h') (e : h[i]? = some c) (h1 : a ≤ i) (h2 : i < b) : h'[i]? = some c := (p.2 i h1 h2 (lt_len e)).trans e
theorem Kp.ob {a b i c : Nat} {vs : List Value} {h h' : ai_H} (p : Kp a b h h') (o : Ob h i c vs) (h1 : a ≤ i) (h2 : i < b) : Ob h' i c vs := by
  obtain ⟨f, e, q⟩ := o
  exact ⟨f, p.get e h1 h2, q⟩
theorem Fr.ne {a k m b : Nat} {h h' : ai_H} {c : ai_C} (f : Fr (fun z => z = a) k m h h') (hb : Nat.beq b a = false) (e : h[b]? = some c) : h'[b]? = some c := f.get (fun z => by have z : b = a := z; rw [z] at hb; simp at hb) e
theorem Ob.ne {a k m b c : Nat} {vs : List Value} {h h' : ai_H} (o : Ob h b c vs) (f : Fr (fun z => z = a) k m h h') (hb : Nat.beq b a = false) : Ob h' b c vs := by
  obtain ⟨g, e, q⟩ := o
  exact ⟨g, f.ne hb e, q⟩
theorem Fr.nw {k m b : Nat} {h h' : ai_H} {c : ai_C} (f : Fr (fun _ => False) k m h h') (e : h[b]? = some c) : h'[b]? = some c := f.get id e
theorem Ob.nw {k m b c : Nat} {vs : List Value} {h h' : ai_H} (o : Ob h b c vs) (f : Fr (fun _ => False) k m h h') : Ob h' b c vs := o.fr f id
/-- behind a call -/
def aR (P : ai_P) (thr : Bool) (mid d w pc : Nat) (lv : ai_L) (rest : List Value) (Q : (Option Value ⊕ Nat) → ai_H → Prop) (o : Option Value ⊕ Nat) (h1 : ai_H) : Prop := match o with
  | .inl v => aW P mid d w (pc + 3) lv (v.toList ++ rest) h1 Q
  | .inr t => thr = true ∧ ((∃ tg, ai_find (P.mth mid).hs pc t = some tg ∧ ∀ h', Fr (fun _ => False) 1 6 h1 h' → h'.length = h1.length + 1 → aW P mid d w tg lv [.ref h1.length] h' Q) ∨ ((P.mth mid).hs = [] ∧ Q (.inr t) h1))
section SYM
variable {P : ai_P} {L mid d w pc len r1 r2 m' n d' w' q n' q' a : Nat} {rv : Value} {lv lv' : ai_L} {st : List Value} {h : ai_H} {Q : (Option Value ⊕ Nat) → ai_H → Prop} {as rest : List Value}
theorem s_callG {ai : ai_I} (ht : P.tab mid pc = some ai) (hx : ai_ex P d w (P.mth mid).maxL (P.mth mid).ret ai pc lv st h = some (.inr (.inl (m', as, rest)))) (hR : roomC P m' d w as rest) (C : aW P m' (d - 1) (w - (8 + ((P.mth m').maxL + 11))) 0 (lv_args 0 as) [] h (aR P (ai_thr ai (P.mth m')) mid d w pc lv rest Q)) : aW P mid d w pc lv st h Q := by
  obtain ⟨o, h1, C, k⟩ := C
  cases o with
  | inl v =>
    obtain ⟨o2, h2, K, q2⟩ := k
    exact ⟨o2, h2, ai_Runs.call ht hx hR.no C K, q2⟩
  | inr t =>
    obtain ⟨k1, k2⟩ := k
    rcases k2 with ⟨tg, hf, k2⟩ | ⟨he, k2⟩
    · obtain ⟨o2, h2, K, q2⟩ := k2 (h1 ++ [ai_xc]) (fr_app h1 ai_xc) (by simp)
      exact ⟨o2, h2, ai_Runs.callX ht hx hR.no k1 hf C K, q2⟩
    · exact ⟨.inr t, h1, ai_Runs.callT ht hx hR.no k1 he C, k2⟩
theorem s_callS {z : Nat} (ht : P.tab mid pc = some (.invokestatic z, len, m', n, rv)) (hm : (Nat.blt m' 5001 || Nat.blt 5004 m') = true) (hst : st = as.reverse ++ rest) (hl : as.length = n) (hR : (Nat.ble 1 d && Nat.ble (8 + ((P.mth m').maxL + 11)) w && Nat.ble (ai_wt rest) 8 && Nat.ble (ai_wt as) (P.mth m').maxL) = true) (hd : d - 1 = d') (hw : w - (8 + ((P.mth m').maxL + 11)) = w') (hlv : lv_args 0 as = lv') (C : aW P m' d' w' 0 lv' [] h (aR P (ai_thr (.invokestatic z, len, m', n, rv) (P.mth m')) mid d w pc lv rest Q)) : aW P mid d w pc lv st h Q := by
  subst hst; subst hd; subst hw; subst hlv
  simp only [Bool.and_eq_true, Nat.ble_eq] at hR
  rw [Bool.or_eq_true] at hm
  have hm : m' < 5001 ∨ 5004 < m' := hm.imp (fun z => Nat.le_of_ble_eq_true z) (fun z => Nat.le_of_ble_eq_true z)
  refine s_callG ht ?_ ⟨by omega, hR.1.1.2, hR.1.2, hR.2⟩ C
  simp only [ai_ex, ai_I.ins, ai_I.r1]
  rw [if_neg (by omega), if_neg (by omega)]
  exact ai_inv_at (q := (.invokestatic z, len, m', n, rv)) hl
theorem s_callV {z t : Nat} {vs : List Value} (ht : P.tab mid pc = some (.invokevirtual z, len, m', n, .retAddr t)) (ha : Ob h a t vs) (hst : st = as.reverse ++ .ref a :: rest) (hl : as.length + 1 = n) (hR : (Nat.ble 1 d && Nat.ble (8 + ((P.mth m').maxL + 11)) w && Nat.ble (ai_wt rest) 8 && Nat.ble (ai_wt (.ref a :: as)) (P.mth m').maxL) = true) (hd : d - 1 = d') (hw : w - (8 + ((P.mth m').maxL + 11)) = w') (hlv : lv_args 0 (.ref a :: as) = lv') (C : aW P m' d' w' 0 lv' [] h (aR P (ai_thr (.invokevirtual z, len, m', n, .retAddr t) (P.mth m')) mid d w pc lv rest Q)) : aW P mid d w pc lv st h Q := by
  subst hst; subst hd; subst hw; subst hlv
  simp only [Bool.and_eq_true, Nat.ble_eq] at hR
  obtain ⟨f, e, _⟩ := ha
  refine s_callG ht ?_ ⟨by omega, hR.1.1.2, hR.1.2, hR.2⟩ C
  simp only [ai_ex, ai_I.ins]
  exact ai_invV_at (q := (.invokevirtual z, len, m', n, .retAddr t)) (pc := pc) (lv := lv) hl e rfl
theorem s_callI {z : Nat} (ht : P.tab mid pc = some (.invokespecial z, len, m', n, rv)) (hm : Nat.beq m' 5000 = false) (hst : st = as.reverse ++ .ref a :: rest) (hl : as.length + 1 = n) (hR : (Nat.ble 1 d && Nat.ble (8 + ((P.mth m').maxL + 11)) w && Nat.ble (ai_wt rest) 8 && Nat.ble (ai_wt (.ref a :: as)) (P.mth m').maxL) = true) (hd : d - 1 = d') (hw : w - (8 + ((P.mth m').maxL + 11)) = w') (hlv : lv_args 0 (.ref a :: as) = lv') (C : aW P m' d' w' 0 lv' [] h (aR P (ai_thr (.invokespecial z, len, m', n, rv) (P.mth m')) mid d w pc lv rest Q)) : aW P mid d w pc lv st h Q := by
  subst hst; subst hd; subst hw; subst hlv
  simp only [Bool.and_eq_true, Nat.ble_eq] at hR
  have hm : ¬ m' = 5000 := fun z => by rw [z] at hm; simp at hm
  refine s_callG ht ?_ ⟨by omega, hR.1.1.2, hR.1.2, hR.2⟩ C
  have h0 : as.reverse ++ .ref a :: rest = (Value.ref a :: as).reverse ++ rest := by simp
  have hl2 : (Value.ref a :: as).length = n := hl
  have h1 : ((Value.ref a :: as).reverse ++ rest).take n = (Value.ref a :: as).reverse := by rw [← hl2, ← List.length_reverse, List.take_left']; rfl
  simp only [ai_ex, ai_I.ins, ai_I.r1, ai_I.r2]
  rw [if_neg hm, h0, h1, List.reverse_reverse]
  exact ai_inv_at (q := (.invokespecial z, len, m', n, rv)) hl2
theorem s_thr {z t : Nat} (ht : P.tab mid pc = some (.new z, len, t, 9999, rv)) (he : (P.mth mid).hs = []) (hr : (Nat.ble 6 d && Nat.ble (ai_wt st + 81) w) = true) (k : Q (.inr t) h) : aW P mid d w pc lv st h Q := by
  simp only [Bool.and_eq_true, Nat.ble_eq] at hr
  exact ⟨.inr t, h, ai_Runs.thr ht (by simp [ai_ex]) ⟨by rw [he]; rfl, hr.1, hr.2⟩, k⟩
theorem s_objI {z : Nat} (ht : P.tab mid pc = some (.invokespecial z, len, 5000, n, rv)) (hr : (Nat.ble 1 d && Nat.ble 20 w && Nat.ble (ai_wt st) 8) = true) (K : aW P mid d w (pc + 3) lv st h Q) : aW P mid d w pc lv (.ref a :: st) h Q := by
  simp only [Bool.and_eq_true, Nat.ble_eq] at hr
  exact q_objInit ht hr.1.1 hr.1.2 hr.2 K
theorem s_new {z : Nat} {vs : List Value} (ht : P.tab mid pc = some (.new z, len, r1, r2, rv)) (h9 : Nat.beq r2 9999 = false) (s : Hs L n q h) (hn : n + 1 = n') (hq : q + r2 = q') (hv : (List.range r2).map (fun j => defaultValue (P.ty r1 j)) = vs) (K : ∀ h', Ob h' n r1 vs → Fr (fun _ => False) 1 r2 h h' → Hs L n' q' h' → aW P mid d w (pc + 3) lv (.ref n :: st) h' Q) : aW P mid d w pc lv st h Q := by
  obtain ⟨rfl, s2⟩ := s
  subst hn; subst hq; subst hv
  refine q_new ht (fun z => by rw [z] at h9; simp at h9) (fun h' o f l => K h' o f ⟨l, ?_⟩)
  have := f.2.2.1
  omega
theorem s_newa {t : ArrayType} {k : Nat} {x : Int32} {v0 : Value} (ht : P.tab mid pc = some (.newarray t, len, r1, r2, rv)) (hx : x = nI k) (hk : Nat.ble k 50000000 = true) (s : Hs L n q h) (hn : n + 1 = n') (hq : q + k = q') (hv : defaultValue (newarray.typeOf t) = v0) (K : ∀ h', h'[n]? = some (r1, k, fun _ => v0) → Fr (fun _ => False) 1 k h h' → Hs L n' q' h' → aW P mid d w (pc + 2) lv (.ref n :: st) h' Q) : aW P mid d w pc lv (.int x :: st) h Q := by
  obtain ⟨rfl, s2⟩ := s
  subst hn; subst hq; subst hv; subst hx
  refine q_newa ht (Nat.le_of_ble_eq_true hk) (fun h' o f l => K h' o f ⟨l, ?_⟩)
  have := f.2.2.1
  omega
theorem s_anewa {z k : Nat} {x : Int32} (ht : P.tab mid pc = some (.anewarray z, len, r1, r2, rv)) (hx : x = nI k) (hk : Nat.ble k 50000000 = true) (s : Hs L n q h) (hn : n + 1 = n') (hq : q + k = q') (K : ∀ h', h'[n]? = some (r1, k, fun _ => .null) → Fr (fun _ => False) 1 k h h' → Hs L n' q' h' → aW P mid d w (pc + 3) lv (.ref n :: st) h' Q) : aW P mid d w pc lv (.int x :: st) h Q := by
  obtain ⟨rfl, s2⟩ := s
  subst hn; subst hq; subst hx
  refine q_anewa ht (Nat.le_of_ble_eq_true hk) (fun h' o f l => K h' o f ⟨l, ?_⟩)
  have := f.2.2.1
  omega
theorem s_get {z : Nat} {vs : List Value} {v : Value} (ht : P.tab mid pc = some (.getfield z, len, r1, r2, rv)) (ha : Ob h a r1 vs) (hk : Nat.blt r2 vs.length = true) (hv : vs.getD r2 .null = v) (K : aW P mid d w (pc + 3) lv (v :: st) h Q) : aW P mid d w pc lv (.ref a :: st) h Q := by
  subst hv
  exact q_getO ht ha hk K
theorem s_put {z : Nat} {vs vs' : List Value} {v : Value} (ht : P.tab mid pc = some (.putfield z, len, r1, r2, rv)) (ha : Ob h a r1 vs) (hk : Nat.blt r2 vs.length = true) (hp : Nat.ble P.p0 a = true) (hf : ai_fit (P.ty r1 r2) v = true) (hv : vs.set r2 v = vs') (K : ∀ h', Ob h' a r1 vs' → Fr (fun z => z = a) 0 0 h h' → aW P mid d w (pc + 3) lv st h' Q) : aW P mid d w pc lv (v :: .ref a :: st) h Q := by
  subst hv
  exact q_putO ht ha hk (Nat.le_of_ble_eq_true hp) hf K
theorem s_alen {t k : Nat} {f : Nat → Value} {x : Int32} (ht : P.tab mid pc = some (.arraylength, len, r1, r2, rv)) (ha : h[a]? = some (t, k, f)) (h1 : (Nat.ble 100 t && Nat.blt t 200) = true) (hx : Int32.ofNat k = x) (K : aW P mid d w (pc + 1) lv (.int x :: st) h Q) : aW P mid d w pc lv (.ref a :: st) h Q := by
  subst hx
  rw [Bool.and_eq_true] at h1
  exact q_alen ht ha (Nat.le_of_ble_eq_true h1.1) (Nat.le_of_ble_eq_true h1.2) K
theorem s_cast {z : Nat} {vs : List Value} (ht : P.tab mid pc = some (.checkcast z, len, r1, r2, rv)) (ha : Ob h a r1 vs) (K : aW P mid d w (pc + 3) lv (.ref a :: st) h Q) : aW P mid d w pc lv (.ref a :: st) h Q := by
  obtain ⟨f, e, _⟩ := ha
  obtain ⟨o2, h2, K, q2⟩ := K
  exact ⟨o2, h2, ai_Runs.next (pc' := pc + 3) (lv' := lv) (st' := .ref a :: st) (x := .inl ()) ht (by simp [ai_ex, e, ai_nx]) K, q2⟩
theorem s_acmpE {z : Int} {b : Nat} (ht : P.tab mid pc = some (.if_acmp .eq z, len, r1, r2, rv)) (hb : a = b) (K : aW P mid d w r1 lv st h Q) : aW P mid d w pc lv (.ref b :: .ref a :: st) h Q := by
  obtain ⟨o2, h2, K, q2⟩ := K
  exact ⟨o2, h2, ai_Runs.next (pc' := r1) (lv' := lv) (st' := st) (x := .inl ()) ht (by simp [ai_ex, ai_acmp, ai_same, hb, ai_nx]) K, q2⟩
theorem s_acmpN {z : Int} {b : Nat} (ht : P.tab mid pc = some (.if_acmp .ne z, len, r1, r2, rv)) (hb : a = b) (K : aW P mid d w (pc + 3) lv st h Q) : aW P mid d w pc lv (.ref b :: .ref a :: st) h Q := by
  obtain ⟨o2, h2, K, q2⟩ := K
  exact ⟨o2, h2, ai_Runs.next (pc' := pc + 3) (lv' := lv) (st' := st) (x := .inl ()) ht (by simp [ai_ex, ai_acmp, ai_same, hb, ai_nx]) K, q2⟩
theorem s_sw {dd lo hi : Int} {offs : Array Int} {x : Int32} {tg : Nat} (ht : P.tab mid pc = some (.tableswitch dd lo hi offs, len, r1, r2, rv)) (hx : ai_sw lo hi dd offs pc lv (.int x :: st) = ai_nx tg lv st) (K : aW P mid d w tg lv st h Q) : aW P mid d w pc lv (.int x :: st) h Q := by
  obtain ⟨o2, h2, K, q2⟩ := K
  exact ⟨o2, h2, ai_Runs.next (pc' := tg) (lv' := lv) (st' := st) (x := .inl ()) ht (by simp only [ai_ex]; exact hx) K, q2⟩
theorem s_min {z : Nat} {x y k : Int32} (ht : P.tab mid pc = some (.invokestatic z, len, 5002, n, rv)) (hr : (Nat.ble 1 d && Nat.ble (ai_wt st + 13) w) = true) (hk : (if y < x then y else x) = k) (K : aW P mid d w (pc + 3) lv (.int k :: st) h Q) : aW P mid d w pc lv (.int y :: .int x :: st) h Q := by
  subst hk
  simp only [Bool.and_eq_true, Nat.ble_eq] at hr
  obtain ⟨o2, h2, K, q2⟩ := K
  exact ⟨o2, h2, r_min ht hr.1 hr.2 K, q2⟩
theorem s_max {z : Nat} {x y k : Int32} (ht : P.tab mid pc = some (.invokestatic z, len, 5003, n, rv)) (hr : (Nat.ble 1 d && Nat.ble (ai_wt st + 13) w) = true) (hk : (if x < y then y else x) = k) (K : aW P mid d w (pc + 3) lv (.int k :: st) h Q) : aW P mid d w pc lv (.int y :: .int x :: st) h Q := by
  subst hk
  simp only [Bool.and_eq_true, Nat.ble_eq] at hr
  obtain ⟨o2, h2, K, q2⟩ := K
  exact ⟨o2, h2, r_max ht hr.1 hr.2 K, q2⟩
/-- System.arraycopy over numbers -/
theorem s_copy {z b t n0 n1 sp dp k : Nat} {f g : Nat → Value} {xs xd xk : Int32} (ht : P.tab mid pc = some (.invokestatic z, len, 5001, n, rv)) (ha : h[a]? = some (t, n0, f)) (hb : h[b]? = some (t, n1, g)) (h1 : xs = nI sp) (h2 : xd = nI dp) (h3 : xk = nI k) (hr : (Nat.ble 100 t && Nat.ble t 104 && Nat.ble P.p0 b && Nat.ble 1 d && Nat.ble (ai_wt st + 18) w) = true) (hn0 : sp + k ≤ n0) (hn1 : dp + k ≤ n1) (hs : n0 < 1000000 ∧ n1 < 1000000) (hf : ∀ i, i < k → fits (ai_ty P.rc t) (f (sp + i)) = true) (K : ∀ h', h'[b]? = some (t, n1, va_cpy f g sp dp k) → Fr (fun z => z = b) 0 0 h h' → aW P mid d w (pc + 3) lv st h' Q) : aW P mid d w pc lv (.int xk :: .int xd :: .ref b :: .int xs :: .ref a :: st) h Q := by
  subst h1; subst h2; subst h3
  simp only [Bool.and_eq_true, Nat.ble_eq] at hr
  obtain ⟨⟨⟨⟨r1, r2⟩, r3⟩, r4⟩, r5⟩ := hr
  obtain ⟨o2, h9, K, q2⟩ := K (h.set b (t, n1, va_cpy f g sp dp k)) (get_set hb) (fr_set hb rfl)
  have e1 : (nI sp).toNatClampNeg = sp := nI_clamp (by omega)
  have e2 : (nI dp).toNatClampNeg = dp := nI_clamp (by omega)
  have e3 : (nI k).toNatClampNeg = k := nI_clamp (by omega)
  have z1 : (0 : Int) ≤ (nI sp).toInt := by rw [nI_toInt (by omega)]; omega
  have z2 : (0 : Int) ≤ (nI dp).toInt := by rw [nI_toInt (by omega)]; omega
  have z3 : (0 : Int) ≤ (nI k).toInt := by rw [nI_toInt (by omega)]; omega
  have hall : (List.range k).all (fun i => fits (ai_ty P.rc t) (f (sp + i))) = true := by
    rw [List.all_eq_true]
    intro i hi
    exact hf i (List.mem_range.mp hi)
  have hcd : (decide (t = t) && decide (100 ≤ t) && decide (t ≤ 104) && decide (P.p0 ≤ b) && decide (0 ≤ (nI sp).toInt) && decide (0 ≤ (nI dp).toInt) && decide (0 ≤ (nI k).toInt) && decide ((nI sp).toNatClampNeg + (nI k).toNatClampNeg ≤ n0) && decide ((nI dp).toNatClampNeg + (nI k).toNatClampNeg ≤ n1) && (List.range (nI k).toNatClampNeg).all (fun i => fits (ai_ty P.rc t) (f ((nI sp).toNatClampNeg + i))) && decide (1 ≤ d) && decide ((st.map fun v => v.category).sum + 18 ≤ w)) = true := by
    rw [e1, e2, e3, hall]
    have r5 : (st.map fun v => v.category).sum + 18 ≤ w := r5
    simp only [decide_eq_true r1, decide_eq_true r2, decide_eq_true r3, decide_eq_true r4, decide_eq_true r5, decide_eq_true hn0, decide_eq_true hn1, decide_eq_true z1, decide_eq_true z2, decide_eq_true z3, decide_true, Bool.and_self]
  refine ⟨o2, h9, ai_Runs.next (pc' := pc + 3) (lv' := lv) (st' := st) (x := .inr (.inl (b, va_cpy f g sp dp k))) ht ?_ ?_, q2⟩
  · simp only [ai_ex, ai_I.ins, ai_I.r1, if_true]
    unfold ai_copy
    dsimp only
    rw [ha, hb]
    dsimp only
    rw [if_pos hcd, e1, e2, e3]
    rfl
  · simp only [ai_app, hb]
    exact K
theorem s_istore {i : Nat} {x : Int32} (ht : P.tab mid pc = some (.istore i, len, r1, r2, rv)) (hn : (i : Nat) < (P.mth mid).maxL) (hl : ai_st1 (i : Nat) (.int x) lv = lv') (K : aW P mid d w (pc + 2) lv' st h Q) : aW P mid d w pc lv (.int x :: st) h Q := by subst hl; exact q_istore ht hn K
theorem s_istore_n {i : Fin 4} {x : Int32} (ht : P.tab mid pc = some (.istore_n i, len, r1, r2, rv)) (hn : (i : Nat) < (P.mth mid).maxL) (hl : ai_st1 (i : Nat) (.int x) lv = lv') (K : aW P mid d w (pc + 1) lv' st h Q) : aW P mid d w pc lv (.int x :: st) h Q := by subst hl; exact q_istore_n ht hn K
theorem s_astore {i : Nat} {x : Nat} (ht : P.tab mid pc = some (.astore i, len, r1, r2, rv)) (hn : (i : Nat) < (P.mth mid).maxL) (hl : ai_st1 (i : Nat) (.ref x) lv = lv') (K : aW P mid d w (pc + 2) lv' st h Q) : aW P mid d w pc lv (.ref x :: st) h Q := by subst hl; exact q_astore ht hn K
theorem s_astore_n {i : Fin 4} {x : Nat} (ht : P.tab mid pc = some (.astore_n i, len, r1, r2, rv)) (hn : (i : Nat) < (P.mth mid).maxL) (hl : ai_st1 (i : Nat) (.ref x) lv = lv') (K : aW P mid d w (pc + 1) lv' st h Q) : aW P mid d w pc lv (.ref x :: st) h Q := by subst hl; exact q_astore_n ht hn K
theorem s_astoreN {i : Nat} (ht : P.tab mid pc = some (.astore i, len, r1, r2, rv)) (hn : (i : Nat) < (P.mth mid).maxL) (hl : ai_st1 (i : Nat) (.null) lv = lv') (K : aW P mid d w (pc + 2) lv' st h Q) : aW P mid d w pc lv (.null :: st) h Q := by subst hl; exact q_astoreN ht hn K
theorem s_astore_nN {i : Fin 4} (ht : P.tab mid pc = some (.astore_n i, len, r1, r2, rv)) (hn : (i : Nat) < (P.mth mid).maxL) (hl : ai_st1 (i : Nat) (.null) lv = lv') (K : aW P mid d w (pc + 1) lv' st h Q) : aW P mid d w pc lv (.null :: st) h Q := by subst hl; exact q_astore_nN ht hn K
theorem s_lstore {i : Nat} {x : Int64} (ht : P.tab mid pc = some (.lstore i, len, r1, r2, rv)) (hn : (i : Nat) + 1 < (P.mth mid).maxL) (hl : ai_st2 (i : Nat) (.long x) lv = lv') (K : aW P mid d w (pc + 2) lv' st h Q) : aW P mid d w pc lv (.long x :: st) h Q := by subst hl; exact q_lstore ht hn K
theorem s_lstore_n {i : Fin 4} {x : Int64} (ht : P.tab mid pc = some (.lstore_n i, len, r1, r2, rv)) (hn : (i : Nat) + 1 < (P.mth mid).maxL) (hl : ai_st2 (i : Nat) (.long x) lv = lv') (K : aW P mid d w (pc + 1) lv' st h Q) : aW P mid d w pc lv (.long x :: st) h Q := by subst hl; exact q_lstore_n ht hn K
theorem s_iinc {i : Nat} {z : Int} {x k y : Int32} (ht : P.tab mid pc = some (.iinc i z, len, r1, r2, .int k)) (hl : lv.lookup i = some (.int x)) (hn : i < (P.mth mid).maxL) (hy : x + k = y) (hv : ai_st1 i (.int y) lv = lv') (K : aW P mid d w (pc + 3) lv' st h Q) : aW P mid d w pc lv st h Q := by subst hy; subst hv; exact q_iinc ht hl hn K
theorem s_iadd {x y k : Int32} (ht : P.tab mid pc = some (.iadd, len, r1, r2, rv)) (hk : x + y = k) (K : aW P mid d w (pc + 1) lv (.int k :: st) h Q) : aW P mid d w pc lv (.int y :: .int x :: st) h Q := by subst hk; exact q_iadd ht K
theorem s_isub {x y k : Int32} (ht : P.tab mid pc = some (.isub, len, r1, r2, rv)) (hk : x - y = k) (K : aW P mid d w (pc + 1) lv (.int k :: st) h Q) : aW P mid d w pc lv (.int y :: .int x :: st) h Q := by subst hk; exact q_isub ht K
theorem s_imul {x y k : Int32} (ht : P.tab mid pc = some (.imul, len, r1, r2, rv)) (hk : x * y = k) (K : aW P mid d w (pc + 1) lv (.int k :: st) h Q) : aW P mid d w pc lv (.int y :: .int x :: st) h Q := by subst hk; exact q_imul ht K
theorem s_iand {x y k : Int32} (ht : P.tab mid pc = some (.iand, len, r1, r2, rv)) (hk : x &&& y = k) (K : aW P mid d w (pc + 1) lv (.int k :: st) h Q) : aW P mid d w pc lv (.int y :: .int x :: st) h Q := by subst hk; exact q_iand ht K
theorem s_ior {x y k : Int32} (ht : P.tab mid pc = some (.ior, len, r1, r2, rv)) (hk : x ||| y = k) (K : aW P mid d w (pc + 1) lv (.int k :: st) h Q) : aW P mid d w pc lv (.int y :: .int x :: st) h Q := by subst hk; exact q_ior ht K
theorem s_ixor {x y k : Int32} (ht : P.tab mid pc = some (.ixor, len, r1, r2, rv)) (hk : x ^^^ y = k) (K : aW P mid d w (pc + 1) lv (.int k :: st) h Q) : aW P mid d w pc lv (.int y :: .int x :: st) h Q := by subst hk; exact q_ixor ht K
theorem s_ishl {x y k : Int32} (ht : P.tab mid pc = some (.ishl, len, r1, r2, rv)) (hk : x <<< (y &&& 31) = k) (K : aW P mid d w (pc + 1) lv (.int k :: st) h Q) : aW P mid d w pc lv (.int y :: .int x :: st) h Q := by subst hk; exact q_ishl ht K
theorem s_ishr {x y k : Int32} (ht : P.tab mid pc = some (.ishr, len, r1, r2, rv)) (hk : x >>> (y &&& 31) = k) (K : aW P mid d w (pc + 1) lv (.int k :: st) h Q) : aW P mid d w pc lv (.int y :: .int x :: st) h Q := by subst hk; exact q_ishr ht K
theorem s_iushr {x y k : Int32} (ht : P.tab mid pc = some (.iushr, len, r1, r2, rv)) (hk : (x.toUInt32 >>> (y.toUInt32 &&& Int32.toUInt32 31)).toInt32 = k) (K : aW P mid d w (pc + 1) lv (.int k :: st) h Q) : aW P mid d w pc lv (.int y :: .int x :: st) h Q := by subst hk; exact q_iushr ht K
theorem s_ladd {x y k : Int64} (ht : P.tab mid pc = some (.ladd, len, r1, r2, rv)) (hk : x + y = k) (K : aW P mid d w (pc + 1) lv (.long k :: st) h Q) : aW P mid d w pc lv (.long y :: .long x :: st) h Q := by subst hk; exact q_ladd ht K
theorem s_lsub {x y k : Int64} (ht : P.tab mid pc = some (.lsub, len, r1, r2, rv)) (hk : x - y = k) (K : aW P mid d w (pc + 1) lv (.long k :: st) h Q) : aW P mid d w pc lv (.long y :: .long x :: st) h Q := by subst hk; exact q_lsub ht K
theorem s_lmul {x y k : Int64} (ht : P.tab mid pc = some (.lmul, len, r1, r2, rv)) (hk : x * y = k) (K : aW P mid d w (pc + 1) lv (.long k :: st) h Q) : aW P mid d w pc lv (.long y :: .long x :: st) h Q := by subst hk; exact q_lmul ht K
theorem s_i2l {x : Int32} {k : Int64} (ht : P.tab mid pc = some (.i2l, len, r1, r2, rv)) (hk : x.toInt64 = k) (K : aW P mid d w (pc + 1) lv (.long k :: st) h Q) : aW P mid d w pc lv (.int x :: st) h Q := by subst hk; exact q_i2l ht K
theorem s_i2b {x k : Int32} (ht : P.tab mid pc = some (.i2b, len, r1, r2, rv)) (hk : x.toInt8.toInt32 = k) (K : aW P mid d w (pc + 1) lv (.int k :: st) h Q) : aW P mid d w pc lv (.int x :: st) h Q := by subst hk; exact q_i2b ht K
theorem s_lcmp {x y : Int64} {k : Int32} (ht : P.tab mid pc = some (.lcmp, len, r1, r2, rv)) (hk : lg_cmp x y = k) (K : aW P mid d w (pc + 1) lv (.int k :: st) h Q) : aW P mid d w pc lv (.long y :: .long x :: st) h Q := by subst hk; exact q_lcmp ht K
theorem s_iaload {k j : Nat} {f : Nat → Value} {v : Value} {y : Int32} (ht : P.tab mid pc = some (.iaload, len, r1, r2, rv)) (ha : h[a]? = some (102, k, f)) (hy : y = nI j) (hj : (Nat.blt j k && Nat.blt k 2147483648) = true) (hv : f j = v) (K : aW P mid d w (pc + 1) lv (v :: st) h Q) : aW P mid d w pc lv (.int y :: .ref a :: st) h Q := by
  subst hy
  rw [Bool.and_eq_true] at hj
  exact q_iaload ht ha (Nat.le_of_ble_eq_true hj.1) (Nat.le_of_ble_eq_true hj.2) hv K
theorem s_laload {k j : Nat} {f : Nat → Value} {v : Value} {y : Int32} (ht : P.tab mid pc = some (.laload, len, r1, r2, rv)) (ha : h[a]? = some (103, k, f)) (hy : y = nI j) (hj : (Nat.blt j k && Nat.blt k 2147483648) = true) (hv : f j = v) (K : aW P mid d w (pc + 1) lv (v :: st) h Q) : aW P mid d w pc lv (.int y :: .ref a :: st) h Q := by
  subst hy
  rw [Bool.and_eq_true] at hj
  exact q_laload ht ha (Nat.le_of_ble_eq_true hj.1) (Nat.le_of_ble_eq_true hj.2) hv K
theorem s_baload {t k j : Nat} {f : Nat → Value} {v : Value} {y : Int32} (ht : P.tab mid pc = some (.baload, len, r1, r2, rv)) (ha : h[a]? = some (t, k, f)) (ht9 : (Nat.beq t 100 || Nat.beq t 101) = true) (hy : y = nI j) (hj : (Nat.blt j k && Nat.blt k 2147483648) = true) (hv : f j = v) (K : aW P mid d w (pc + 1) lv (v :: st) h Q) : aW P mid d w pc lv (.int y :: .ref a :: st) h Q := by
  subst hy
  rw [Bool.and_eq_true] at hj
  rw [Bool.or_eq_true] at ht9
  exact q_baload ht ha (ht9.imp Nat.eq_of_beq_eq_true Nat.eq_of_beq_eq_true) (Nat.le_of_ble_eq_true hj.1) (Nat.le_of_ble_eq_true hj.2) hv K
theorem s_aaload {t k j : Nat} {f : Nat → Value} {v : Value} {y : Int32} (ht : P.tab mid pc = some (.aaload, len, r1, r2, rv)) (ha : h[a]? = some (t, k, f)) (ht9 : (Nat.ble 110 t && Nat.blt t 200) = true) (hy : y = nI j) (hj : (Nat.blt j k && Nat.blt k 2147483648) = true) (hv : f j = v) (K : aW P mid d w (pc + 1) lv (v :: st) h Q) : aW P mid d w pc lv (.int y :: .ref a :: st) h Q := by
  subst hy
  rw [Bool.and_eq_true] at hj ht9
  exact q_aaload ht ha (Nat.le_of_ble_eq_true ht9.1) (Nat.le_of_ble_eq_true ht9.2) (Nat.le_of_ble_eq_true hj.1) (Nat.le_of_ble_eq_true hj.2) hv K
theorem s_iastore {k j : Nat} {f : Nat → Value} {x : Int32} {y : Int32} (ht : P.tab mid pc = some (.iastore, len, r1, r2, rv)) (ha : h[a]? = some (102, k, f)) (hy : y = nI j) (hj : (Nat.blt j k && Nat.blt k 2147483648 && Nat.ble P.p0 a) = true) (K : ∀ h', h'[a]? = some (102, k, va_up f j (.int x)) → Fr (fun z => z = a) 0 0 h h' → aW P mid d w (pc + 1) lv st h' Q) : aW P mid d w pc lv (.int x :: .int y :: .ref a :: st) h Q := by
  subst hy
  rw [Bool.and_eq_true, Bool.and_eq_true] at hj
  exact q_iastore ht ha (Nat.le_of_ble_eq_true hj.1.1) (Nat.le_of_ble_eq_true hj.1.2) (Nat.le_of_ble_eq_true hj.2) K
theorem s_lastore {k j : Nat} {f : Nat → Value} {x : Int64} {y : Int32} (ht : P.tab mid pc = some (.lastore, len, r1, r2, rv)) (ha : h[a]? = some (103, k, f)) (hy : y = nI j) (hj : (Nat.blt j k && Nat.blt k 2147483648 && Nat.ble P.p0 a) = true) (K : ∀ h', h'[a]? = some (103, k, va_up f j (.long x)) → Fr (fun z => z = a) 0 0 h h' → aW P mid d w (pc + 1) lv st h' Q) : aW P mid d w pc lv (.long x :: .int y :: .ref a :: st) h Q := by
  subst hy
  rw [Bool.and_eq_true, Bool.and_eq_true] at hj
  exact q_lastore ht ha (Nat.le_of_ble_eq_true hj.1.1) (Nat.le_of_ble_eq_true hj.1.2) (Nat.le_of_ble_eq_true hj.2) K
theorem s_bastore {k j : Nat} {f : Nat → Value} {x : Int32} {y : Int32} (ht : P.tab mid pc = some (.bastore, len, r1, r2, rv)) (ha : h[a]? = some (100, k, f)) (hy : y = nI j) (hj : (Nat.blt j k && Nat.blt k 2147483648 && Nat.ble P.p0 a) = true) (K : ∀ h', h'[a]? = some (100, k, va_up f j (.int x.toInt8.toInt32)) → Fr (fun z => z = a) 0 0 h h' → aW P mid d w (pc + 1) lv st h' Q) : aW P mid d w pc lv (.int x :: .int y :: .ref a :: st) h Q := by
  subst hy
  rw [Bool.and_eq_true, Bool.and_eq_true] at hj
  exact q_bastore ht ha (Nat.le_of_ble_eq_true hj.1.1) (Nat.le_of_ble_eq_true hj.1.2) (Nat.le_of_ble_eq_true hj.2) K
theorem s_bastoreZ {k j : Nat} {f : Nat → Value} {x : Int32} {y : Int32} (ht : P.tab mid pc = some (.bastore, len, r1, r2, rv)) (ha : h[a]? = some (101, k, f)) (hy : y = nI j) (hj : (Nat.blt j k && Nat.blt k 2147483648 && Nat.ble P.p0 a) = true) (K : ∀ h', h'[a]? = some (101, k, va_up f j (.int (vp_nar .boolean x))) → Fr (fun z => z = a) 0 0 h h' → aW P mid d w (pc + 1) lv st h' Q) : aW P mid d w pc lv (.int x :: .int y :: .ref a :: st) h Q := by
  subst hy
  rw [Bool.and_eq_true, Bool.and_eq_true] at hj
  exact q_bastoreZ ht ha (Nat.le_of_ble_eq_true hj.1.1) (Nat.le_of_ble_eq_true hj.1.2) (Nat.le_of_ble_eq_true hj.2) K
theorem s_aastore {t k j b c : Nat} {f : Nat → Value} {vs : List Value} {y : Int32} (ht : P.tab mid pc = some (.aastore, len, r1, r2, rv)) (ha : h[a]? = some (t, k, f)) (hb : Ob h b c vs) (hc : (Nat.blt c 100 && P.ac t c) = true) (hy : y = nI j) (hj : (Nat.blt j k && Nat.blt k 2147483648 && Nat.ble P.p0 a && Nat.ble 110 t && Nat.blt t 200) = true) (K : ∀ h', h'[a]? = some (t, k, va_up f j (.ref b)) → Fr (fun z => z = a) 0 0 h h' → aW P mid d w (pc + 1) lv st h' Q) : aW P mid d w pc lv (.ref b :: .int y :: .ref a :: st) h Q := by
  subst hy
  simp only [Bool.and_eq_true] at hj
  obtain ⟨g, e, _⟩ := hb
  exact q_aastore ht ha (Nat.le_of_ble_eq_true hj.1.2) (Nat.le_of_ble_eq_true hj.2) (Nat.le_of_ble_eq_true hj.1.1.1.1) (Nat.le_of_ble_eq_true hj.1.1.1.2) (Nat.le_of_ble_eq_true hj.1.1.2) e hc K
end SYM
