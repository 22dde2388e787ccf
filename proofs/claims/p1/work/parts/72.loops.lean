/-! the reference's loops over marks; the law's end -/
def p_Q : (Option Value ⊕ Nat) → ai_H → Prop := fun o h' => o = .inl (some (.int 1)) ∧ h'.length ≤ 600002 ∧ ai_sz h' ≤ 7302232
theorem Hs.bd {L n z : Nat} {h : ai_H} (s : Hs L n z h) (hb : (Nat.ble n 600002 && Nat.ble (z + L) 7302232) = true) : h.length ≤ 600002 ∧ ai_sz h ≤ 7302232 := by
  rw [Bool.and_eq_true] at hb
  have h1 := Nat.le_of_ble_eq_true hb.1
  have h2 := Nat.le_of_ble_eq_true hb.2
  have h3 := s.1
  have h4 := s.2
  exact ⟨by omega, by omega⟩
theorem va_z {f : Nat → Value} {i : Nat} {v : Value} (hz : ∀ j, f j = .int 0) (hv : v = .int 0) : ∀ j, va_up f i v j = .int 0 := by
  intro j
  by_cases e : j = i
  · subst e
    rw [va_up_self]
    exact hv
  · rw [va_up_ne _ _ e]
    exact hz j
theorem nar0 : Value.int (vp_nar .boolean 0) = .int 0 := by decide
theorem mk_loop {d w a N n : Nat} {v : Value} {h : ai_H} {f : Nat → Value} (ha : h[a]? = some (101, N, f)) (hz : ∀ j, f j = .int 0) (hn : n ≤ N) (hN : N < 100000) : ∀ (k i : Nat), i + k = n → aW aiP 290 d w 5 [(4, .int (nI i)), (3, .int 0), (0, v), (1, .ref a), (2, .int (nI n))] [] h (fun o h' => ∃ u, o = .inl u ∧ u = some (.int 0) ∧ h' = h)
  | 0, i, hik => by
    refine q_iload rfl rfl ?_
    refine q_iload_n rfl rfl ?_
    refine q_icmp_ge rfl (fun _ => ?_) (fun c => absurd (nI_le (by omega) (by omega)) c)
    refine q_iload_n rfl rfl ?_
    refine q_ireturn rfl rfl ?_
    exact ⟨_, rfl, rfl, rfl⟩
  | k + 1, i, hik => by
    refine q_iload rfl rfl ?_
    refine q_iload_n rfl rfl ?_
    refine q_icmp_ge rfl (fun c => absurd c (Int32.not_le.mpr (nI_lt (by omega) (by omega)))) (fun _ => ?_)
    refine q_iload_n rfl rfl ?_
    refine q_aload_n rfl rfl ?_
    refine q_iload rfl rfl ?_
    refine q_baload rfl ha (Or.inr rfl) (by omega) (by omega) (hz i) ?_
    refine q_if_eq rfl (fun _ => ?_) (fun c => absurd rfl c)
    refine q_iconst rfl ?_
    refine s_iadd (k := 0) rfl (by decide) ?_
    refine q_istore_n rfl (by decide) ?_
    refine q_iinc rfl rfl (by decide) ?_
    refine q_goto rfl ?_
    have K := mk_loop (d := d) (w := w) (v := v) ha hz hn hN k (i + 1) (by omega)
    rw [nI_succ] at K
    exact K
theorem m_marks {d w a N n : Nat} {x : Int32} {v : Value} {h : ai_H} {f : Nat → Value} (ha : h[a]? = some (101, N, f)) (hz : ∀ j, f j = .int 0) (hx : x = nI n) (hn : n ≤ N) (hN : N < 100000) : aW aiP 290 d w 0 [(0, v), (1, .ref a), (2, .int x)] [] h (fun o h' => ∃ u, o = .inl u ∧ u = some (.int 0) ∧ h' = h) := by
  subst hx
  refine q_iconst rfl ?_
  refine q_istore_n rfl (by decide) ?_
  refine q_iconst rfl ?_
  refine q_istore rfl (by decide) ?_
  exact mk_loop ha hz hn hN n 0 (by omega)
theorem cs_loop {d w m a : Nat} {vs : List Value} {Q : (Option Value ⊕ Nat) → ai_H → Prop} (h5 : Nat.blt 25 vs.length = true) (g25 : vs.getD 25 .null = .ref a) (hne : m ≠ a) (h6 : 6 ≤ a) : ∀ (k i : Nat) (h : ai_H) (f : Nat → Value), i + k = 80 → Ob h m 12 vs → h[a]? = some (101, 2480, f) → (∀ j, f j = .int 0) → (∀ h' f', h'[a]? = some (101, 2480, f') → (∀ j, f' j = .int 0) → Fr (fun z => z = a) 0 0 h h' → aW aiP 244 d w 54 [(2, .int 80), (0, .ref m), (1, .int 0)] [] h' Q) → aW aiP 244 d w 30 [(2, .int (nI i)), (0, .ref m), (1, .int 0)] [] h Q
  | 0, i, h, f, hik, ho, ha, hz, K => by
    have e : i = 80 := by omega
    subst e
    refine q_iload_n rfl rfl ?_
    refine q_bipush rfl ?_
    refine q_icmp_ge rfl (fun _ => ?_) (fun c => absurd (nI_le (a := 80) (b := 80) (by omega) (by omega)) c)
    exact K h f ha hz (Fr.refl _ _)
  | k + 1, i, h, f, hik, ho, ha, hz, K => by
    refine q_iload_n rfl rfl ?_
    refine q_bipush rfl ?_
    refine q_icmp_ge rfl (fun c => absurd c (Int32.not_le.mpr (nI_lt (a := i) (b := 80) (by omega) (by omega)))) (fun _ => ?_)
    refine q_aload_n rfl rfl ?_
    refine s_get (v := .ref a) rfl ho h5 g25 ?_
    refine q_bipush rfl ?_
    refine q_iload_n rfl rfl ?_
    refine s_imul (k := 0) rfl (by decide) ?_
    refine q_iload_n rfl rfl ?_
    refine s_iadd (k := nI i) rfl (Int32.zero_add _) ?_
    refine q_iconst rfl ?_
    refine q_bastoreZ rfl ha (by omega) (by omega) h6 (fun h47 a47 f47 => ?_)
    refine q_iinc rfl rfl (by decide) ?_
    refine q_goto rfl ?_
    have K9 := cs_loop (d := d) (w := w) (Q := Q) h5 g25 hne h6 k (i + 1) h47 _ (by omega) (ho.fr f47 hne) a47 (va_z hz nar0) (fun h' f' p1 p2 p3 => K h' f' p1 p2 (f47.tr p3))
    rw [nI_succ] at K9
    exact K9
theorem kp1 {d w m s1 i1 s2 i2 : Nat} {vs : List Value} {Q : (Option Value ⊕ Nat) → ai_H → Prop} (l32 : Nat.blt 32 vs.length = true) (g32 : vs.getD 32 .null = .ref s1) (l23 : Nat.blt 23 vs.length = true) (g23 : vs.getD 23 .null = .ref i1) (l33 : Nat.blt 33 vs.length = true) (g33 : vs.getD 33 .null = .ref s2) (l24 : Nat.blt 24 vs.length = true) (g24 : vs.getD 24 .null = .ref i2) (hne : m ≠ s1 ∧ m ≠ s2 ∧ i1 ≠ s1 ∧ i1 ≠ s2 ∧ i2 ≠ s1 ∧ i2 ≠ s2 ∧ s2 ≠ s1 ∧ s1 ≠ s2) (h6 : 6 ≤ s1 ∧ 6 ≤ s2) : ∀ (k i : Nat) (h : ai_H) (f1 f2 f3 f4 : Nat → Value), i + k = 31 → Ob h m 12 vs → h[s1]? = some (101, 31, f1) → h[i1]? = some (101, 31, f2) → (∀ j, f2 j = .int 0) → h[s2]? = some (101, 31, f3) → h[i2]? = some (101, 31, f4) → (∀ j, f4 j = .int 0) → (∀ h', Fr (fun z => z = s1 ∨ z = s2) 0 0 h h' → aW aiP 241 d w 38 [(1, .int 31), (0, .ref m)] [] h' Q) → aW aiP 241 d w 2 [(1, .int (nI i)), (0, .ref m)] [] h Q
  | 0, i, h, f1, f2, f3, f4, hik, ho, a1, a2, z2, a3, a4, z4, K => by
    have e : i = 31 := by omega
    subst e
    refine q_iload_n rfl rfl ?_
    refine q_bipush rfl ?_
    refine q_icmp_ge rfl (fun _ => ?_) (fun c => absurd (nI_le (a := 31) (b := 31) (by omega) (by omega)) c)
    exact K h (Fr.refl _ _)
  | k + 1, i, h, f1, f2, f3, f4, hik, ho, a1, a2, z2, a3, a4, z4, K => by
    obtain ⟨n1, n2, n3, n4, n5, n6, n7, n8⟩ := hne
    refine q_iload_n rfl rfl ?_
    refine q_bipush rfl ?_
    refine q_icmp_ge rfl (fun c => absurd c (Int32.not_le.mpr (nI_lt (a := i) (b := 31) (by omega) (by omega)))) (fun _ => ?_)
    refine q_aload_n rfl rfl ?_
    refine s_get (v := .ref s1) rfl ho l32 g32 ?_
    refine q_iload_n rfl rfl ?_
    refine q_aload_n rfl rfl ?_
    refine s_get (v := .ref i1) rfl ho l23 g23 ?_
    refine q_iload_n rfl rfl ?_
    refine q_baload rfl a2 (Or.inr rfl) (by omega) (by omega) (z2 i) ?_
    refine q_bastoreZ rfl a1 (by omega) (by omega) h6.1 (fun hA aA fA => ?_)
    have oA := ho.fr fA n1
    have a2A := fA.get n3 a2
    have a3A := fA.get n7 a3
    have a4A := fA.get n5 a4
    refine q_aload_n rfl rfl ?_
    refine s_get (v := .ref s2) rfl oA l33 g33 ?_
    refine q_iload_n rfl rfl ?_
    refine q_aload_n rfl rfl ?_
    refine s_get (v := .ref i2) rfl oA l24 g24 ?_
    refine q_iload_n rfl rfl ?_
    refine q_baload rfl a4A (Or.inr rfl) (by omega) (by omega) (z4 i) ?_
    refine q_bastoreZ rfl a3A (by omega) (by omega) h6.2 (fun hB aB fB => ?_)
    refine q_iinc rfl rfl (by decide) ?_
    refine q_goto rfl ?_
    have K9 := kp1 (d := d) (w := w) (Q := Q) l32 g32 l23 g23 l33 g33 l24 g24 ⟨n1, n2, n3, n4, n5, n6, n7, n8⟩ h6 k (i + 1) hB _ _ _ _ (by omega) (oA.fr fB n2) (fB.get n8 aA) (fB.get n4 a2A) z2 aB (fB.get n6 a4A) z4 (fun h' p => K h' (((fA.trans fB).trans p).mono (fun z _ q => q.elim id id) (Nat.le_refl _) (Nat.le_refl _)))
    rw [nI_succ] at K9
    exact K9
theorem kp2 {d w m s1 i1 s2 i2 : Nat} {vs : List Value} {Q : (Option Value ⊕ Nat) → ai_H → Prop} (l35 : Nat.blt 35 vs.length = true) (g35 : vs.getD 35 .null = .ref s1) (l26 : Nat.blt 26 vs.length = true) (g26 : vs.getD 26 .null = .ref i1) (l36 : Nat.blt 36 vs.length = true) (g36 : vs.getD 36 .null = .ref s2) (l27 : Nat.blt 27 vs.length = true) (g27 : vs.getD 27 .null = .ref i2) (hne : m ≠ s1 ∧ m ≠ s2 ∧ i1 ≠ s1 ∧ i1 ≠ s2 ∧ i2 ≠ s1 ∧ i2 ≠ s2 ∧ s2 ≠ s1 ∧ s1 ≠ s2) (h6 : 6 ≤ s1 ∧ 6 ≤ s2) : ∀ (k i : Nat) (h : ai_H) (f1 f2 f3 f4 : Nat → Value), i + k = 80 → Ob h m 12 vs → h[s1]? = some (101, 80, f1) → h[i1]? = some (101, 80, f2) → (∀ j, f2 j = .int 0) → h[s2]? = some (101, 80, f3) → h[i2]? = some (101, 80, f4) → (∀ j, f4 j = .int 0) → (∀ h', Fr (fun z => z = s1 ∨ z = s2) 0 0 h h' → aW aiP 241 d w 76 [(1, .int 80), (0, .ref m)] [] h' Q) → aW aiP 241 d w 40 [(1, .int (nI i)), (0, .ref m)] [] h Q
  | 0, i, h, f1, f2, f3, f4, hik, ho, a1, a2, z2, a3, a4, z4, K => by
    have e : i = 80 := by omega
    subst e
    refine q_iload_n rfl rfl ?_
    refine q_bipush rfl ?_
    refine q_icmp_ge rfl (fun _ => ?_) (fun c => absurd (nI_le (a := 80) (b := 80) (by omega) (by omega)) c)
    exact K h (Fr.refl _ _)
  | k + 1, i, h, f1, f2, f3, f4, hik, ho, a1, a2, z2, a3, a4, z4, K => by
    obtain ⟨n1, n2, n3, n4, n5, n6, n7, n8⟩ := hne
    refine q_iload_n rfl rfl ?_
    refine q_bipush rfl ?_
    refine q_icmp_ge rfl (fun c => absurd c (Int32.not_le.mpr (nI_lt (a := i) (b := 80) (by omega) (by omega)))) (fun _ => ?_)
    refine q_aload_n rfl rfl ?_
    refine s_get (v := .ref s1) rfl ho l35 g35 ?_
    refine q_iload_n rfl rfl ?_
    refine q_aload_n rfl rfl ?_
    refine s_get (v := .ref i1) rfl ho l26 g26 ?_
    refine q_iload_n rfl rfl ?_
    refine q_baload rfl a2 (Or.inr rfl) (by omega) (by omega) (z2 i) ?_
    refine q_bastoreZ rfl a1 (by omega) (by omega) h6.1 (fun hA aA fA => ?_)
    have oA := ho.fr fA n1
    have a2A := fA.get n3 a2
    have a3A := fA.get n7 a3
    have a4A := fA.get n5 a4
    refine q_aload_n rfl rfl ?_
    refine s_get (v := .ref s2) rfl oA l36 g36 ?_
    refine q_iload_n rfl rfl ?_
    refine q_aload_n rfl rfl ?_
    refine s_get (v := .ref i2) rfl oA l27 g27 ?_
    refine q_iload_n rfl rfl ?_
    refine q_baload rfl a4A (Or.inr rfl) (by omega) (by omega) (z4 i) ?_
    refine q_bastoreZ rfl a3A (by omega) (by omega) h6.2 (fun hB aB fB => ?_)
    refine q_iinc rfl rfl (by decide) ?_
    refine q_goto rfl ?_
    have K9 := kp2 (d := d) (w := w) (Q := Q) l35 g35 l26 g26 l36 g36 l27 g27 ⟨n1, n2, n3, n4, n5, n6, n7, n8⟩ h6 k (i + 1) hB _ _ _ _ (by omega) (oA.fr fB n2) (fB.get n8 aA) (fB.get n4 a2A) z2 aB (fB.get n6 a4A) z4 (fun h' p => K h' (((fA.trans fB).trans p).mono (fun z _ q => q.elim id id) (Nat.le_refl _) (Nat.le_refl _)))
    rw [nI_succ] at K9
    exact K9
theorem kp3 {d w m s1 i1 : Nat} {vs : List Value} {Q : (Option Value ⊕ Nat) → ai_H → Prop} (l34 : Nat.blt 34 vs.length = true) (g34 : vs.getD 34 .null = .ref s1) (l25 : Nat.blt 25 vs.length = true) (g25 : vs.getD 25 .null = .ref i1) (hne : m ≠ s1 ∧ i1 ≠ s1) (h6 : 6 ≤ s1) : ∀ (k i : Nat) (h : ai_H) (f1 f2 : Nat → Value), i + k = 2480 → Ob h m 12 vs → h[s1]? = some (101, 2480, f1) → h[i1]? = some (101, 2480, f2) → (∀ j, f2 j = .int 0) → (∀ h', Fr (fun z => z = s1) 0 0 h h' → aW aiP 241 d w 103 [(1, .int 2480), (0, .ref m)] [] h' Q) → aW aiP 241 d w 78 [(1, .int (nI i)), (0, .ref m)] [] h Q
  | 0, i, h, f1, f2, hik, ho, a1, a2, z2, K => by
    have e : i = 2480 := by omega
    subst e
    refine q_iload_n rfl rfl ?_
    refine q_sipush rfl ?_
    refine q_icmp_ge rfl (fun _ => ?_) (fun c => absurd (nI_le (a := 2480) (b := 2480) (by omega) (by omega)) c)
    exact K h (Fr.refl _ _)
  | k + 1, i, h, f1, f2, hik, ho, a1, a2, z2, K => by
    obtain ⟨n1, n2⟩ := hne
    refine q_iload_n rfl rfl ?_
    refine q_sipush rfl ?_
    refine q_icmp_ge rfl (fun c => absurd c (Int32.not_le.mpr (nI_lt (a := i) (b := 2480) (by omega) (by omega)))) (fun _ => ?_)
    refine q_aload_n rfl rfl ?_
    refine s_get (v := .ref s1) rfl ho l34 g34 ?_
    refine q_iload_n rfl rfl ?_
    refine q_aload_n rfl rfl ?_
    refine s_get (v := .ref i1) rfl ho l25 g25 ?_
    refine q_iload_n rfl rfl ?_
    refine q_baload rfl a2 (Or.inr rfl) (by omega) (by omega) (z2 i) ?_
    refine q_bastoreZ rfl a1 (by omega) (by omega) h6 (fun hA aA fA => ?_)
    refine q_iinc rfl rfl (by decide) ?_
    refine q_goto rfl ?_
    have K9 := kp3 (d := d) (w := w) (Q := Q) l34 g34 l25 g25 ⟨n1, n2⟩ h6 k (i + 1) hA _ _ (by omega) (ho.fr fA n1) aA (fA.get n2 a2) z2 (fun h' p => K h' (fA.tr p))
    rw [nI_succ] at K9
    exact K9
theorem i32_of {x k : Int32} {n : Int} (e : x.toInt = n) (hk : k.toInt = n) : x = k := Int32.toInt_inj.mp (e.trans hk.symm)
theorem lt0i {x : Int32} (h : x < 0) : x.toInt < 0 := by
  have h1 := Int32.lt_iff_toInt_lt.mp h
  have e0 : (0 : Int32).toInt = 0 := by decide
  omega
theorem lt0o {x : Int32} (h : x.toInt < 0) : x < 0 := by
  refine Int32.lt_iff_toInt_lt.mpr ?_
  have e0 : (0 : Int32).toInt = 0 := by decide
  omega
theorem gti {x k : Int32} {n : Int} (hk : k.toInt = n) (h : k < x) : n < x.toInt := by
  have h1 := Int32.lt_iff_toInt_lt.mp h
  omega
theorem gto {x k : Int32} {n : Int} (hk : k.toInt = n) (h : n < x.toInt) : k < x := Int32.lt_iff_toInt_lt.mpr (by omega)
theorem nl20 {x : Int32} (h : 20 < x) : ¬ x < 0 := fun z => by
  have h1 := gti (n := 20) (by decide) h
  have h2 := lt0i z
  omega
theorem nl7 {x : Int32} (h : 7 < x) : ¬ x < 0 := fun z => by
  have h1 := gti (n := 7) (by decide) h
  have h2 := lt0i z
  omega
theorem nl6 {x : Int32} (h : 6 < x) : ¬ x < 0 := fun z => by
  have h1 := gti (n := 6) (by decide) h
  have h2 := lt0i z
  omega
theorem nm7 {x : Int32} (h : 7 < x) : ¬ x < 8 := fun z => by
  have h1 := gti (n := 7) (by decide) h
  have h2 := Int32.lt_iff_toInt_lt.mp z
  have e0 : (8 : Int32).toInt = 8 := by decide
  omega
theorem nm6 {x : Int32} (h : 6 < x) : ¬ x < 7 := fun z => by
  have h1 := gti (n := 6) (by decide) h
  have h2 := Int32.lt_iff_toInt_lt.mp z
  have e0 : (7 : Int32).toInt = 7 := by decide
  omega
theorem nl1 {x : Int32} (h : ¬ x < 0) : ¬ x ≤ -1 := fun z => h (by
  refine lt0o ?_
  have h2 := Int32.le_iff_toInt_le.mp z
  have e0 : (-1 : Int32).toInt = -1 := by decide
  omega)
theorem sw_out {lo hi dd : Int} {offs : Array Int} {pc tg : Nat} {x : Int32} {lv : ai_L} {st : List Value} (h : x.toInt < lo ∨ hi < x.toInt) (h0 : decide (0 ≤ (pc : Int) + dd) = true) (ht : ((pc : Int) + dd).toNat = tg) : ai_sw lo hi dd offs pc lv (.int x :: st) = ai_nx tg lv st := by
  unfold ai_sw
  dsimp only
  rw [if_pos h, if_pos (of_decide_eq_true h0), ht]
theorem en_loop {d w m a : Nat} {x : Int32} {vs : List Value} {Q : (Option Value ⊕ Nat) → ai_H → Prop} (h5 : Nat.blt 1 vs.length = true) (g1 : vs.getD 1 .null = .ref a) (hne : m ≠ a) (h6 : 6 ≤ a) : ∀ (k i : Nat) (h : ai_H) (f : Nat → Value), i + k = 20 → Ob h m 12 vs → h[a]? = some (102, 20, f) → (∀ h', Fr (fun z => z = a) 0 0 h h' → aW aiP 217 d w 88 [(2, .int 20), (0, .ref m), (1, .int x)] [] h' Q) → aW aiP 217 d w 69 [(2, .int (nI i)), (0, .ref m), (1, .int x)] [] h Q
  | 0, i, h, f, hik, ho, ha, K => by
    have e : i = 20 := by omega
    subst e
    refine q_iload_n rfl rfl ?_
    refine q_bipush rfl ?_
    refine q_icmp_ge rfl (fun _ => ?_) (fun c => absurd (nI_le (a := 20) (b := 20) (by omega) (by omega)) c)
    exact K h (Fr.refl _ _)
  | k + 1, i, h, f, hik, ho, ha, K => by
    refine q_iload_n rfl rfl ?_
    refine q_bipush rfl ?_
    refine q_icmp_ge rfl (fun c => absurd c (Int32.not_le.mpr (nI_lt (a := i) (b := 20) (by omega) (by omega)))) (fun _ => ?_)
    refine q_aload_n rfl rfl ?_
    refine s_get (v := .ref a) rfl ho h5 g1 ?_
    refine q_iload_n rfl rfl ?_
    refine q_iconst rfl ?_
    refine q_iastore rfl ha (by omega) (by omega) h6 (fun h81 a81 f81 => ?_)
    refine q_iinc rfl rfl (by decide) ?_
    refine q_goto rfl ?_
    have K9 := en_loop (d := d) (w := w) (x := x) (Q := Q) h5 g1 hne h6 k (i + 1) h81 _ (by omega) (ho.fr f81 hne) a81 (fun h' p => K h' (f81.tr p))
    rw [nI_succ] at K9
    exact K9
theorem fi_loop {d w a : Nat} {x : Int32} {Q : (Option Value ⊕ Nat) → ai_H → Prop} (h6 : 6 ≤ a) : ∀ (k i : Nat) (h : ai_H) (f : Nat → Value), i + k = 20 → h[a]? = some (100, 20, f) → (∀ h', Fr (fun z => z = a) 0 0 h h' → Q (.inl none) h') → aW aiP 16 d w 5 [(2, .int (nI i)), (3, .int 20), (0, .ref a), (1, .int x)] [] h Q
  | 0, i, h, f, hik, ha, K => by
    have e : i = 20 := by omega
    subst e
    refine q_iload_n rfl rfl ?_
    refine q_iload_n rfl rfl ?_
    refine q_icmp_ge rfl (fun _ => ?_) (fun c => absurd (nI_le (a := 20) (b := 20) (by omega) (by omega)) c)
    refine q_return rfl rfl ?_
    exact K h (Fr.refl _ _)
  | k + 1, i, h, f, hik, ha, K => by
    refine q_iload_n rfl rfl ?_
    refine q_iload_n rfl rfl ?_
    refine q_icmp_ge rfl (fun c => absurd c (Int32.not_le.mpr (nI_lt (a := i) (b := 20) (by omega) (by omega)))) (fun _ => ?_)
    refine q_aload_n rfl rfl ?_
    refine q_iload_n rfl rfl ?_
    refine q_iload_n rfl rfl ?_
    refine q_bastore rfl ha (by omega) (by omega) h6 (fun h13 a13 f13 => ?_)
    refine q_iinc rfl rfl (by decide) ?_
    refine q_goto rfl ?_
    have K9 := fi_loop (d := d) (w := w) (x := x) (Q := Q) h6 k (i + 1) h13 _ (by omega) a13 (fun h' p => K h' (f13.tr p))
    rw [nI_succ] at K9
    exact K9
