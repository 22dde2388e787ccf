/-! Bytes: strings of bytes, compared -/
/-- a cell that holds the bytes bs -/
def BA (h : ai_H) (a : Nat) (bs : List Int32) : Prop := (∃ f : Nat → Value, h[a]? = some (100, bs.length, f) ∧ ∀ j, j < bs.length → f j = .int (bs.getD j 0)) ∧ bs.length < 2147483648
theorem same_iff (bs cs : List Int32) : bs = cs ↔ bs.length = cs.length ∧ ∀ j, j < bs.length → bs.getD j 0 = cs.getD j 0 := by
  constructor
  · rintro rfl
    exact ⟨rfl, fun _ _ => rfl⟩
  · rintro ⟨h1, h2⟩
    apply List.ext_getElem h1
    intro j g1 g2
    have := h2 j g1
    rw [List.getD_eq_getElem?_getD, List.getD_eq_getElem?_getD, List.getElem?_eq_getElem g1, List.getElem?_eq_getElem g2] at this
    exact this
/-- an answer of a test -/
def zB (b : Bool) : Int32 := if b then 1 else 0
theorem zB_ok (b : Bool) : ai_retok (some .boolean) (.int (zB b)) = true := by cases b <;> rfl
section BY
variable {d w : Nat} {h : ai_H} {a b : Nat} {bs cs : List Int32}
theorem same_loop (ha : BA h a bs) (hb : BA h b cs) (hl : bs.length = cs.length) : ∀ k i, bs.length - i = k → i ≤ bs.length → (∀ j, j < i → bs.getD j 0 = cs.getD j 0) → ai_Runs aiP 24 d w 11 [(2, .int (nI i)), (0, .ref a), (1, .ref b)] [] h (.inl (some (.int (zB (decide (bs = cs))))), h)
  | k, i, hk, hi, hpre => by
    obtain ⟨⟨f, hf, hf2⟩, hn⟩ := id ha
    obtain ⟨⟨g, hg, hg2⟩, hm⟩ := id hb
    refine r_iload_n rfl rfl ?_
    refine r_aload_n rfl rfl ?_
    refine r_alen rfl (by assumption) (by decide) (by decide) ?_
    refine r_icmp_ge rfl (fun hc => ?_) (fun hc => ?_)
    · have hin : i = bs.length := by
        have := (nI_leI hn (Nat.lt_of_le_of_lt hi hn)).mp hc
        omega
      refine r_iconst rfl ?_
      have he : bs = cs := (same_iff bs cs).mpr ⟨hl, fun j hj => hpre j (by omega)⟩
      rw [decide_eq_true he]
      exact r_ireturn rfl rfl rfl
    · have hin : i < bs.length := by
        refine Nat.lt_of_le_of_ne hi (fun e => hc ?_)
        subst e
        exact (nI_leI hn hn).mpr (Nat.le_refl _)
      refine r_aload_n rfl rfl ?_
      refine r_iload_n rfl rfl ?_
      refine r_baload rfl hf (Or.inl rfl) hin hn (hf2 i hin) ?_
      refine r_aload_n rfl rfl ?_
      refine r_iload_n rfl rfl ?_
      refine r_baload rfl hg (Or.inl rfl) (by omega) hm (hg2 i (by omega)) ?_
      refine r_icmp_eq rfl (fun he => ?_) (fun he => ?_)
      · refine r_iinc rfl rfl (by decide) ?_
        refine r_goto rfl ?_
        rw [nI_1 i]
        exact same_loop ha hb hl (k - 1) (i + 1) (by omega) hin (lt_s hpre he)
      · refine r_iconst rfl ?_
        have hne : ¬ bs = cs := fun z => he (((same_iff bs cs).mp z).2 i hin)
        rw [decide_eq_false hne]
        exact r_ireturn rfl rfl rfl
termination_by k => k
decreasing_by omega
theorem m_same (ha : BA h a bs) (hb : BA h b cs) : ai_Runs aiP 24 d w 0 [(0, .ref a), (1, .ref b)] [] h (.inl (some (.int (zB (decide (bs = cs))))), h) := by
  obtain ⟨⟨f, hf, hf2⟩, hn⟩ := id ha
  obtain ⟨⟨g, hg, hg2⟩, hm⟩ := id hb
  refine r_aload_n rfl rfl ?_
  refine r_alen rfl (by assumption) (by decide) (by decide) ?_
  refine r_aload_n rfl rfl ?_
  refine r_alen rfl (by assumption) (by decide) (by decide) ?_
  refine r_icmp_eq rfl (fun hc => ?_) (fun hc => ?_)
  · refine r_iconst rfl ?_
    refine r_istore_n rfl (by decide) ?_
    exact same_loop ha hb ((nI_eq hn hm).mp hc) _ 0 rfl (Nat.zero_le _) (fun j hj => absurd hj (Nat.not_lt_zero _))
  · refine r_iconst rfl ?_
    have hne : ¬ bs = cs := fun z => hc ((nI_eq hn hm).mpr (congrArg List.length z))
    rw [decide_eq_false hne]
    exact r_ireturn rfl rfl rfl
/-- top's bytes are the first of path's, and behind them stands nothing, or a / -/
def withinB (path top : List Int32) : Bool := decide (top.length ≤ path.length) && decide (∀ j, j < top.length → path.getD j 0 = top.getD j 0) && (decide (path.length = top.length) || decide (path.getD top.length 0 = 47))
theorem within_end (ha : BA h a bs) (hb : BA h b cs) (hl : cs.length ≤ bs.length) (hpre : ∀ j, j < cs.length → bs.getD j 0 = cs.getD j 0) : ai_Runs aiP 80 d w 34 [(2, .int (nI cs.length)), (0, .ref a), (1, .ref b)] [] h (.inl (some (.int (zB (withinB bs cs)))), h) := by
  obtain ⟨⟨f, hf, hf2⟩, hn⟩ := id ha
  obtain ⟨⟨g, hg, hg2⟩, hm⟩ := id hb
  refine r_aload_n rfl rfl ?_
  refine r_alen rfl (by assumption) (by decide) (by decide) ?_
  refine r_aload_n rfl rfl ?_
  refine r_alen rfl (by assumption) (by decide) (by decide) ?_
  refine r_icmp_eq rfl (fun hc => ?_) (fun hc => ?_)
  · refine r_iconst rfl ?_
    refine r_goto rfl ?_
    have he := (nI_eq hn hm).mp hc
    have : withinB bs cs = true := by unfold withinB; rw [decide_eq_true hl, decide_eq_true hpre, decide_eq_true he]; rfl
    rw [this]
    exact r_ireturn rfl rfl rfl
  · have hne : bs.length ≠ cs.length := fun z => hc ((nI_eq hn hm).mpr z)
    refine r_aload_n rfl rfl ?_
    refine r_aload_n rfl rfl ?_
    refine r_alen rfl (by assumption) (by decide) (by decide) ?_
    refine r_baload (j := cs.length) rfl hf (Or.inl rfl) (by omega) hn (hf2 _ (by omega)) ?_
    refine r_bipush rfl ?_
    refine r_icmp_ne rfl (fun hc2 => ?_) (fun hc2 => ?_)
    · refine r_iconst rfl ?_
      have : withinB bs cs = false := by simp [withinB, hne]; intro _ _; exact hc2
      rw [this]
      exact r_ireturn rfl rfl rfl
    · refine r_iconst rfl ?_
      refine r_goto rfl ?_
      have hc3 := Classical.not_not.mp hc2
      have : withinB bs cs = true := by simp only [withinB, hc3, decide_true, Bool.or_true, Bool.and_true]; simp [hl]; exact hpre
      rw [this]
      exact r_ireturn rfl rfl rfl
theorem within_loop (ha : BA h a bs) (hb : BA h b cs) (hl : cs.length ≤ bs.length) : ∀ k i, cs.length - i = k → i ≤ cs.length → (∀ j, j < i → bs.getD j 0 = cs.getD j 0) → ai_Runs aiP 80 d w 11 [(2, .int (nI i)), (0, .ref a), (1, .ref b)] [] h (.inl (some (.int (zB (withinB bs cs)))), h)
  | k, i, hk, hi, hpre => by
    obtain ⟨⟨f, hf, hf2⟩, hn⟩ := id ha
    obtain ⟨⟨g, hg, hg2⟩, hm⟩ := id hb
    refine r_iload_n rfl rfl ?_
    refine r_aload_n rfl rfl ?_
    refine r_alen rfl (by assumption) (by decide) (by decide) ?_
    refine r_icmp_ge rfl (fun hc => ?_) (fun hc => ?_)
    · have hin : i = cs.length := by
        have := (nI_leI hm (Nat.lt_of_le_of_lt hi hm)).mp hc
        omega
      subst hin
      exact within_end ha hb hl hpre
    · have hin : i < cs.length := by
        refine Nat.lt_of_le_of_ne hi (fun e => hc ?_)
        subst e
        exact (nI_leI hm hm).mpr (Nat.le_refl _)
      refine r_aload_n rfl rfl ?_
      refine r_iload_n rfl rfl ?_
      refine r_baload rfl hf (Or.inl rfl) (by omega) hn (hf2 i (by omega)) ?_
      refine r_aload_n rfl rfl ?_
      refine r_iload_n rfl rfl ?_
      refine r_baload rfl hg (Or.inl rfl) hin hm (hg2 i hin) ?_
      refine r_icmp_eq rfl (fun he => ?_) (fun he => ?_)
      · refine r_iinc rfl rfl (by decide) ?_
        refine r_goto rfl ?_
        rw [nI_1 i]
        exact within_loop ha hb hl (k - 1) (i + 1) (by omega) hin (lt_s hpre he)
      · refine r_iconst rfl ?_
        have : withinB bs cs = false := by
          simp only [withinB, Bool.and_eq_false_iff, decide_eq_false_iff_not]
          exact Or.inl (Or.inr (fun z => he (z i hin)))
        rw [this]
        exact r_ireturn rfl rfl rfl
termination_by k => k
decreasing_by omega
theorem m_isWithin (ha : BA h a bs) (hb : BA h b cs) : ai_Runs aiP 80 d w 0 [(0, .ref a), (1, .ref b)] [] h (.inl (some (.int (zB (withinB bs cs)))), h) := by
  obtain ⟨⟨f, hf, hf2⟩, hn⟩ := id ha
  obtain ⟨⟨g, hg, hg2⟩, hm⟩ := id hb
  refine r_aload_n rfl rfl ?_
  refine r_alen rfl (by assumption) (by decide) (by decide) ?_
  refine r_aload_n rfl rfl ?_
  refine r_alen rfl (by assumption) (by decide) (by decide) ?_
  refine r_icmp_ge rfl (fun hc => ?_) (fun hc => ?_)
  · refine r_iconst rfl ?_
    refine r_istore_n rfl (by decide) ?_
    exact within_loop ha hb ((nI_leI hm hn).mp hc) _ 0 rfl (Nat.zero_le _) (fun j hj => absurd hj (Nat.not_lt_zero _))
  · refine r_iconst rfl ?_
    have hne : ¬ cs.length ≤ bs.length := fun z => hc ((nI_leI hm hn).mpr z)
    have : withinB bs cs = false := by simp [withinB, hne]
    rw [this]
    exact r_ireturn rfl rfl rfl
/-- how long the path of all names but the last is -/
def dirB (bs : List Int32) : Nat → Nat
  | 0 => 0
  | i + 1 => if bs.getD (i + 1) 0 = 47 then i + 1 else dirB bs i
theorem dir_loop (ha : BA h a bs) : ∀ i, i < bs.length → ai_Runs aiP 64 d w 5 [(1, .int (nI i)), (0, .ref a)] [] h (.inl (some (.int (nI (dirB bs i)))), h)
  | 0, hi => by
    refine r_iload_n rfl rfl ?_
    refine r_if_le rfl (fun _ => ?_) (fun hc => absurd (by decide) hc)
    refine r_iconst rfl ?_
    exact r_ireturn rfl rfl rfl
  | i + 1, hi => by
    obtain ⟨⟨f, hf, hf2⟩, hn⟩ := id ha
    refine r_iload_n rfl rfl ?_
    refine r_if_le rfl (fun hc => absurd hc (nI_nle (Nat.succ_pos i) (by omega))) (fun _ => ?_)
    refine r_aload_n rfl rfl ?_
    refine r_iload_n rfl rfl ?_
    refine r_baload rfl hf (Or.inl rfl) hi hn (hf2 _ hi) ?_
    refine r_bipush rfl ?_
    refine r_icmp_ne rfl (fun hc => ?_) (fun hc => ?_)
    · refine r_iinc rfl rfl (by decide) ?_
      refine r_goto rfl ?_
      have h1 : dirB bs (i + 1) = dirB bs i := by rw [dirB, if_neg hc]
      rw [pk_m1 i, h1]
      exact dir_loop ha i (by omega)
    · refine r_iload_n rfl rfl ?_
      have h1 : dirB bs (i + 1) = i + 1 := by rw [dirB, if_pos (Classical.not_not.mp hc)]
      rw [h1]
      exact r_ireturn rfl rfl rfl
theorem m_directoryLength (ha : BA h a bs) (h0 : 0 < bs.length) : ai_Runs aiP 64 d w 0 [(0, .ref a)] [] h (.inl (some (.int (nI (dirB bs (bs.length - 1))))), h) := by
  obtain ⟨⟨f, hf, hf2⟩, hn⟩ := id ha
  refine r_aload_n rfl rfl ?_
  refine r_alen rfl (by assumption) (by decide) (by decide) ?_
  refine r_iconst rfl ?_
  refine r_isub rfl ?_
  refine r_istore_n rfl (by decide) ?_
  have h1 : Int32.ofNat bs.length - 1 = nI (bs.length - 1) := by
    have : bs.length = (bs.length - 1) + 1 := by omega
    show nI bs.length - 1 = _
    rw [this, nI_pred]
    rfl
  rw [h1]
  exact dir_loop ha _ (by omega)
end BY
section BYO
variable {d w : Nat} {h : ai_H} {a b : Nat} {bs cs : List Int32}
/-- a byte as the order takes it: a / is 0 -/
def keyB (x : Int32) : Int32 := if x = 47 then 0 else x &&& 255
/-- the order of two strings, k places from i on to be looked at -/
def ordK (bs cs : List Int32) : Nat → Nat → Int32
  | 0, _ => nI bs.length - nI cs.length
  | k + 1, i => if keyB (bs.getD i 0) = keyB (cs.getD i 0) then ordK bs cs k (i + 1) else keyB (bs.getD i 0) - keyB (cs.getD i 0)
theorem order_key (ha : BA h a bs) {i : Nat} (hi : i < bs.length) {lv : ai_L} {r : (Option Value ⊕ Nat) × ai_H} (hl0 : lv.lookup 0 = some (.ref a)) (hl3 : lv.lookup 3 = some (.int (nI i))) (K : ai_Runs aiP 58 d w 34 lv [.int (keyB (bs.getD i 0))] h r) : ai_Runs aiP 58 d w 15 lv [] h r := by
  obtain ⟨⟨f, hf, hf2⟩, hn⟩ := id ha
  refine r_aload_n rfl hl0 ?_
  refine r_iload_n rfl hl3 ?_
  refine r_baload rfl hf (Or.inl rfl) hi hn (hf2 i hi) ?_
  refine r_bipush rfl ?_
  refine r_icmp_ne rfl (fun c20 => ?_) (fun c20 => ?_)
  · refine r_aload_n rfl hl0 ?_
    refine r_iload_n rfl hl3 ?_
    refine r_baload rfl hf (Or.inl rfl) hi hn (hf2 i hi) ?_
    refine r_sipush rfl ?_
    refine r_iand rfl ?_
    unfold keyB at K
    rw [if_neg c20] at K
    exact K
  · refine r_iconst rfl ?_
    refine r_goto rfl ?_
    unfold keyB at K
    rw [if_pos (Classical.not_not.mp c20)] at K
    exact K
theorem order_key2 (ha : BA h b bs) {i : Nat} (hi : i < bs.length) {lv : ai_L} {r : (Option Value ⊕ Nat) × ai_H} (hl0 : lv.lookup 1 = some (.ref b)) (hl3 : lv.lookup 3 = some (.int (nI i))) (K : ai_Runs aiP 58 d w 55 lv [.int (keyB (bs.getD i 0))] h r) : ai_Runs aiP 58 d w 36 lv [] h r := by
  obtain ⟨⟨f, hf, hf2⟩, hn⟩ := id ha
  refine r_aload_n rfl hl0 ?_
  refine r_iload_n rfl hl3 ?_
  refine r_baload rfl hf (Or.inl rfl) hi hn (hf2 i hi) ?_
  refine r_bipush rfl ?_
  refine r_icmp_ne rfl (fun c41 => ?_) (fun c41 => ?_)
  · refine r_aload_n rfl hl0 ?_
    refine r_iload_n rfl hl3 ?_
    refine r_baload rfl hf (Or.inl rfl) hi hn (hf2 i hi) ?_
    refine r_sipush rfl ?_
    refine r_iand rfl ?_
    unfold keyB at K
    rw [if_neg c41] at K
    exact K
  · refine r_iconst rfl ?_
    refine r_goto rfl ?_
    unfold keyB at K
    rw [if_pos (Classical.not_not.mp c41)] at K
    exact K
theorem order_loop (ha : BA h a bs) (hb : BA h b cs) {m : Nat} (hm1 : m ≤ bs.length) (hm2 : m ≤ cs.length) : ∀ k i, i + k = m → ai_Runs aiP 58 d w 10 [(3, .int (nI i)), (2, .int (nI m)), (0, .ref a), (1, .ref b)] [] h (.inl (some (.int (ordK bs cs k i))), h)
  | 0, i, hk => by
    obtain ⟨⟨f, hf, hf2⟩, hn⟩ := id ha
    obtain ⟨⟨g, hg, hg2⟩, hm⟩ := id hb
    refine r_iload_n rfl rfl ?_
    refine r_iload_n rfl rfl ?_
    refine r_icmp_ge rfl (fun _ => ?_) (fun c => absurd ((nI_leI (by omega) (by omega)).mpr (by omega)) c)
    refine r_aload_n rfl rfl ?_
    refine r_alen rfl (by assumption) (by decide) (by decide) ?_
    refine r_aload_n rfl rfl ?_
    refine r_alen rfl (by assumption) (by decide) (by decide) ?_
    refine r_isub rfl ?_
    exact r_ireturn rfl rfl rfl
  | k + 1, i, hk => by
    have hn := ha.2
    have hm := hb.2
    refine r_iload_n rfl rfl ?_
    refine r_iload_n rfl rfl ?_
    refine r_icmp_ge rfl (fun c => absurd ((nI_leI (by omega) (by omega)).mp c) (by omega)) (fun _ => ?_)
    refine order_key ha (i := i) (by omega) rfl rfl ?_
    refine r_istore rfl (by decide) ?_
    refine order_key2 hb (i := i) (by omega) rfl rfl ?_
    refine r_istore rfl (by decide) ?_
    refine r_iload rfl rfl ?_
    refine r_iload rfl rfl ?_
    refine r_icmp_eq rfl (fun c61 => ?_) (fun c61 => ?_)
    · refine r_iinc rfl rfl (by decide) ?_
      refine r_goto rfl ?_
      have e : ordK bs cs (k + 1) i = ordK bs cs k (i + 1) := by rw [ordK, if_pos c61]
      rw [e, nI_1 i]
      exact lvS' (order_loop ha hb hm1 hm2 k (i + 1) (by omega)) rfl rfl (by repeat' (first | exact inL_n | refine inL_c rfl ?_))
    · refine r_iload rfl rfl ?_
      refine r_iload rfl rfl ?_
      refine r_isub rfl ?_
      have e : ordK bs cs (k + 1) i = keyB (bs.getD i 0) - keyB (cs.getD i 0) := by rw [ordK, if_neg c61]
      rw [e]
      exact r_ireturn rfl rfl rfl
theorem nI_min {m n : Nat} (hm : m < 2147483648) (hn : n < 2147483648) : (if nI n < nI m then nI n else nI m) = nI (min m n) := by
  by_cases c : n < m
  · rw [if_pos ((nI_ltI hn hm).mpr c), Nat.min_eq_right (by omega)]
  · rw [if_neg (fun z => c ((nI_ltI hn hm).mp z)), Nat.min_eq_left (by omega)]
/-- the order of two strings -/
def ordB (bs cs : List Int32) : Int32 := ordK bs cs (min bs.length cs.length) 0
theorem m_order (ha : BA h a bs) (hb : BA h b cs) (hd : 1 ≤ d) (hw : 13 ≤ w) : ai_Runs aiP 58 d w 0 [(0, .ref a), (1, .ref b)] [] h (.inl (some (.int (ordB bs cs))), h) := by
  obtain ⟨⟨f, hf, hf2⟩, hn⟩ := id ha
  obtain ⟨⟨g, hg, hg2⟩, hm⟩ := id hb
  refine r_aload_n rfl rfl ?_
  refine r_alen rfl (by assumption) (by decide) (by decide) ?_
  refine r_aload_n rfl rfl ?_
  refine r_alen rfl (by assumption) (by decide) (by decide) ?_
  refine r_min rfl hd hw ?_
  rw [show (if Int32.ofNat cs.length < Int32.ofNat bs.length then Int32.ofNat cs.length else Int32.ofNat bs.length) = nI (min bs.length cs.length) from nI_min hn hm]
  refine r_istore_n rfl (by decide) ?_
  refine r_iconst rfl ?_
  refine r_istore_n rfl (by decide) ?_
  exact order_loop ha hb (Nat.min_le_left _ _) (Nat.min_le_right _ _) _ 0 (Nat.zero_add _)
theorem nI_sub {m n : Nat} (h : n ≤ m) : nI m - nI n = nI (m - n) := by
  have : nI m = nI (m - n) + nI n := by rw [nI_add]; congr 1; omega
  rw [this, Int32.add_sub_cancel]
/-- the rest of a name: k bytes from i on -/
def nmK (bs : List Int32) : Nat → Nat → Bool → Bool
  | 0, _, dots => !dots
  | k + 1, i, dots => if bs.getD i 0 = 0 then false else nmK bs k (i + 1) (dots && decide (bs.getD i 0 = 46))
def nameB (bs : List Int32) (s t : Nat) : Bool := if t - s < 1 ∨ 24 < t - s then false else nmK bs (t - s) s (decide (t - s ≤ 2))
theorem name_loop (ha : BA h a bs) {t : Nat} (ht : t ≤ bs.length) : ∀ k i dots, i + k = t → ai_Runs aiP 22 d w 32 [(5, .int (nI i)), (4, .int (zB dots)), (0, .ref a), (2, .int (nI t))] [] h (.inl (some (.int (zB (nmK bs k i dots)))), h)
  | 0, i, dots, hk => by
    have hn := ha.2
    refine r_iload rfl rfl ?_
    refine r_iload_n rfl rfl ?_
    refine r_icmp_ge rfl (fun _ => ?_) (fun c => absurd ((nI_leI (by omega) (by omega)).mpr (by omega)) c)
    refine r_iload rfl rfl ?_
    refine r_if_ne rfl (fun c76 => ?_) (fun c76 => ?_)
    · refine r_iconst rfl ?_
      have e : dots = true := by cases dots <;> first | rfl | exact absurd rfl c76
      subst e
      exact r_ireturn rfl rfl rfl
    · refine r_iconst rfl ?_
      refine r_goto rfl ?_
      have e : dots = false := by cases dots <;> first | rfl | exact absurd (by decide) c76
      subst e
      exact r_ireturn rfl rfl rfl
  | k + 1, i, dots, hk => by
    obtain ⟨⟨f, hf, hf2⟩, hn⟩ := id ha
    refine r_iload rfl rfl ?_
    refine r_iload_n rfl rfl ?_
    refine r_icmp_ge rfl (fun c => absurd ((nI_leI (by omega) (by omega)).mp c) (by omega)) (fun _ => ?_)
    refine r_aload_n rfl rfl ?_
    refine r_iload rfl rfl ?_
    refine r_baload rfl hf (Or.inl rfl) (by omega) hn (hf2 i (by omega)) ?_
    refine r_if_ne rfl (fun c42 => ?_) (fun c42 => ?_)
    · have e : nmK bs (k + 1) i dots = nmK bs k (i + 1) (dots && decide (bs.getD i 0 = 46)) := by rw [nmK, if_neg c42]
      rw [e]
      refine r_iload rfl rfl ?_
      refine r_if_eq rfl (fun c49 => ?_) (fun c49 => ?_)
      · refine r_iconst rfl ?_
        refine r_istore rfl (by decide) ?_
        refine r_iinc rfl rfl (by decide) ?_
        refine r_goto rfl ?_
        have e2 : (dots && decide (bs.getD i 0 = 46)) = false := by cases dots <;> first | rfl | exact absurd c49 (by decide)
        rw [nI_1 i, e2]
        exact lvS' (name_loop ha ht k (i + 1) false (by omega)) rfl rfl (by repeat' (first | exact inL_n | refine inL_c rfl ?_))
      · refine r_aload_n rfl rfl ?_
        refine r_iload rfl rfl ?_
        refine r_baload rfl hf (Or.inl rfl) (by omega) hn (hf2 i (by omega)) ?_
        refine r_bipush rfl ?_
        refine r_icmp_ne rfl (fun c58 => ?_) (fun c58 => ?_)
        · refine r_iconst rfl ?_
          refine r_istore rfl (by decide) ?_
          refine r_iinc rfl rfl (by decide) ?_
          refine r_goto rfl ?_
          have e2 : (dots && decide (bs.getD i 0 = 46)) = false := by rw [decide_eq_false c58, Bool.and_false]
          rw [nI_1 i, e2]
          exact lvS' (name_loop ha ht k (i + 1) false (by omega)) rfl rfl (by repeat' (first | exact inL_n | refine inL_c rfl ?_))
        · refine r_iconst rfl ?_
          refine r_goto rfl ?_
          refine r_istore rfl (by decide) ?_
          refine r_iinc rfl rfl (by decide) ?_
          refine r_goto rfl ?_
          have e2 : (dots && decide (bs.getD i 0 = 46)) = true := by
            rw [decide_eq_true (Classical.not_not.mp c58), Bool.and_true]
            cases dots <;> first | rfl | exact absurd rfl c49
          rw [nI_1 i, e2]
          exact lvS' (name_loop ha ht k (i + 1) true (by omega)) rfl rfl (by repeat' (first | exact inL_n | refine inL_c rfl ?_))
    · refine r_iconst rfl ?_
      have e : nmK bs (k + 1) i dots = false := by rw [nmK, if_pos (Classical.not_not.mp c42)]
      rw [e]
      exact r_ireturn rfl rfl rfl
theorem m_isName (ha : BA h a bs) {s t : Nat} (hs : s ≤ t) (ht : t ≤ bs.length) : ai_Runs aiP 22 d w 0 [(0, .ref a), (1, .int (nI s)), (2, .int (nI t))] [] h (.inl (some (.int (zB (nameB bs s t)))), h) := by
  have hn := ha.2
  refine r_iload_n rfl rfl ?_
  refine r_iload_n rfl rfl ?_
  refine r_isub rfl ?_
  rw [nI_sub hs]
  refine r_istore_n rfl (by decide) ?_
  refine r_iload_n rfl rfl ?_
  refine r_iconst rfl ?_
  refine r_icmp_lt rfl (fun c6 => ?_) (fun c6 => ?_)
  · refine r_iconst rfl ?_
    have e := (nI_ltI (a := t - s) (b := 1) (by omega) (by omega)).mp c6
    have e2 : nameB bs s t = false := by rw [nameB, if_pos (Or.inl e)]
    rw [e2]
    exact r_ireturn rfl rfl rfl
  · refine r_iload_n rfl rfl ?_
    refine r_bipush rfl ?_
    refine r_icmp_le rfl (fun c12 => ?_) (fun c12 => ?_)
    · have e1 : ¬ (t - s < 1) := fun z => c6 ((nI_ltI (a := t - s) (b := 1) (by omega) (by omega)).mpr z)
      have e : t - s ≤ 24 := (nI_leI (a := t - s) (b := 24) (by omega) (by omega)).mp c12
      have e2 : nameB bs s t = nmK bs (t - s) s (decide (t - s ≤ 2)) := by rw [nameB, if_neg (by omega)]
      rw [e2]
      refine r_iload_n rfl rfl ?_
      refine r_iconst rfl ?_
      refine r_icmp_gt rfl (fun c19 => ?_) (fun c19 => ?_)
      · refine r_iconst rfl ?_
        refine r_istore rfl (by decide) ?_
        refine r_iload_n rfl rfl ?_
        refine r_istore rfl (by decide) ?_
        have e3 : ¬ (t - s ≤ 2) := Nat.not_le_of_lt ((nI_ltI (a := 2) (b := t - s) (by omega) (by omega)).mp c19)
        rw [decide_eq_false e3]
        exact lvS' (name_loop ha ht (t - s) s false (by omega)) rfl rfl (by repeat' (first | exact inL_n | refine inL_c rfl ?_))
      · refine r_iconst rfl ?_
        refine r_goto rfl ?_
        refine r_istore rfl (by decide) ?_
        refine r_iload_n rfl rfl ?_
        refine r_istore rfl (by decide) ?_
        have e3 : t - s ≤ 2 := Nat.le_of_not_lt (fun z => c19 ((nI_ltI (a := 2) (b := t - s) (by omega) (by omega)).mpr z))
        rw [decide_eq_true e3]
        exact lvS' (name_loop ha ht (t - s) s true (by omega)) rfl rfl (by repeat' (first | exact inL_n | refine inL_c rfl ?_))
    · refine r_iconst rfl ?_
      have e : 24 < t - s := Nat.lt_of_not_le (fun z => c12 ((nI_leI (a := t - s) (b := 24) (by omega) (by omega)).mpr z))
      have e2 : nameB bs s t = false := by rw [nameB, if_pos (Or.inr e)]
      rw [e2]
      exact r_ireturn rfl rfl rfl
/-- a path, k places from i on to be looked at -/
def pathK (bs : List Int32) : Nat → Nat → Nat → Nat → Bool
  | 0, _, _, n => decide (n ≤ 4)
  | k + 1, i, s, n => if i = bs.length ∨ bs.getD i 0 = 47 then (if nameB bs s i then pathK bs k (i + 1) (i + 1) (n + 1) else false) else pathK bs k (i + 1) s n
def pathB (bs : List Int32) : Bool := pathK bs (bs.length + 1) 0 0 0
theorem zB_ne {b : Bool} (h : ¬ zB b = 0) : b = true := by cases b <;> first | rfl | exact absurd rfl h
theorem zB_eq {b : Bool} (h : ¬ ¬ zB b = 0) : b = false := by cases b <;> first | rfl | exact absurd (by decide) h
theorem path_loop (ha : BA h a bs) (hL : bs.length < 1000000) (hd : 1 ≤ d) (hw : 25 ≤ w) : ∀ k i s n, i + k = bs.length + 1 → s ≤ i → n ≤ i → ai_Runs aiP 21 d w 6 [(3, .int (nI i)), (2, .int (nI s)), (1, .int (nI n)), (0, .ref a)] [] h (.inl (some (.int (zB (pathK bs k i s n)))), h)
  | 0, i, s, n, hk, hs, hn => by
    obtain ⟨⟨f, hf, hf2⟩, hn⟩ := id ha
    refine r_iload_n rfl rfl ?_
    refine r_aload_n rfl rfl ?_
    refine r_alen rfl (by assumption) (by decide) (by decide) ?_
    refine r_icmp_gt rfl (fun _ => ?_) (fun c => absurd ((nI_ltI (a := bs.length) (b := i) (by omega) (by omega)).mpr (by omega)) c)
    refine r_iload_n rfl rfl ?_
    refine r_iconst rfl ?_
    refine r_icmp_gt rfl (fun c52 => ?_) (fun c52 => ?_)
    · refine r_iconst rfl ?_
      have e : pathK bs 0 i s n = false := decide_eq_false (Nat.not_le_of_lt ((nI_ltI (a := 4) (b := n) (by omega) (by omega)).mp c52))
      rw [e]
      exact r_ireturn rfl rfl rfl
    · refine r_iconst rfl ?_
      refine r_goto rfl ?_
      have e : pathK bs 0 i s n = true := decide_eq_true (Nat.le_of_not_lt (fun z => c52 ((nI_ltI (a := 4) (b := n) (by omega) (by omega)).mpr z)))
      rw [e]
      exact r_ireturn rfl rfl rfl
  | k + 1, i, s, n, hk, hs, hn => by
    obtain ⟨⟨f, hf, hf2⟩, hn⟩ := id ha
    have nm : ai_Runs aiP 22 (d - 1) (w - 25) 0 [(0, .ref a), (1, .int (nI s)), (2, .int (nI i))] [] h (.inl (some (.int (zB (nameB bs s i)))), h) := m_isName ha hs (by omega)
    have e1 : i = bs.length ∨ bs.getD i 0 = 47 → nameB bs s i = true → pathK bs (k + 1) i s n = pathK bs k (i + 1) (i + 1) (n + 1) := fun h1 h2 => by rw [pathK, if_pos h1, if_pos h2]
    have e2 : i = bs.length ∨ bs.getD i 0 = 47 → nameB bs s i = false → pathK bs (k + 1) i s n = false := fun h1 h2 => by rw [pathK, if_pos h1, if_neg (by rw [h2]; decide)]
    refine r_iload_n rfl rfl ?_
    refine r_aload_n rfl rfl ?_
    refine r_alen rfl (by assumption) (by decide) (by decide) ?_
    refine r_icmp_gt rfl (fun c => absurd ((nI_ltI (a := bs.length) (b := i) (by omega) (by omega)).mp c) (by omega)) (fun _ => ?_)
    refine r_iload_n rfl rfl ?_
    refine r_aload_n rfl rfl ?_
    refine r_alen rfl (by assumption) (by decide) (by decide) ?_
    refine r_icmp_eq rfl (fun c15 => ?_) (fun c15 => ?_)
    · have o : i = bs.length ∨ bs.getD i 0 = 47 := Or.inl ((nI_eq (by omega) (by omega)).mp c15)
      refine r_aload_n rfl rfl ?_
      refine r_iload_n rfl rfl ?_
      refine r_iload_n rfl rfl ?_
      refine r_callS rfl (by decide) (as := [.ref a, .int (nI s), .int (nI i)]) rfl rfl (rm hd hw rfl) nm ?_
      refine r_if_ne rfl (fun c32 => ?_) (fun c32 => ?_)
      · refine r_iinc rfl rfl (by decide) ?_
        refine r_iload_n rfl rfl ?_
        refine r_iconst rfl ?_
        refine r_iadd rfl ?_
        refine r_istore_n rfl (by decide) ?_
        refine r_iinc rfl rfl (by decide) ?_
        refine r_goto rfl ?_
        rw [e1 o (zB_ne c32), nI_1 i, nI_1 n]
        exact lvS' (path_loop ha hL hd hw k (i + 1) (i + 1) (n + 1) (by omega) (by omega) (by omega)) rfl rfl (by repeat' (first | exact inL_n | refine inL_c rfl ?_))
      · refine r_iconst rfl ?_
        rw [e2 o (zB_eq c32)]
        exact r_ireturn rfl rfl rfl
    · have o1 : ¬ i = bs.length := fun z => c15 ((nI_eq (a := i) (b := bs.length) (by omega) (by omega)).mpr z)
      refine r_aload_n rfl rfl ?_
      refine r_iload_n rfl rfl ?_
      refine r_baload rfl hf (Or.inl rfl) (by omega) (by omega) (hf2 i (by omega)) ?_
      refine r_bipush rfl ?_
      refine r_icmp_ne rfl (fun c23 => ?_) (fun c23 => ?_)
      · refine r_iinc rfl rfl (by decide) ?_
        refine r_goto rfl ?_
        have e3 : pathK bs (k + 1) i s n = pathK bs k (i + 1) s n := by rw [pathK, if_neg (fun z => z.elim o1 c23)]
        rw [e3, nI_1 i]
        exact lvS' (path_loop ha hL hd hw k (i + 1) s n (by omega) (by omega) (by omega)) rfl rfl (by repeat' (first | exact inL_n | refine inL_c rfl ?_))
      · have o : i = bs.length ∨ bs.getD i 0 = 47 := Or.inr (Classical.not_not.mp c23)
        refine r_aload_n rfl rfl ?_
        refine r_iload_n rfl rfl ?_
        refine r_iload_n rfl rfl ?_
        refine r_callS rfl (by decide) (as := [.ref a, .int (nI s), .int (nI i)]) rfl rfl (rm hd hw rfl) nm ?_
        refine r_if_ne rfl (fun c32 => ?_) (fun c32 => ?_)
        · refine r_iinc rfl rfl (by decide) ?_
          refine r_iload_n rfl rfl ?_
          refine r_iconst rfl ?_
          refine r_iadd rfl ?_
          refine r_istore_n rfl (by decide) ?_
          refine r_iinc rfl rfl (by decide) ?_
          refine r_goto rfl ?_
          rw [e1 o (zB_ne c32), nI_1 i, nI_1 n]
          exact lvS' (path_loop ha hL hd hw k (i + 1) (i + 1) (n + 1) (by omega) (by omega) (by omega)) rfl rfl (by repeat' (first | exact inL_n | refine inL_c rfl ?_))
        · refine r_iconst rfl ?_
          rw [e2 o (zB_eq c32)]
          exact r_ireturn rfl rfl rfl
theorem m_isPath (ha : BA h a bs) (hL : bs.length < 1000000) (hd : 1 ≤ d) (hw : 25 ≤ w) : ai_Runs aiP 21 d w 0 [(0, .ref a)] [] h (.inl (some (.int (zB (pathB bs)))), h) := by
  refine r_iconst rfl ?_
  refine r_istore_n rfl (by decide) ?_
  refine r_iconst rfl ?_
  refine r_istore_n rfl (by decide) ?_
  refine r_iconst rfl ?_
  refine r_istore_n rfl (by decide) ?_
  exact path_loop ha hL hd hw (bs.length + 1) 0 0 0 (by omega) (by omega) (by omega)
end BYO
