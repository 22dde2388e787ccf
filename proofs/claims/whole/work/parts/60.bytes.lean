/-! Bytes: strings of bytes, compared -/
/-- a cell that holds the bytes bs -/
def BA (h : ai_H) (a : Nat) (bs : List Int32) : Prop := (∃ f : Nat → Value, h[a]? = some (100, bs.length, f) ∧ ∀ j, j < bs.length → f j = .int (bs.getD j 0)) ∧ bs.length < 2147483648
theorem same_iff (bs cs : List Int32) : bs = cs ↔ bs.length = cs.length ∧ ∀ j, j < bs.length → bs.getD j 0 = cs.getD j 0 := by
  constructor
  · rintro rfl
    exact ⟨rfl, fun _ _ => rfl⟩
  · rintro ⟨h1, h2⟩
    apply List.ext_getElem h1
    intro j g1 g2
    have := h2 j g1
    rw [List.getD_eq_getElem?_getD, List.getD_eq_getElem?_getD, List.getElem?_eq_getElem g1, List.getElem?_eq_getElem g2] at this
    exact this
/-- an answer of a test -/
def zB (b : Bool) : Int32 := if b then 1 else 0
theorem zB_ok (b : Bool) : ai_retok (some .boolean) (.int (zB b)) = true := by cases b <;> rfl
section BY
variable {d w : Nat} {h : ai_H} {a b : Nat} {bs cs : List Int32}
theorem same_loop (ha : BA h a bs) (hb : BA h b cs) (hl : bs.length = cs.length) : ∀ k i, bs.length - i = k → i ≤ bs.length → (∀ j, j < i → bs.getD j 0 = cs.getD j 0) → ai_Runs aiP 24 d w 11 [(2, .int (nI i)), (0, .ref a), (1, .ref b)] [] h (.inl (some (.int (zB (decide (bs = cs))))), h)
  | k, i, hk, hi, hpre => by
    obtain ⟨⟨f, hf, hf2⟩, hn⟩ := id ha
    obtain ⟨⟨g, hg, hg2⟩, hm⟩ := id hb
    refine r_iload_n rfl rfl ?_
    refine r_aload_n rfl rfl ?_
    refine r_alen rfl (by assumption) (by decide) (by decide) ?_
    refine r_icmp_ge rfl (fun hc => ?_) (fun hc => ?_)
    · have hin : i = bs.length := by
        have := (nI_leI hn (Nat.lt_of_le_of_lt hi hn)).mp hc
        omega
      refine r_iconst rfl ?_
      have he : bs = cs := (same_iff bs cs).mpr ⟨hl, fun j hj => hpre j (by omega)⟩
      rw [decide_eq_true he]
      exact r_ireturn rfl rfl rfl
    · have hin : i < bs.length := by
        refine Nat.lt_of_le_of_ne hi (fun e => hc ?_)
        subst e
        exact (nI_leI hn hn).mpr (Nat.le_refl _)
      refine r_aload_n rfl rfl ?_
      refine r_iload_n rfl rfl ?_
      refine r_baload rfl hf (Or.inl rfl) hin hn (hf2 i hin) ?_
      refine r_aload_n rfl rfl ?_
      refine r_iload_n rfl rfl ?_
      refine r_baload rfl hg (Or.inl rfl) (by omega) hm (hg2 i (by omega)) ?_
      refine r_icmp_eq rfl (fun he => ?_) (fun he => ?_)
      · refine r_iinc rfl rfl (by decide) ?_
        refine r_goto rfl ?_
        rw [nI_1 i]
        exact same_loop ha hb hl (k - 1) (i + 1) (by omega) hin (lt_s hpre he)
      · refine r_iconst rfl ?_
        have hne : ¬ bs = cs := fun z => he (((same_iff bs cs).mp z).2 i hin)
        rw [decide_eq_false hne]
        exact r_ireturn rfl rfl rfl
termination_by k => k
decreasing_by omega
theorem m_same (ha : BA h a bs) (hb : BA h b cs) : ai_Runs aiP 24 d w 0 [(0, .ref a), (1, .ref b)] [] h (.inl (some (.int (zB (decide (bs = cs))))), h) := by
  obtain ⟨⟨f, hf, hf2⟩, hn⟩ := id ha
  obtain ⟨⟨g, hg, hg2⟩, hm⟩ := id hb
  refine r_aload_n rfl rfl ?_
  refine r_alen rfl (by assumption) (by decide) (by decide) ?_
  refine r_aload_n rfl rfl ?_
  refine r_alen rfl (by assumption) (by decide) (by decide) ?_
  refine r_icmp_eq rfl (fun hc => ?_) (fun hc => ?_)
  · refine r_iconst rfl ?_
    refine r_istore_n rfl (by decide) ?_
    exact same_loop ha hb ((nI_eq hn hm).mp hc) _ 0 rfl (Nat.zero_le _) (fun j hj => absurd hj (Nat.not_lt_zero _))
  · refine r_iconst rfl ?_
    have hne : ¬ bs = cs := fun z => hc ((nI_eq hn hm).mpr (congrArg List.length z))
    rw [decide_eq_false hne]
    exact r_ireturn rfl rfl rfl
/-- top's bytes are the first of path's, and behind them stands nothing, or a / -/
def withinB (path top : List Int32) : Bool := decide (top.length ≤ path.length) && decide (∀ j, j < top.length → path.getD j 0 = top.getD j 0) && (decide (path.length = top.length) || decide (path.getD top.length 0 = 47))
theorem within_end (ha : BA h a bs) (hb : BA h b cs) (hl : cs.length ≤ bs.length) (hpre : ∀ j, j < cs.length → bs.getD j 0 = cs.getD j 0) : ai_Runs aiP 80 d w 34 [(2, .int (nI cs.length)), (0, .ref a), (1, .ref b)] [] h (.inl (some (.int (zB (withinB bs cs)))), h) := by
  obtain ⟨⟨f, hf, hf2⟩, hn⟩ := id ha
  obtain ⟨⟨g, hg, hg2⟩, hm⟩ := id hb
  refine r_aload_n rfl rfl ?_
  refine r_alen rfl (by assumption) (by decide) (by decide) ?_
  refine r_aload_n rfl rfl ?_
  refine r_alen rfl (by assumption) (by decide) (by decide) ?_
  refine r_icmp_eq rfl (fun hc => ?_) (fun hc => ?_)
  · refine r_iconst rfl ?_
    refine r_goto rfl ?_
    have he := (nI_eq hn hm).mp hc
    have : withinB bs cs = true := by unfold withinB; rw [decide_eq_true hl, decide_eq_true hpre, decide_eq_true he]; rfl
    rw [this]
    exact r_ireturn rfl rfl rfl
  · have hne : bs.length ≠ cs.length := fun z => hc ((nI_eq hn hm).mpr z)
    refine r_aload_n rfl rfl ?_
    refine r_aload_n rfl rfl ?_
    refine r_alen rfl (by assumption) (by decide) (by decide) ?_
    refine r_baload (j := cs.length) rfl hf (Or.inl rfl) (by omega) hn (hf2 _ (by omega)) ?_
    refine r_bipush rfl ?_
    refine r_icmp_ne rfl (fun hc2 => ?_) (fun hc2 => ?_)
    · refine r_iconst rfl ?_
      have : withinB bs cs = false := by simp [withinB, hne]; intro _ _; exact hc2
      rw [this]
      exact r_ireturn rfl rfl rfl
    · refine r_iconst rfl ?_
      refine r_goto rfl ?_
      have hc3 := Classical.not_not.mp hc2
      have : withinB bs cs = true := by simp only [withinB, hc3, decide_true, Bool.or_true, Bool.and_true]; simp [hl]; exact hpre
      rw [this]
      exact r_ireturn rfl rfl rfl
theorem within_loop (ha : BA h a bs) (hb : BA h b cs) (hl : cs.length ≤ bs.length) : ∀ k i, cs.length - i = k → i ≤ cs.length → (∀ j, j < i → bs.getD j 0 = cs.getD j 0) → ai_Runs aiP 80 d w 11 [(2, .int (nI i)), (0, .ref a), (1, .ref b)] [] h (.inl (some (.int (zB (withinB bs cs)))), h)
  | k, i, hk, hi, hpre => by
    obtain ⟨⟨f, hf, hf2⟩, hn⟩ := id ha
    obtain ⟨⟨g, hg, hg2⟩, hm⟩ := id hb
    refine r_iload_n rfl rfl ?_
    refine r_aload_n rfl rfl ?_
    refine r_alen rfl (by assumption) (by decide) (by decide) ?_
    refine r_icmp_ge rfl (fun hc => ?_) (fun hc => ?_)
    · have hin : i = cs.length := by
        have := (nI_leI hm (Nat.lt_of_le_of_lt hi hm)).mp hc
        omega
      subst hin
      exact within_end ha hb hl hpre
    · have hin : i < cs.length := by
        refine Nat.lt_of_le_of_ne hi (fun e => hc ?_)
        subst e
        exact (nI_leI hm hm).mpr (Nat.le_refl _)
      refine r_aload_n rfl rfl ?_
      refine r_iload_n rfl rfl ?_
      refine r_baload rfl hf (Or.inl rfl) (by omega) hn (hf2 i (by omega)) ?_
      refine r_aload_n rfl rfl ?_
      refine r_iload_n rfl rfl ?_
      refine r_baload rfl hg (Or.inl rfl) hin hm (hg2 i hin) ?_
      refine r_icmp_eq rfl (fun he => ?_) (fun he => ?_)
      · refine r_iinc rfl rfl (by decide) ?_
        refine r_goto rfl ?_
        rw [nI_1 i]
        exact within_loop ha hb hl (k - 1) (i + 1) (by omega) hin (lt_s hpre he)
      · refine r_iconst rfl ?_
        have : withinB bs cs = false := by
          simp only [withinB, Bool.and_eq_false_iff, decide_eq_false_iff_not]
          exact Or.inl (Or.inr (fun z => he (z i hin)))
        rw [this]
        exact r_ireturn rfl rfl rfl
termination_by k => k
decreasing_by omega
theorem m_isWithin (ha : BA h a bs) (hb : BA h b cs) : ai_Runs aiP 80 d w 0 [(0, .ref a), (1, .ref b)] [] h (.inl (some (.int (zB (withinB bs cs)))), h) := by
  obtain ⟨⟨f, hf, hf2⟩, hn⟩ := id ha
  obtain ⟨⟨g, hg, hg2⟩, hm⟩ := id hb
  refine r_aload_n rfl rfl ?_
  refine r_alen rfl (by assumption) (by decide) (by decide) ?_
  refine r_aload_n rfl rfl ?_
  refine r_alen rfl (by assumption) (by decide) (by decide) ?_
  refine r_icmp_ge rfl (fun hc => ?_) (fun hc => ?_)
  · refine r_iconst rfl ?_
    refine r_istore_n rfl (by decide) ?_
    exact within_loop ha hb ((nI_leI hm hn).mp hc) _ 0 rfl (Nat.zero_le _) (fun j hj => absurd hj (Nat.not_lt_zero _))
  · refine r_iconst rfl ?_
    have hne : ¬ cs.length ≤ bs.length := fun z => hc ((nI_leI hm hn).mpr z)
    have : withinB bs cs = false := by simp [withinB, hne]
    rw [this]
    exact r_ireturn rfl rfl rfl
/-- how long the path of all names but the last is -/
def dirB (bs : List Int32) : Nat → Nat
  | 0 => 0
  | i + 1 => if bs.getD (i + 1) 0 = 47 then i + 1 else dirB bs i
theorem dir_loop (ha : BA h a bs) : ∀ i, i < bs.length → ai_Runs aiP 64 d w 5 [(1, .int (nI i)), (0, .ref a)] [] h (.inl (some (.int (nI (dirB bs i)))), h)
  | 0, hi => by
    refine r_iload_n rfl rfl ?_
    refine r_if_le rfl (fun _ => ?_) (fun hc => absurd (by decide) hc)
    refine r_iconst rfl ?_
    exact r_ireturn rfl rfl rfl
  | i + 1, hi => by
    obtain ⟨⟨f, hf, hf2⟩, hn⟩ := id ha
    refine r_iload_n rfl rfl ?_
    refine r_if_le rfl (fun hc => absurd hc (nI_nle (Nat.succ_pos i) (by omega))) (fun _ => ?_)
    refine r_aload_n rfl rfl ?_
    refine r_iload_n rfl rfl ?_
    refine r_baload rfl hf (Or.inl rfl) hi hn (hf2 _ hi) ?_
    refine r_bipush rfl ?_
    refine r_icmp_ne rfl (fun hc => ?_) (fun hc => ?_)
    · refine r_iinc rfl rfl (by decide) ?_
      refine r_goto rfl ?_
      have h1 : dirB bs (i + 1) = dirB bs i := by rw [dirB, if_neg hc]
      rw [pk_m1 i, h1]
      exact dir_loop ha i (by omega)
    · refine r_iload_n rfl rfl ?_
      have h1 : dirB bs (i + 1) = i + 1 := by rw [dirB, if_pos (Classical.not_not.mp hc)]
      rw [h1]
      exact r_ireturn rfl rfl rfl
theorem m_directoryLength (ha : BA h a bs) (h0 : 0 < bs.length) : ai_Runs aiP 64 d w 0 [(0, .ref a)] [] h (.inl (some (.int (nI (dirB bs (bs.length - 1))))), h) := by
  obtain ⟨⟨f, hf, hf2⟩, hn⟩ := id ha
  refine r_aload_n rfl rfl ?_
  refine r_alen rfl (by assumption) (by decide) (by decide) ?_
  refine r_iconst rfl ?_
  refine r_isub rfl ?_
  refine r_istore_n rfl (by decide) ?_
  have h1 : Int32.ofNat bs.length - 1 = nI (bs.length - 1) := by
    have : bs.length = (bs.length - 1) + 1 := by omega
    show nI bs.length - 1 = _
    rw [this, nI_pred]
    rfl
  rw [h1]
  exact dir_loop ha _ (by omega)
/-- a byte as the order takes it: a / is 0 -/
def keyB (x : Int32) : Int32 := if x = 47 then 0 else x &&& 255
/-- the order of two strings, k places from i on to be looked at -/
def ordK (bs cs : List Int32) : Nat → Nat → Int32
  | 0, _ => nI bs.length - nI cs.length
  | k + 1, i => if keyB (bs.getD i 0) = keyB (cs.getD i 0) then ordK bs cs k (i + 1) else keyB (bs.getD i 0) - keyB (cs.getD i 0)
end BY
