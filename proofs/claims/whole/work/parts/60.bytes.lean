/-! Bytes: arrays of bytes compared -/
/-- a cell of bytes -/
def isB (h : ai_H) (a n : Nat) (f : Nat → Int32) : Prop := h[a]? = some (100, n, fun j => .int (f j)) ∧ n < 2147483648
def sameB (n : Nat) (f g : Nat → Int32) : Prop := ∀ j, j < n → f j = g j
theorem same_loop {d w : Nat} {h : ai_H} {a b n : Nat} {f g : Nat → Int32} (ha : isB h a n f) (hb : isB h b n g) (res : Int32) (hres : (res = 1 ∧ sameB n f g) ∨ (res = 0 ∧ ¬ sameB n f g)) : ∀ k i, n - i = k → i ≤ n → (∀ j, j < i → f j = g j) → ai_Runs aiP 24 d w 11 [(2, .int (nI i)), (0, .ref a), (1, .ref b)] [] h (.inl (some (.int res)), h)
  | k, i, hk, hi, hpre => by
    refine r_iload_n rfl rfl ?_
    refine r_aload_n rfl rfl ?_
    refine r_alen rfl ha.1 (by decide) (by decide) ?_
    refine r_icmp_ge rfl (fun hc => ?_) (fun hc => ?_)
    · have hin : i = n := by
        have := (nI_leI ha.2 (Nat.lt_of_le_of_lt hi ha.2)).mp hc
        omega
      subst hin
      refine r_iconst rfl ?_
      refine r_ireturn rfl rfl ?_
      rcases hres with ⟨rfl, -⟩ | ⟨rfl, h2⟩
      · rfl
      · exact absurd hpre h2
    · have hin : i < n := by
        refine Nat.lt_of_le_of_ne hi (fun e => hc ?_)
        subst e
        exact (nI_leI ha.2 ha.2).mpr (Nat.le_refl _)
      refine r_aload_n rfl rfl ?_
      refine r_iload_n rfl rfl ?_
      refine r_baload rfl ha.1 (Or.inl rfl) hin ha.2 rfl ?_
      refine r_aload_n rfl rfl ?_
      refine r_iload_n rfl rfl ?_
      refine r_baload rfl hb.1 (Or.inl rfl) hin hb.2 rfl ?_
      refine r_icmp_eq rfl (fun he => ?_) (fun he => ?_)
      · refine r_iinc rfl rfl (by decide) ?_
        refine r_goto rfl ?_
        have h1 : nI i + 1 = nI (i + 1) := nI_1 i
        rw [h1]
        exact same_loop ha hb res hres (k - 1) (i + 1) (by omega) hin (lt_s hpre he)
      · refine r_iconst rfl ?_
        refine r_ireturn rfl rfl ?_
        rcases hres with ⟨rfl, h2⟩ | ⟨rfl, -⟩
        · exact absurd (h2 i hin) he
        · rfl
termination_by k => k
decreasing_by omega
