/-! the run of a method, and what it says of the machine -/
def ai_exn (t : Nat) : String := if t = 1 then "java/lang/IllegalArgumentException" else "java/lang/IllegalStateException"
def ai_find (hs : List (Nat × Nat × Nat × Nat × Nat)) (pc t : Nat) : Option Nat := match hs with
  | [] => none
  | q :: r => if decide (q.1 ≤ pc) && decide (pc < q.2.1) && decide (q.2.2.2.2 = t) then some q.2.2.1 else ai_find r pc t
/-- the cell of an exception -/
def ai_xc : ai_C := (200, 6, fun _ => Value.null)
/-- behind a call -/
def ai_post (thr : Bool) (hs : List (Nat × Nat × Nat × Nat × Nat)) (pc : Nat) (rest : List Value) (r : Option ((Option Value ⊕ Nat) × ai_H)) (k : Nat → List Value → ai_H → Option ((Option Value ⊕ Nat) × ai_H)) : Option ((Option Value ⊕ Nat) × ai_H) := match r with
  | none => none
  | some (.inl v, h1) => k (pc + 3) (v.toList ++ rest) h1
  | some (.inr t, h1) => if thr then (match ai_find hs pc t with
    | some tg => k tg [.ref h1.length] (h1 ++ [ai_xc])
    | none => if hs.isEmpty then some (.inr t, h1) else none) else none
def ai_thr (q : ai_I) (M : ai_M) : Bool := match q.ins with
  | .invokespecial _ => false
  | _ => M.hs.isEmpty
def ai_run (P : ai_P) : Nat → Nat → Nat → Nat → Nat → ai_L → List Value → ai_H → Option ((Option Value ⊕ Nat) × ai_H)
  | 0, _, _, _, _, _, _, _ => none
  | n + 1, mid, d, w, pc, lv, st, h => match P.tab mid pc with
    | none => none
    | some q => match ai_ex P d w (P.mth mid).maxL (P.mth mid).ret q pc lv st h with
      | none => none
      | some (.inl (pc', lv', st', x)) => ai_run P n mid d w pc' lv' st' (ai_app h x)
      | some (.inr (.inl (mid', as, rest))) =>
        if d = 0 ∨ w < 8 + ((P.mth mid').maxL + 11) ∨ 8 < ai_wt rest ∨ (P.mth mid').maxL < ai_wt as then none
        else ai_post (ai_thr q (P.mth mid')) (P.mth mid).hs pc rest (ai_run P n mid' (d - 1) (w - (8 + ((P.mth mid').maxL + 11))) 0 (lv_args 0 as) [] h) (fun pc' st' h' => ai_run P n mid d w pc' lv st' h')
      | some (.inr (.inr (.inl v))) => some (.inl v, h)
      | some (.inr (.inr (.inr t))) => if (P.mth mid).hs.isEmpty ∧ 5 < d ∧ ai_wt st + 81 ≤ w then some (.inr t, h) else none
theorem ai_app_mono (h : ai_H) (x : ai_E) : h.length ≤ (ai_app h x).length ∧ ai_sz h ≤ ai_sz (ai_app h x) := by
  rcases x with _ | ⟨k, f⟩ | c
  · exact ⟨Nat.le_refl _, Nat.le_refl _⟩
  · simp only [ai_app]
    cases hk : h[k]? with
    | none => exact ⟨Nat.le_refl _, Nat.le_refl _⟩
    | some c =>
      have hkl := (List.getElem?_eq_some_iff.mp hk).1
      refine ⟨by simp, Nat.le_of_eq ?_⟩
      simp only [ai_sz, List.map_set]
      congr 1
      apply List.ext_getElem?
      intro i
      by_cases hik : i = k
      · subst hik
        rw [List.getElem?_set_self (by simpa using hkl), List.getElem?_map, hk]
        rfl
      · rw [List.getElem?_set_ne (Ne.symm hik)]
  · simp [ai_app, ai_sz]
theorem ai_mono {P : ai_P} : ∀ (n mid d w pc : Nat) (lv : ai_L) (st : List Value) (h : ai_H) (o : Option Value ⊕ Nat) (h' : ai_H), ai_run P n mid d w pc lv st h = some (o, h') → h.length ≤ h'.length ∧ ai_sz h ≤ ai_sz h'
  | 0, _, _, _, _, _, _, _, _, _, hr => by cases hr
  | n + 1, mid, d, w, pc, lv, st, h, o, h', hr => by
    unfold ai_run at hr
    split at hr
    · cases hr
    · split at hr
      · cases hr
      · rename_i x _
        have h1 := ai_app_mono h x
        have h2 := ai_mono n _ _ _ _ _ _ _ _ _ hr
        exact ⟨Nat.le_trans h1.1 h2.1, Nat.le_trans h1.2 h2.2⟩
      · split at hr
        · cases hr
        · unfold ai_post at hr
          split at hr
          · cases hr
          · rename_i hc
            have h1 := ai_mono n _ _ _ _ _ _ _ _ _ hc
            have h2 := ai_mono n _ _ _ _ _ _ _ _ _ hr
            exact ⟨Nat.le_trans h1.1 h2.1, Nat.le_trans h1.2 h2.2⟩
          · rename_i t h1' hc
            have h1 := ai_mono n _ _ _ _ _ _ _ _ _ hc
            split at hr
            case isFalse => cases hr
            split at hr
            · have h2 := ai_mono n _ _ _ _ _ _ _ _ _ hr
              have h3 := ai_app_mono h1' (.inr (.inr ai_xc))
              exact ⟨Nat.le_trans h1.1 (Nat.le_trans h3.1 h2.1), Nat.le_trans h1.2 (Nat.le_trans h3.2 h2.2)⟩
            · split at hr
              · cases hr; exact h1
              · cases hr
      · cases hr; exact ⟨Nat.le_refl _, Nat.le_refl _⟩
      · split at hr
        · cases hr; exact ⟨Nat.le_refl _, Nat.le_refl _⟩
        · cases hr
/-- words that stay under warmer tables, though no list of good words may hold them -/
def ai_nwk (w : Cond) : Prop := (∃ a i b n d h, w = .fieldLinkNest a i b n d h) ∨ (∃ a i x h, w = .methodLinkNest a i x h) ∨ (∃ C T, w = .castable C T) ∨ ∃ x, w = .declares x
theorem ai_nw_warm {w : Cond} (hk : ai_nwk w) {s U : State} (hW : s.WarmedH U.vm) (h : va_Nw w s) : va_Nw w U := by
  rcases hk with ⟨a, i, b, n, d, hh, rfl⟩ | ⟨a, i, x, hh, rfl⟩ | ⟨C, T, rfl⟩ | ⟨x, rfl⟩
  · exact h.warmF hW
  · exact h.warmM hW
  · exact h.warmC hW
  · exact h.warmD hW
/-- what is given: the tables' lists, the program, the world's fixed parts -/
def ai_env (cl : List vw_C) (D : va_G) (sl : ai_SL) (ao : List String) (nw : List Cond) (nc : List (String × String)) (ad : Nat → Nat) (A : Nat → Prop) (U : State) (H : Heap) : Prop :=
  va_K D cl [] U ∧ (∀ z ∈ sl, va_Z z.1 z.2.1 z.2.2.1 (ai_v ad z.2.2.2) A U H) ∧ (∀ C ∈ ao, va_AO C U) ∧ (∀ w ∈ nw, va_Nw w U) ∧ vx_Zq Bundle.tN "UNASSIGNED_STACK" Bundle.steD A U H ∧ vx_Zq Bundle.tN "SUPPRESSED_SENTINEL" Bundle.listD A U H ∧ ∀ z ∈ nc, va_Nc z.1 z.2 U
theorem ai_env.to {cl : List vw_C} {D : va_G} {sl : ai_SL} {ao : List String} {nw : List Cond} {nc : List (String × String)} {ad ad' : Nat → Nat} {A : Nat → Prop} {s U : State} {H H1 : Heap} (hE : ai_env cl D sl ao nw nc ad A s H) (hnk : ∀ w ∈ nw, ai_nwk w) {n : Nat} (hso : ∀ z ∈ sl, ai_ok n z.2.2.2) (he : ∀ k, k < n → ad' k = ad k) (hW : s.WarmedH U.vm) (hq : ∀ a : Nat, a < H.size → ¬ A a → H1[a]? = H[a]?) : ai_env cl D sl ao nw nc ad' A U H1 := by
  obtain ⟨h1, h2, h3, h4, h5, h6, h7⟩ := hE
  refine ⟨h1.moved hW.alike, fun z hz => ?_, fun C hC => (h3 C hC).moved hW.alike, fun w hw => ai_nw_warm (hnk w hw) hW (h4 w hw), (h5.moved hW.alike).kept hq, (h6.moved hW.alike).kept hq, fun z hz => (h7 z hz).moved hW.alike⟩
  rw [ai_v_ext he (hso z hz)]
  exact ((h2 z hz).moved hW.alike).kept hq
/-- what is known of a method -/
def ai_hd4 (hs : List (Nat × Nat × Nat × Nat × Nat)) : List (Nat × Nat × Nat × Nat) := hs.map (fun q => (q.1, q.2.1, q.2.2.1, q.2.2.2.1))
def ai_mw (M : ai_M) : Cond := if M.hs.isEmpty then .code M.y M.code M.maxL M.ret else .codeWith M.y M.code M.maxL M.ret (ai_hd4 M.hs)
def ai_mok (tb : List Cond) (M : ai_M) : Prop := plainName M.y.cls = true ∧ ai_mw M ∈ tb ∧ Cond.initialized M.y.cls ∈ tb ∧ M.y.cls ≠ "java/lang/invoke/MethodHandle" ∧ M.y.cls ≠ "java/lang/invoke/VarHandle" ∧
  ∀ q ∈ M.hs, q.2.2.2.1 ≠ 0 ∧ (q.2.2.2.2 = 1 ∨ q.2.2.2.2 = 2) ∧ Cond.classLink M.y.cls q.2.2.2.1 (ai_exn q.2.2.2.2) ∈ tb
def ai_np (y : MethodName) : Option Nat := (parseMethodDescriptor y.desc).map (fun d => d.parameters.length)
/-- what is known of a call, or of a throw -/
def ai_cok (tb nw : List Cond) (cl : List vw_C) (P : ai_P) (own : String) (cc : ByteArray) (pc : Nat) (q : ai_I) : Prop := match q.ins with
  | .invokestatic idx => (5001 ≤ q.r1 ∧ q.r1 ≤ 5004) ∨ (ai_mok tb (P.mth q.r1) ∧ Cond.methodLink own idx (P.mth q.r1).y ∈ tb ∧ Cond.static (P.mth q.r1).y ∈ tb ∧ ai_np (P.mth q.r1).y = some q.r2)
  | .invokevirtual idx => ai_mok tb (P.mth q.r1) ∧ (P.mth q.r1).hs = [] ∧ Cond.methodLink own idx (P.mth q.r1).y ∈ tb ∧ Cond.instanceMethod (P.mth q.r1).y ∈ tb ∧ Cond.selects (P.mth q.r1).y.cls (P.mth q.r1).y (P.mth q.r1).y ∈ tb ∧ (∃ k, q.r2 = k + 1 ∧ ai_np (P.mth q.r1).y = some k) ∧
    ∃ (t : Nat) (T : u_T) (N : Nat), q.rv = .retAddr t ∧ t < 100 ∧ cl[t]? = some ((P.mth q.r1).y.cls, T, N)
  | .invokespecial idx => q.r1 = 5000 ∨ (ai_mok tb (P.mth q.r1) ∧ (P.mth q.r1).hs = [] ∧ (P.mth q.r1).ret = none ∧ (Cond.methodLink own idx (P.mth q.r1).y ∈ tb ∨ ∃ host, Cond.methodLinkNest own idx (P.mth q.r1).y host ∈ nw) ∧ Cond.instanceMethod (P.mth q.r1).y ∈ tb ∧ (P.mth q.r1).y.name = "<init>" ∧ ∃ k, q.r2 = k + 1 ∧ ai_np (P.mth q.r1).y = some k)
  | .new idx => q.r2 = 9999 → ∃ ic, (q.r1 = 1 ∨ q.r1 = 2) ∧ decode cc (pc + 3) = .ok (.dup, 1) ∧ decode cc (pc + 4) = .ok (.invokespecial ic, 3) ∧ decode cc (pc + 7) = .ok (.athrow, 1) ∧ Cond.classLink own idx (ai_exn q.r1) ∈ tb ∧ Cond.initialized (ai_exn q.r1) ∈ tb ∧
      ∀ w ∈ vx_at0 own ic (ai_exn q.r1) ["java/lang/RuntimeException", "java/lang/Exception"], w ∈ tb ∨ w ∈ nw
  | _ => True
