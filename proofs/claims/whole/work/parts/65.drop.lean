/-! Tree.drop -/
/-- of the first i entries those that c keeps: how many, and which -/
def kp (es : Nat → Ent) (c : Ent → Bool) : Nat → Nat × (Nat → Ent)
  | 0 => (0, fun _ => e0)
  | i + 1 => if c (es i) then ((kp es c i).1 + 1, updE (kp es c i).2 (kp es c i).1 (es i)) else kp es c i
theorem kp_le (es : Nat → Ent) (c : Ent → Bool) : ∀ i, (kp es c i).1 ≤ i
  | 0 => Nat.le_refl _
  | i + 1 => by
    have := kp_le es c i
    rw [kp]
    split
    · exact Nat.succ_le_succ this
    · exact Nat.le_succ_of_le this
/-- rows: each one a row of the old ones, no two the same -/
def Rw (h : ai_H) (cap : Nat) (rs rs' : Nat → Nat) : Prop := (∀ i j, i < cap → j < cap → rs' i = rs' j → i = j) ∧ (∀ j, j < cap → RowAt h (rs' j)) ∧ ∀ j, j < cap → ∃ j', j' < cap ∧ rs' j = rs j'
def swp (rs : Nat → Nat) (i k : Nat) : Nat → Nat := fun j => if j = k then rs i else if j = i then rs k else rs j
theorem swp_inj {cap i k : Nat} {rs : Nat → Nat} (hi : i < cap) (hk : k < cap) (hr : ∀ i j, i < cap → j < cap → rs i = rs j → i = j) : ∀ a b, a < cap → b < cap → swp rs i k a = swp rs i k b → a = b := by
  intro a b ha hb e
  simp only [swp] at e
  split at e <;> split at e <;> (try split at e) <;> (try split at e) <;> first | omega | (have := hr _ _ (by omega) (by omega) e; omega)
theorem zB_inj {x y : Bool} (h : zB x = zB y) : x = y := by cases x <;> cases y <;> first | rfl | exact absurd h (by decide)
section DROP
variable {d w : Nat} {t ra cap n a : Nat} {rs : Nat → Nat} {es : Nat → Ent} {p : List Int32} {b : Bool}
def drC (p : List Int32) (b : Bool) (x : Ent) : Bool := withinB x.path p != b
theorem drop_loop (h6a : 6 ≤ ra) (hd : 1 ≤ d) (hw : 22 ≤ w) (hncap : n ≤ cap) (hcap : cap < 1000000) {Q : (Option Value ⊕ Nat) → ai_H → Prop} : ∀ m i (h : ai_H) (rs' : Nat → Nat), i + m = n → Ob h t 8 [.ref ra, .int (nI n)] → ¬ t = ra → BA h a p → RA h ra cap rs' → Rw h cap rs rs' → (∀ j, i ≤ j → j < cap → rs' j = rs j) → (∀ j, i ≤ j → j < n → EntAt h (rs j) (es j)) → (∀ j, j < (kp es (drC p b) i).1 → EntAt h (rs' j) ((kp es (drC p b) i).2 j)) → (∀ h' rs'', Ob h' t 8 [.ref ra, .int (nI n)] → RA h' ra cap rs'' → Rw h' cap rs rs'' → (∀ j, j < (kp es (drC p b) n).1 → EntAt h' (rs'' j) ((kp es (drC p b) n).2 j)) → Fr (fun z => z = ra) 0 0 h h' → aW aiP 79 d w 80 [(3, .int (nI (kp es (drC p b) n).1)), (4, .int (nI n)), (0, .ref t)] [] h' Q) → aW aiP 79 d w 11 [(5, .int (nI i)), (3, .int (nI (kp es (drC p b) i).1)), (4, .int (nI n)), (0, .ref t), (1, .ref a), (2, .int (zB b))] [] h Q
  | 0, i, h, rs', hi, ho, htr, hp, hra, hrw, hun, hes, hks, K => by
    have hi : i = n := hi
    subst hi
    refine q_iload rfl rfl ?_
    refine q_iload rfl rfl ?_
    refine q_icmp_ge rfl (fun _ => ?_) (fun c => absurd ((nI_leI (by omega) (by omega)).mpr (by omega)) c)
    exact aW_lv (K h rs' ho hra hrw hks (Fr.refl _ _)) rfl rfl (by repeat' (first | exact inL_n | refine inL_c rfl ?_))
  | m + 1, i, h, rs', hi, ho, htr, hp, hra, hrw, hun, hes, hks, K => by
    have hkl := kp_le es (drC p b) i
    obtain ⟨f, hf, hf2⟩ := id hra
    have hE := hes i (Nat.le_refl _) (by omega)
    have hri : rs' i = rs i := hun i (Nat.le_refl _) (by omega)
    obtain ⟨pa, cv, sv, he, hq, hc, hs⟩ := id hE
    have na : NA (fun z => z = ra) h := NA_1 hf (by decide) (by decide)
    have nra : ∀ j x, EntAt h j x → ¬ j = ra := fun j x hx => by
      obtain ⟨_, _, _, ho, _⟩ := hx
      exact ob_nec ho hf (by decide)
    refine q_iload rfl rfl ?_
    refine q_iload rfl rfl ?_
    refine q_icmp_ge rfl (fun c => absurd ((nI_leI (by omega) (by omega)).mp c) (by omega)) (fun _ => ?_)
    refine q_iload rfl rfl ?_
    refine q_aload_n rfl rfl ?_
    refine q_getO rfl (by assumption) rfl ?_
    refine q_alen rfl hf (by decide) (by decide) ?_
    refine q_icmp_ge rfl (fun c => absurd ((nI_leI (by omega) (by omega)).mp c) (by omega)) (fun _ => ?_)
    refine q_aload_n rfl rfl ?_
    refine q_getO rfl (by assumption) rfl ?_
    refine q_iload rfl rfl ?_
    refine q_aaload rfl hf (by decide) (by decide) (by omega) (by omega) ((hf2 i (by omega)).trans (by rw [hri])) ?_
    refine q_astore rfl (by decide) ?_
    refine q_aload rfl rfl ?_
    refine q_getO rfl (by assumption) rfl ?_
    refine q_aload_n rfl rfl ?_
    refine q_callSR rfl (by decide) (as := [.ref pa, .ref a]) rfl rfl (rm hd hw rfl) (m_isWithin hq hp) ?_
    refine q_iload_n rfl rfl ?_
    refine q_icmp_eq rfl (fun c47 => ?_) (fun c47 => ?_)
    · have ek : kp es (drC p b) (i + 1) = kp es (drC p b) i := by
        rw [kp, if_neg]
        have : withinB (es i).path p = b := zB_inj c47
        simp [drC, this]
      refine q_iinc rfl rfl (by decide) ?_
      refine q_goto rfl ?_
      rw [nI_1 i]
      refine aW_lv (ek ▸ drop_loop h6a hd hw hncap hcap m (i + 1) h rs' (by omega) ho htr hp hra hrw (fun j h1 h2 => hun j (by omega) h2) (fun j h1 h2 => hes j (by omega) h2) (by rw [ek]; exact hks) K) rfl rfl (by repeat' (first | exact inL_n | refine inL_c rfl ?_))
    · have ek : kp es (drC p b) (i + 1) = ((kp es (drC p b) i).1 + 1, updE (kp es (drC p b) i).2 (kp es (drC p b) i).1 (es i)) := by
        rw [kp, if_pos]
        have : ¬ withinB (es i).path p = b := fun z => c47 (by rw [z])
        simp [drC, this]
      obtain ⟨xk, hxk⟩ := hrw.2.1 (kp es (drC p b) i).1 (by omega)
      obtain ⟨pk, ck, sk, ok, _⟩ := id hxk
      obtain ⟨gk, eok, _⟩ := id ok
      refine q_aload_n rfl rfl ?_
      refine q_getO rfl (by assumption) rfl ?_
      refine q_iload rfl rfl ?_
      refine q_aload_n rfl rfl ?_
      refine q_getO rfl (by assumption) rfl ?_
      refine q_iload_n rfl rfl ?_
      refine q_aaload rfl hf (by decide) (by decide) (by omega) (by omega) (hf2 (kp es (drC p b) i).1 (by omega)) ?_
      refine q_aastore rfl hf (by decide) (by decide) (by omega) (by omega) h6a eok rfl (fun h62 e62 f62 => ?_)
      have ho62 := ho.fr f62 htr
      have he62 := he.fr f62 (nra _ _ hE)
      obtain ⟨ge, ee, _⟩ := id he62
      refine q_aload_n rfl rfl ?_
      refine q_getO rfl (by assumption) rfl ?_
      refine q_iload_n rfl rfl ?_
      refine q_aload rfl rfl ?_
      refine q_aastore rfl e62 (by decide) (by decide) (by omega) (by omega) h6a ee rfl (fun h70 e70 f70 => ?_)
      refine q_iinc rfl rfl (by decide) ?_
      refine q_iinc rfl rfl (by decide) ?_
      refine q_goto rfl ?_
      have F := f62.tr f70
      rw [nI_1 i, nI_1 (kp es (drC p b) i).1]
      have tr : ∀ j x, EntAt h j x → EntAt h70 j x := fun j x hx => hx.fr F na (nra j x hx)
      have e1 : (kp es (drC p b) (i + 1)).1 = (kp es (drC p b) i).1 + 1 := by rw [ek]
      have e2 : (kp es (drC p b) (i + 1)).2 = updE (kp es (drC p b) i).2 (kp es (drC p b) i).1 (es i) := by rw [ek]
      rw [← e1]
      refine aW_lv (drop_loop h6a hd hw hncap hcap m (i + 1) h70 (swp rs' i (kp es (drC p b) i).1) (by omega) (ho62.fr f70 htr) htr (hp.fr F na) ⟨_, e70, fun j hj => ?_⟩ ⟨swp_inj (by omega) (by omega) hrw.1, fun j hj => ?_, fun j hj => ?_⟩ (fun j h1 h2 => ?_) (fun j h1 h2 => tr _ _ (hes j (by omega) h2)) (fun j hj => ?_) (fun h' rs'' a1 a2 a3 a4 a5 => K h' rs'' a1 a2 a3 a4 (F.tr a5))) rfl rfl (by repeat' (first | exact inL_n | refine inL_c rfl ?_))
      · simp only [swp]
        by_cases j1 : j = (kp es (drC p b) i).1
        · subst j1
          rw [va_up_self, if_pos rfl, hri]
        · rw [va_up_ne _ _ j1, if_neg j1]
          by_cases j2 : j = i
          · subst j2
            rw [va_up_self, if_pos rfl]
          · rw [va_up_ne _ _ j2, if_neg j2, hf2 j hj]
      · have any : ∀ z, z < cap → RowAt h70 (rs' z) := fun z hz => by
          obtain ⟨x, hx⟩ := hrw.2.1 z hz
          exact ⟨x, tr _ _ hx⟩
        simp only [swp]
        split
        · exact any i (by omega)
        · split
          · exact any _ (by omega)
          · exact any j hj
      · simp only [swp]
        split
        · exact hrw.2.2 i (by omega)
        · split
          · exact hrw.2.2 _ (by omega)
          · exact hrw.2.2 j hj
      · simp only [swp]
        rw [if_neg (by omega), if_neg (by omega)]
        exact hun j (by omega) h2
      · rw [e1] at hj
        rw [e2]
        simp only [updE, swp]
        by_cases j1 : j = (kp es (drC p b) i).1
        · rw [if_pos j1, if_pos j1, hri]
          exact tr _ _ hE
        · rw [if_neg j1, if_neg j1, if_neg (by omega)]
          exact tr _ _ (hks j (by omega))
theorem m_drop {h : ai_H} (ht : TreeAt h t ra cap rs n es) (hp : BA h a p) (h6 : 6 ≤ t) (h6a : 6 ≤ ra) (hd : 1 ≤ d) (hw : 22 ≤ w) : aW aiP 79 d w 0 [(0, .ref t), (1, .ref a), (2, .int (zB b))] [] h (fun q h' => ∃ v, q = .inl v ∧ v = some (.int (nI (n - (kp es (drC p b) n).1))) ∧ (∃ rs', TreeAt h' t ra cap rs' (kp es (drC p b) n).1 (kp es (drC p b) n).2 ∧ ∀ j, j < cap → ∃ j', j' < cap ∧ rs' j = rs j') ∧ Fr (fun z => z = ra ∨ z = t) 0 0 h h') := by
  obtain ⟨htr, hrr, hrt⟩ := ht.ne
  obtain ⟨h1, h0, h2, h3, h4, h5, h7⟩ := ht
  have hkl := kp_le es (drC p b) n
  refine q_iconst rfl ?_
  refine q_istore_n rfl (by decide) ?_
  refine q_aload_n rfl rfl ?_
  refine q_getO rfl (by assumption) rfl ?_
  refine q_istore rfl (by decide) ?_
  refine q_iconst rfl ?_
  refine q_istore rfl (by decide) ?_
  refine aW_lv (drop_loop (rs := rs) (es := es) (p := p) (b := b) h6a hd hw h2 h3 n 0 h rs (by omega) h1 htr hp h0 ⟨h4, h7, fun j hj => ⟨j, hj, rfl⟩⟩ (fun _ _ _ => rfl) (fun j _ hj => h5 j hj) (fun j hj => absurd hj (Nat.not_lt_zero _)) (fun hA rs' oA rA wA eA fA => ?_)) rfl rfl (by repeat' (first | exact inL_n | refine inL_c rfl ?_))
  refine q_aload_n rfl rfl ?_
  refine q_iload_n rfl rfl ?_
  refine q_putO rfl (by assumption) rfl (by assumption) (by first | rfl | assumption) (fun h82 o82 f82 => ?_)
  refine q_iload rfl rfl ?_
  refine q_iload_n rfl rfl ?_
  refine q_isub rfl ?_
  rw [nI_sub hkl]
  refine q_ireturn rfl rfl ?_
  have na : NA (fun z => z = t) hA := NA_ob oA (by decide) (by decide)
  have nt : ∀ z x, EntAt hA z x → ¬ z = t := fun z x hx => by
    obtain ⟨_, _, _, ho, _⟩ := hx
    exact ob_ne ho oA (by decide)
  refine ⟨_, rfl, rfl, ⟨rs', ⟨o82, rA.fr f82 (fun z => htr z.symm), by omega, h3, wA.1, fun j hj => (eA j hj).fr f82 na (nt _ _ (eA j hj)), fun j hj => ?_⟩, wA.2.2⟩, (fA.sub (fun z q => Or.inl q)).tr (f82.sub (fun z q => Or.inr q))⟩
  obtain ⟨x, hx⟩ := wA.2.1 j hj
  exact ⟨x, hx.fr f82 na (nt _ _ hx)⟩
end DROP
