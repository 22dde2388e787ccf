/-! Tree.grow -/
def shf (rs : Nat → Nat) (n i : Nat) : Nat → Nat := fun j => if i < j ∧ j ≤ n then rs (j - 1) else rs j
def RA (h : ai_H) (ra cap : Nat) (rs : Nat → Nat) : Prop := ∃ f : Nat → Value, h[ra]? = some (110, cap, f) ∧ ∀ j, j < cap → f j = .ref (rs j)
theorem RA.fr {S : Nat → Prop} {k m : Nat} {h h' : ai_H} {ra cap : Nat} {rs : Nat → Nat} (b : RA h ra cap rs) (F : Fr S k m h h') (hn : ¬ S ra) : RA h' ra cap rs := by
  obtain ⟨f, e, q⟩ := b
  exact ⟨f, F.get hn e, q⟩
section GROW
variable {d w : Nat} {t ra cap n p row : Nat} {rs : Nat → Nat} {Q : (Option Value ⊕ Nat) → ai_H → Prop}
theorem grow_shift (hp6 : 6 ≤ ra) (hn : n < cap) (hcap : cap < 1000000) (htr : ¬ t = ra) (hrr : ∀ j, j < cap → ¬ rs j = ra) : ∀ k (h : ai_H), p + k ≤ n → Ob h t 8 [.ref ra, .int (nI n)] → RA h ra cap (shf rs n (p + k)) → (∀ j, j < cap → ∃ c, h[rs j]? = some c ∧ c.1 = 3) → (∀ h', RA h' ra cap (shf rs n p) → Fr (fun z => z = ra) 0 0 h h' → aW aiP 66 d w 66 [(2, .ref row), (0, .ref t), (1, .int (nI p))] [] h' Q) → aW aiP 66 d w 41 [(3, .int (nI (p + k))), (2, .ref row), (0, .ref t), (1, .int (nI p))] [] h Q
  | 0, h, hi, ho, hf, hc, K => by
    refine q_iload_n rfl rfl ?_
    refine q_iload_n rfl rfl ?_
    refine q_icmp_le rfl (fun _ => ?_) (fun c => absurd ((nI_leI (a := p + 0) (b := p) (by omega) (by omega)).mpr (by omega)) c)
    exact aW_lv (K h hf (Fr.refl _ _)) rfl rfl (by repeat' (first | exact inL_n | refine inL_c rfl ?_))
  | k + 1, h, hi, ho, hf, hc, K => by
    obtain ⟨f, hf, hf2⟩ := hf
    obtain ⟨c, hc1, hc2⟩ := hc (p + k) (by omega)
    have e1 : shf rs n (p + (k + 1)) (p + k) = rs (p + k) := if_neg (by omega)
    refine q_iload_n rfl rfl ?_
    refine q_iload_n rfl rfl ?_
    refine q_icmp_le rfl (fun c => absurd ((nI_leI (a := p + (k + 1)) (b := p) (by omega) (by omega)).mp c) (by omega)) (fun _ => ?_)
    refine q_aload_n rfl rfl ?_
    refine q_getO rfl (by assumption) rfl ?_
    refine q_iload_n rfl rfl ?_
    refine q_aload_n rfl rfl ?_
    refine q_getO rfl (by assumption) rfl ?_
    refine q_iload_n rfl rfl ?_
    refine q_iconst rfl ?_
    refine q_isub rfl ?_
    rw [show nI (p + (k + 1)) - 1 = nI (p + k) from nI_pred (p + k)]
    refine q_aaload rfl hf (by decide) (by decide) (by omega) (by omega) ((hf2 (p + k) (by omega)).trans (by rw [e1])) ?_
    refine q_aastore rfl hf (by decide) (by decide) (by omega) (by omega) hp6 hc1 (by rw [hc2]; rfl) (fun h59 e59 f59 => ?_)
    refine q_iinc rfl rfl (by decide) ?_
    refine q_goto rfl ?_
    rw [show nI (p + (k + 1)) + -1 = nI (p + k) from pk_m1 (p + k)]
    refine aW_lv (grow_shift hp6 hn hcap htr hrr k h59 (by omega) (ho.fr f59 htr) ⟨_, e59, fun j hj => ?_⟩ (fun j hj => ?_) (fun h' a b => K h' a (f59.tr b))) rfl rfl (by repeat' (first | exact inL_n | refine inL_c rfl ?_))
    · by_cases hjk : j = p + (k + 1)
      · subst hjk
        rw [va_up_self]
        simp only [shf]
        rw [if_pos (by omega)]
        congr 2
      · rw [va_up_ne _ _ hjk, hf2 j hj]
        simp only [shf]
        by_cases q : p + k < j ∧ j ≤ n
        · rw [if_pos q, if_pos (by omega)]
        · rw [if_neg q, if_neg (by omega)]
    · obtain ⟨c, h1, h2⟩ := hc j hj
      exact ⟨c, f59.get (hrr j hj) h1, h2⟩
theorem Fr.sub {S S' : Nat → Prop} {k m : Nat} {h h' : ai_H} (a : Fr S k m h h') (hs : ∀ z, S z → S' z) : Fr S' k m h h' := a.mono (fun z _ => hs z) (Nat.le_refl _) (Nat.le_refl _)
def rsI (rs : Nat → Nat) (n p : Nat) : Nat → Nat := fun j => if j = p then rs n else shf rs n p j
def esI (es : Nat → Ent) (p : Nat) (y : Ent) : Nat → Ent := fun j => if j = p then y else if j < p then es j else es (j - 1)
theorem ob_ne {h : ai_H} {a b c c' : Nat} {vs vs' : List Value} (ha : Ob h a c vs) (hb : Ob h b c' vs') (hc : ¬ c = c') : ¬ a = b := by
  rintro rfl
  obtain ⟨f, e, _⟩ := ha
  obtain ⟨g, e', _⟩ := hb
  rw [e] at e'
  exact hc (congrArg Prod.fst (Option.some.inj e'))
theorem ob_nec {h : ai_H} {a b c : Nat} {vs : List Value} {tg ln : Nat} {g : Nat → Value} (ha : Ob h a c vs) (hb : h[b]? = some (tg, ln, g)) (hc : ¬ c = tg) : ¬ a = b := by
  rintro rfl
  obtain ⟨f, e, _⟩ := ha
  rw [e] at hb
  exact hc (congrArg Prod.fst (Option.some.inj hb))
theorem rsI_inj (hn : n < cap) (hp : p ≤ n) (hi : ∀ i j, i < cap → j < cap → rs i = rs j → i = j) : ∀ i j, i < cap → j < cap → rsI rs n p i = rsI rs n p j → i = j := by
  intro i j h1 h2 e
  simp only [rsI, shf] at e
  split at e <;> split at e <;> (try split at e) <;> (try split at e) <;> first | omega | (have := hi _ _ (by omega) (by omega) e; omega)
theorem m_grow {h : ai_H} {es : Nat → Ent} (ht : TreeAt h t ra cap rs n es) (hn : n < cap) (hp : p ≤ n) (h6 : 6 ≤ t) (h6a : 6 ≤ ra) (h6r : ∀ j, j < cap → 6 ≤ rs j) (hd : 1 ≤ d) (hw : 21 ≤ w) : aW aiP 66 d w 0 [(0, .ref t), (1, .int (nI p))] [] h (fun q h' => ∃ v, q = .inl v ∧ v = some (.ref (rs n)) ∧ (∃ y : Ent, y.cont = none ∧ y.sum = none ∧ y.lock = false ∧ TreeAt h' t ra cap (rsI rs n p) (n + 1) (esI es p y)) ∧ Fr (fun z => z = ra ∨ z = t ∨ z = rs n) 0 0 h h') := by
  obtain ⟨h1, ⟨f, hf, hf2⟩, h2, h3, h4, h5, h7⟩ := ht
  obtain ⟨x, hx⟩ := h7 n hn
  have hob : ∀ j, j < cap → ∃ vs, Ob h (rs j) 3 vs := fun j hj => by
    obtain ⟨x, pa, cv, sv, ho, _⟩ := h7 j hj
    exact ⟨_, ho⟩
  have htr : ¬ t = ra := ob_nec h1 hf (by decide)
  have hrr : ∀ j, j < cap → ¬ rs j = ra := fun j hj => by
    obtain ⟨vs, o⟩ := hob j hj
    exact ob_nec o hf (by decide)
  have hrt : ∀ j, j < cap → ¬ rs j = t := fun j hj => by
    obtain ⟨vs, o⟩ := hob j hj
    exact ob_ne o h1 (by decide)
  have na : NA (fun z => z = ra ∨ z = t ∨ z = rs n) h := by
    intro z hz c hc
    rcases hz with rfl | rfl | rfl
    · exact NA_1 hf (by decide) (by decide) _ rfl c hc
    · exact NA_ob h1 (by decide) (by decide) _ rfl c hc
    · obtain ⟨vs, o⟩ := hob n hn
      exact NA_ob o (by decide) (by decide) _ rfl c hc
  refine q_aload_n rfl rfl ?_
  refine q_getO rfl (by assumption) rfl ?_
  refine q_aload_n rfl rfl ?_
  refine q_getO rfl (by assumption) rfl ?_
  refine q_alen rfl (by assumption) (by decide) (by decide) ?_
  refine q_icmp_ge rfl (fun c => absurd ((nI_leI (by omega) (by omega)).mp c) (by omega)) (fun _ => ?_)
  refine q_iload_n rfl rfl ?_
  refine q_if_lt rfl (fun c => absurd c (nI_pos (by omega))) (fun _ => ?_)
  refine q_iload_n rfl rfl ?_
  refine q_aload_n rfl rfl ?_
  refine q_getO rfl (by assumption) rfl ?_
  refine q_icmp_le rfl (fun _ => ?_) (fun c => absurd ((nI_leI (by omega) (by omega)).mpr (by omega)) c)
  refine q_aload_n rfl rfl ?_
  refine q_getO rfl (by assumption) rfl ?_
  refine q_aload_n rfl rfl ?_
  refine q_getO rfl (by assumption) rfl ?_
  refine q_aaload rfl hf (by decide) (by decide) (by omega) (by omega) (hf2 n hn) ?_
  refine q_astore_n rfl (by decide) ?_
  refine q_aload_n rfl rfl ?_
  refine q_getO rfl (by assumption) rfl ?_
  refine q_istore_n rfl (by decide) ?_
  refine (fun K => (show aW aiP 66 d w 41 [(3, .int (nI n)), (2, .ref (rs n)), (0, .ref t), (1, .int (nI p))] [] h _ from (by rw [show nI n = nI (p + (n - p)) by congr 1; omega]; exact grow_shift h6a hn h3 htr hrr (n - p) h (by omega) h1 ⟨f, hf, fun j hj => (hf2 j hj).trans (by simp only [shf]; rw [if_neg (by omega)])⟩ (fun j hj => by obtain ⟨vs, g, o, _⟩ := hob j hj; exact ⟨_, o, rfl⟩) K))) (fun hA rA fA => ?_)
  obtain ⟨fA2, rA1, rA2⟩ := rA
  have o1 := h1.fr fA htr
  obtain ⟨vsn, on⟩ := hob n hn
  have on1 := on.fr fA (hrr n hn)
  obtain ⟨g1, e1, _⟩ := id on1
  refine q_aload_n rfl rfl ?_
  refine q_getO rfl (by assumption) rfl ?_
  refine q_iload_n rfl rfl ?_
  refine q_aload_n rfl rfl ?_
  refine q_aastore rfl rA1 (by decide) (by decide) (by omega) (by omega) h6a e1 rfl (fun h72 e72 f72 => ?_)
  have o2 := o1.fr f72 htr
  refine q_aload_n rfl rfl ?_
  refine q_dup rfl rfl ?_
  refine q_getO rfl (by assumption) rfl ?_
  refine q_iconst rfl ?_
  refine q_iadd rfl ?_
  rw [nI_1 n]
  refine q_putO rfl (by assumption) rfl (by assumption) (by first | rfl | assumption) (fun h80 o80 f80 => ?_)
  have xx := (hx.fr ((fA.tr f72).trans f80) (by intro z hz c hc; exact na z (by rcases hz with rfl | rfl <;> simp) c hc) (fun z => z.elim (hrr n hn) (hrt n hn)))
  obtain ⟨pa, cv, sv, he, hq, hc, hs⟩ := xx
  have h6n := h6r n hn
  refine q_aload_n rfl rfl ?_
  refine q_iconst rfl ?_
  refine q_putO rfl (by assumption) rfl (by assumption) (by first | rfl | assumption) (fun h85 o85 f85 => ?_)
  have na85 : NA (fun z => z = rs n) h80 := NA_ob he (by decide) (by decide)
  have xE : EntAt h85 (rs n) (x.path, x.kind, x.mode, x.time, false, x.cont, x.sum) := ⟨pa, cv, sv, o85, hq.fr f85 na85, hc.fr f85 na85, hs.fr f85 na85⟩
  refine q_aload_n rfl rfl ?_
  refine q_null rfl ?_
  refine q_callV rfl o85 (as := [.null]) rfl rfl (rm hd hw rfl) (m_replaceContent (o := none) xE h6n rfl) (fun v h90 R => ?_)
  obtain ⟨rfl, xF, f90⟩ := R
  refine q_aload_n rfl rfl ?_
  refine q_areturn rfl rfl rfl ?_
  have F : Fr (fun z => z = ra ∨ z = t ∨ z = rs n) 0 0 h h90 := ((((fA.sub (fun z q => Or.inl q)).tr (f72.sub (fun z q => Or.inl q))).tr (f80.sub (fun z q => Or.inr (Or.inl q)))).tr (f85.sub (fun z q => Or.inr (Or.inr q)))).tr (f90.sub (fun z q => Or.inr (Or.inr q)))
  have old : ∀ j x', j < cap → ¬ j = n → EntAt h (rs j) x' → EntAt h90 (rs j) x' := fun j x' hj hjn hE => hE.fr F na (fun z => z.elim (hrr j hj) (fun z => z.elim (hrt j hj) (fun z => hjn (h4 _ _ hj hn z))))
  have hnt : ¬ t = rs n := fun z => hrt n hn z.symm
  have hnr : ¬ ra = rs n := fun z => hrr n hn z.symm
  have hrt2 : ¬ ra = t := fun z => htr z.symm
  refine ⟨_, rfl, rfl, ⟨(x.path, x.kind, x.mode, x.time, false, none, none), rfl, rfl, rfl, (o80.fr f85 hnt).fr f90 hnt, ⟨_, f90.get hnr (f85.get hnr (f80.get hrt2 e72)), fun j hj => ?_⟩, hn, h3, rsI_inj hn hp h4, fun j hj => ?_, fun j hj => ?_⟩, F⟩
  · by_cases hjp : j = p
    · subst hjp
      rw [va_up_self]
      simp only [rsI, if_true]
    · rw [va_up_ne _ _ hjp, rA2 j hj]
      simp only [rsI]
      rw [if_neg hjp]
  · by_cases hjp : j = p
    · subst hjp
      simp only [rsI, esI, if_true]
      exact xF
    · simp only [rsI, esI, shf, if_neg hjp]
      by_cases hlt : j < p
      · rw [if_neg (by omega), if_pos hlt]
        exact old j _ (by omega) (by omega) (h5 j (by omega))
      · rw [if_pos (by omega), if_neg hlt]
        exact old (j - 1) _ (by omega) (by omega) (h5 (j - 1) (by omega))
  · have any : ∀ i, i < cap → RowAt h90 (rs i) := fun i hi => by
      by_cases hin : i = n
      · subst hin
        exact ⟨_, xF⟩
      · obtain ⟨x', hx'⟩ := h7 i hi
        exact ⟨x', old i x' hi hin hx'⟩
    simp only [rsI, shf]
    split
    · exact any n hn
    · split
      · exact any (j - 1) (by omega)
      · exact any j hj
end GROW
