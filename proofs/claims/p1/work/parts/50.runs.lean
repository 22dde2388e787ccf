/-! runs, whatever the fuel -/
section AIU
variable {P : ai_P}
theorem ai_run_succ : ∀ (n mid d w pc : Nat) (lv : ai_L) (st : List Value) (h : ai_H) (r : (Option Value ⊕ Nat) × ai_H), ai_run P n mid d w pc lv st h = some r → ai_run P (n + 1) mid d w pc lv st h = some r
  | 0, _, _, _, _, _, _, _, _, hr => by cases hr
  | n + 1, mid, d, w, pc, lv, st, h, r, hr => by
    unfold ai_run at hr ⊢
    split at hr
    · cases hr
    · rename_i q hq
      split at hr
      · cases hr
      · exact ai_run_succ n _ _ _ _ _ _ _ _ hr
      · rename_i mid' as rest hx
        split at hr
        · cases hr
        · rename_i hc
          rw [if_neg hc]
          cases hcal : ai_run P n mid' (d - 1) (w - (8 + ((P.mth mid').maxL + 11))) 0 (lv_args 0 as) [] h with
          | none => rw [hcal] at hr; cases hr
          | some r1 =>
            rw [hcal] at hr
            rw [ai_run_succ n _ _ _ _ _ _ _ _ hcal]
            obtain ⟨o1, h1⟩ := r1
            cases o1 with
            | inl v => exact ai_run_succ n _ _ _ _ _ _ _ _ hr
            | inr t =>
              dsimp only [ai_post] at hr ⊢
              split at hr
              · rename_i ht
                rw [if_pos ht]
                split at hr
                · exact ai_run_succ n _ _ _ _ _ _ _ _ hr
                · exact hr
              · cases hr
      · exact hr
      · exact hr
theorem ai_run_le {n n' mid d w pc : Nat} {lv : ai_L} {st : List Value} {h : ai_H} {r : (Option Value ⊕ Nat) × ai_H} (hn : n ≤ n') (hr : ai_run P n mid d w pc lv st h = some r) : ai_run P n' mid d w pc lv st h = some r := by
  induction hn with
  | refl => exact hr
  | step _ ih => exact ai_run_succ _ _ _ _ _ _ _ _ _ ih
variable (P) in
def ai_Runs (mid d w pc : Nat) (lv : ai_L) (st : List Value) (h : ai_H) (r : (Option Value ⊕ Nat) × ai_H) : Prop := ∃ n, ai_run P n mid d w pc lv st h = some r
variable {mid d w pc : Nat} {lv : ai_L} {st : List Value} {h : ai_H} {r : (Option Value ⊕ Nat) × ai_H} {q : ai_I}
theorem ai_Runs.next (hq : P.tab mid pc = some q) {pc' : Nat} {lv' : ai_L} {st' : List Value} {x : ai_E} (hx : ai_ex P d w (P.mth mid).maxL (P.mth mid).ret q pc lv st h = some (.inl (pc', lv', st', x))) (k : ai_Runs P mid d w pc' lv' st' (ai_app h x) r) : ai_Runs P mid d w pc lv st h r := by
  obtain ⟨n, hn⟩ := k
  refine ⟨n + 1, ?_⟩
  unfold ai_run
  rw [hq]
  dsimp only
  rw [hx]
  exact hn
theorem ai_Runs.ret (hq : P.tab mid pc = some q) {v : Option Value} (hx : ai_ex P d w (P.mth mid).maxL (P.mth mid).ret q pc lv st h = some (.inr (.inr (.inl v)))) : ai_Runs P mid d w pc lv st h (.inl v, h) := by
  refine ⟨1, ?_⟩
  unfold ai_run
  rw [hq]
  dsimp only
  rw [hx]
theorem ai_Runs.thr (hq : P.tab mid pc = some q) {t : Nat} (hx : ai_ex P d w (P.mth mid).maxL (P.mth mid).ret q pc lv st h = some (.inr (.inr (.inr t)))) (hc : (P.mth mid).hs.isEmpty ∧ 5 < d ∧ ai_wt st + 81 ≤ w) : ai_Runs P mid d w pc lv st h (.inr t, h) := by
  refine ⟨1, ?_⟩
  unfold ai_run
  rw [hq]
  dsimp only
  rw [hx]
  dsimp only
  rw [if_pos hc]
theorem ai_Runs.call (hq : P.tab mid pc = some q) {mid' : Nat} {as rest : List Value} (hx : ai_ex P d w (P.mth mid).maxL (P.mth mid).ret q pc lv st h = some (.inr (.inl (mid', as, rest)))) (hc : ¬ (d = 0 ∨ w < 8 + ((P.mth mid').maxL + 11) ∨ 8 < ai_wt rest ∨ (P.mth mid').maxL < ai_wt as))
    {v : Option Value} {h1 : ai_H} (hcal : ai_Runs P mid' (d - 1) (w - (8 + ((P.mth mid').maxL + 11))) 0 (lv_args 0 as) [] h (.inl v, h1)) (k : ai_Runs P mid d w (pc + 3) lv (v.toList ++ rest) h1 r) : ai_Runs P mid d w pc lv st h r := by
  obtain ⟨n1, hn1⟩ := hcal
  obtain ⟨n2, hn2⟩ := k
  refine ⟨n1 + n2 + 1, ?_⟩
  unfold ai_run
  rw [hq]
  dsimp only
  rw [hx]
  dsimp only
  rw [if_neg hc, ai_run_le (Nat.le_add_right n1 n2) hn1]
  exact ai_run_le (Nat.le_add_left n2 n1) hn2
/-- a call that throws, caught here -/
theorem ai_Runs.callX (hq : P.tab mid pc = some q) {mid' : Nat} {as rest : List Value} (hx : ai_ex P d w (P.mth mid).maxL (P.mth mid).ret q pc lv st h = some (.inr (.inl (mid', as, rest)))) (hc : ¬ (d = 0 ∨ w < 8 + ((P.mth mid').maxL + 11) ∨ 8 < ai_wt rest ∨ (P.mth mid').maxL < ai_wt as)) (ht : ai_thr q (P.mth mid') = true)
    {t tg : Nat} {h1 : ai_H} (hf : ai_find (P.mth mid).hs pc t = some tg) (hcal : ai_Runs P mid' (d - 1) (w - (8 + ((P.mth mid').maxL + 11))) 0 (lv_args 0 as) [] h (.inr t, h1)) (k : ai_Runs P mid d w tg lv [.ref h1.length] (h1 ++ [ai_xc]) r) : ai_Runs P mid d w pc lv st h r := by
  obtain ⟨n1, hn1⟩ := hcal
  obtain ⟨n2, hn2⟩ := k
  refine ⟨n1 + n2 + 1, ?_⟩
  unfold ai_run
  rw [hq]
  dsimp only
  rw [hx]
  dsimp only
  rw [if_neg hc, ai_run_le (Nat.le_add_right n1 n2) hn1]
  dsimp only [ai_post]
  rw [if_pos ht, hf]
  exact ai_run_le (Nat.le_add_left n2 n1) hn2
/-- a call that throws, not caught here -/
theorem ai_Runs.callT (hq : P.tab mid pc = some q) {mid' : Nat} {as rest : List Value} (hx : ai_ex P d w (P.mth mid).maxL (P.mth mid).ret q pc lv st h = some (.inr (.inl (mid', as, rest)))) (hc : ¬ (d = 0 ∨ w < 8 + ((P.mth mid').maxL + 11) ∨ 8 < ai_wt rest ∨ (P.mth mid').maxL < ai_wt as)) (ht : ai_thr q (P.mth mid') = true)
    {t : Nat} {h1 : ai_H} (hf : (P.mth mid).hs = []) (hcal : ai_Runs P mid' (d - 1) (w - (8 + ((P.mth mid').maxL + 11))) 0 (lv_args 0 as) [] h (.inr t, h1)) : ai_Runs P mid d w pc lv st h (.inr t, h1) := by
  obtain ⟨n1, hn1⟩ := hcal
  refine ⟨n1 + 1, ?_⟩
  unfold ai_run
  rw [hq]
  dsimp only
  rw [hx]
  dsimp only
  rw [if_neg hc, hn1]
  dsimp only [ai_post]
  rw [if_pos ht, hf]
  rfl
end AIU
