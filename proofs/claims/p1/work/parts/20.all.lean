/-! all runs -/
theorem ai_w.pushX {cl : List vw_C} {D : va_G} {rc : Nat → String} {P0 n0 : Nat} {ad : Nat → Nat} {h : ai_H} {U : State} {H : Heap} (w : ai_w cl D rc P0 n0 ad h U H) (q : Nat) : ai_w cl D rc P0 n0 (va_up ad h.length q) (h ++ [ai_xc]) U H := by
  have he : ∀ k, k < h.length → va_up ad h.length q k = ad k := fun k hk => by simp [va_up, Nat.ne_of_lt hk]
  have key : ∀ (i : Nat) (b : ai_C), (h ++ [ai_xc])[i]? = some b → (i < h.length ∧ h[i]? = some b) ∨ (i = h.length ∧ b = ai_xc) := by
    intro i b hi
    by_cases hl : i < h.length
    · rw [List.getElem?_append_left hl] at hi
      exact Or.inl ⟨hl, hi⟩
    · rw [List.getElem?_append_right (by omega)] at hi
      have hz : i - h.length < 1 := (List.getElem?_eq_some_iff.mp hi).1
      have hi0 : i = h.length := by omega
      subst hi0
      rw [Nat.sub_self] at hi
      cases hi
      exact Or.inr ⟨rfl, rfl⟩
  have hlen : (h ++ [ai_xc]).length = h.length + 1 := by simp
  have h200 : ai_xc.1 = 200 := rfl
  refine ⟨fun i b hi => ?_, fun i b hi j hj => ?_, fun i j a b hi hj h1 h2 h3 h4 => ?_, fun i a hi h1 h2 => ?_⟩
  · rcases key i b hi with ⟨hl, h2⟩ | ⟨rfl, rfl⟩
    · rw [he i hl]
      exact (w.1 i b h2).ext he (fun j hj => w.2.1 i b h2 j hj)
    · exact ⟨fun h0 => absurd h0 (by rw [h200]; decide), fun _ h0 => absurd h0 (by rw [h200]; decide)⟩
  · rw [hlen]
    rcases key i b hi with ⟨hl, h2⟩ | ⟨rfl, rfl⟩
    · exact (w.2.1 i b h2 j hj).mono (by omega)
    · exact ai_ok_n _
  · rcases key i a hi with ⟨hl, p2⟩ | ⟨rfl, rfl⟩
    · rcases key j b hj with ⟨ml, q2⟩ | ⟨rfl, rfl⟩
      · rw [he i hl, he j ml] at h4
        exact w.2.2.1 i j a b p2 q2 h1 h2 h3 h4
      · rw [h200] at h3; omega
    · rw [h200] at h2; omega
  · rcases key i a hi with ⟨hl, p2⟩ | ⟨rfl, rfl⟩
    · rw [he i hl]
      exact w.2.2.2 i a p2 h1 h2
    · rw [h200] at h2; omega
theorem ai_find_spec {pc t tg : Nat} : ∀ {hs : List (Nat × Nat × Nat × Nat × Nat)}, ai_find hs pc t = some tg → ∃ pre x suf, hs = pre ++ x :: suf ∧ x.1 ≤ pc ∧ pc < x.2.1 ∧ x.2.2.1 = tg ∧ x.2.2.2.2 = t ∧ ∀ z ∈ pre, ¬ (z.1 ≤ pc ∧ pc < z.2.1) ∨ z.2.2.2.2 ≠ t
  | [], h => by cases h
  | q :: r, h => by
    unfold ai_find at h
    split at h
    · rename_i hc
      rw [Bool.and_eq_true, Bool.and_eq_true, decide_eq_true_eq, decide_eq_true_eq, decide_eq_true_eq] at hc
      cases h
      exact ⟨[], q, r, rfl, hc.1.1, hc.1.2, rfl, hc.2, fun z hz => by cases hz⟩
    · rename_i hc
      obtain ⟨pre, x, suf, e1, e2, e3, e4, e5, e6⟩ := ai_find_spec h
      refine ⟨q :: pre, x, suf, by rw [e1]; rfl, e2, e3, e4, e5, fun z hz => ?_⟩
      rcases List.mem_cons.mp hz with rfl | hz
      · by_cases h1 : z.1 ≤ pc ∧ pc < z.2.1
        · refine Or.inr (fun h2 => hc ?_)
          rw [Bool.and_eq_true, Bool.and_eq_true, decide_eq_true_eq, decide_eq_true_eq, decide_eq_true_eq]
          exact ⟨⟨h1.1, h1.2⟩, h2⟩
        · exact Or.inl h1
      · exact e6 z hz
section AIZ
variable {l : Launch} {P : ai_P} {cl : List vw_C} {D : va_G} {tb nw : List Cond} {nc : List (String × String)} {sl : ai_SL} {ao : List String} {n0 : Nat} {A : Nat → Prop}
set_option maxHeartbeats 4000000 in
theorem ai_sound (hPO : ai_PO P cl tb nw nc sl ao) (hl : l.stackTraces = false) (hC : ai_Catch l) (hA : ∀ q, n0 ≤ q → A q) : ∀ n, ai_Snd l P cl D tb nw nc sl ao n0 A n
  | 0 => fun mid d w pc lv st h o h' hr => by cases hr
  | n + 1 => by
    have IH := ai_sound hPO hl hC hA n
    intro mid d w pc lv st h o h' hr p e R s m args below meth c H locs cells slots mc ms ls ad ad0 h0 hx hb hml hret hlocks hnm hown hts hE htab hhs hRf hRl hRc hRs hn0 hP0 hext hle hF hw hS hc hs hmc hms
    unfold ai_run at hr
    split at hr
    · cases hr
    rename_i q hq
    have hPO' := hPO
    obtain ⟨hCK, hgd, hnk, hslok, hac, hexk, htabs⟩ := hPO'
    obtain ⟨hdg, hiok, hcok⟩ := htabs mid pc q hq
    have hsz0 : ∀ z ∈ sl, ai_ok h0.length z.2.2.2 := fun z hz => (hslok z hz).mono hP0
    split at hr
    · cases hr
    · rename_i pc' lv' st' x hex
      have hmo := ai_mono _ _ _ _ _ _ _ _ _ _ hr
      refine ai_step (P := P) (sl := sl) (ao := ao) (nw := nw) hx hb hml hts hCK hown hE.1 hac (fun z hz => ?_) (fun z hz => (hsz0 z hz).mono hle) hE.2.2.1 hE.2.2.2.1 hw hS hA hn0 hRf hRl hdg (by rw [hnm]; exact hiok) hex hF (by omega) (by omega) (fun ad' ls' H1 locs1 c1 s1 he hF' hw' hS' hc1 hs1 => ?_)
      · rw [ai_v_ext hext (hsz0 z hz)]
        exact hE.2.1 z hz
      · have hap := ai_app_mono h x
        exact IH mid d w pc' lv' st' (ai_app h x) o h' hr p e R s m args below meth c H1 locs1 c1 s1 mc ms ls' ad' ad0 h0 hx hb hml hret hlocks hnm hown hts hE htab hhs hRf hRl hRc hRs hn0 hP0 (fun k hk => (he k (by omega)).trans (hext k hk)) (by omega) hF' hw' hS' (by omega) (by omega) hmc hms
    · rename_i mid' as rest hex
      split at hr
      · cases hr
      rename_i hcond
      have hd0 : d ≠ 0 := fun z => hcond (Or.inl z)
      have hw0 : 8 + ((P.mth mid').maxL + 11) ≤ w := Nat.le_of_not_lt (fun z => hcond (Or.inr (Or.inl z)))
      have hwt : ai_wt rest ≤ 8 := Nat.le_of_not_lt (fun z => hcond (Or.inr (Or.inr (Or.inl z))))
      have hmx : ai_wt as ≤ (P.mth mid').maxL := Nat.le_of_not_lt (fun z => hcond (Or.inr (Or.inr (Or.inr z))))
      cases hrun : ai_run P n mid' (d - 1) (w - (8 + ((P.mth mid').maxL + 11))) 0 (lv_args 0 as) [] h with
      | none => rw [hrun] at hr; cases hr
      | some r =>
        obtain ⟨oc, h1⟩ := r
        rw [hrun] at hr
        have hmo := ai_mono _ _ _ _ _ _ _ _ _ _ hrun
        have hinv : ∃ virt, ai_inv virt q pc lv st h = some (.inr (.inl (mid', as, rest))) := by
          rcases ai_ex_call hex with ⟨_, _, _, h9⟩ | ⟨_, _, h9⟩ | ⟨_, _, _, h9, _⟩
          · exact ⟨_, h9⟩
          · exact ⟨_, h9⟩
          · exact ⟨_, h9⟩
        obtain ⟨virt0, hinv0⟩ := hinv
        obtain ⟨hm', hst, hlen, hasE, -⟩ := ai_inv_spec hinv0
        subst hm'
        have hokA : ∀ v ∈ as, ai_ok h.length v := fun v hv => hF.2.2 v (by rw [hst]; exact List.mem_append_left _ (List.mem_reverse.mpr hv))
        have hokR : ∀ v ∈ rest, ai_ok h.length v := fun v hv => hF.2.2 v (by rw [hst]; exact List.mem_append_right _ hv)
        have hstM : st.map (ai_v ad) = (as.map (ai_v ad)).reverse ++ rest.map (ai_v ad) := by rw [hst, List.map_append, List.map_reverse]
        have hWt : 2 * (F0 m pc ls (st.map (ai_v ad))).monitorRoom + ((rest.map (ai_v ad)).map fun v => v.category).sum ≤ 8 := by rw [ai_wt_map]; show 2 * 0 + _ ≤ 8; omega
        have hpre : ∀ U : State, U.heap = H → s.WarmedH U.vm → ai_Pc P cl D nw nc sl ao n0 A ad h as (as.map (ai_v ad)).toArray U := by
          intro U hU hWm
          refine ⟨rfl, by rw [hU]; exact hw.moved hWm.alike, ?_, by rw [hU]; exact Nat.le_trans hn0 hS.1⟩
          rw [hU]
          exact hE.to hnk hsz0 (fun k hk => hext k hk) hWm hS.2.1
        have hroom : cells + (h1.length - h.length + ai_xn oc) ≤ R.cells ∧ slots + (ai_sz h1 - ai_sz h + 6 * ai_xn oc) ≤ R.slots := by
          cases oc with
          | inl v =>
            have h9 := ai_mono _ _ _ _ _ _ _ _ _ _ (show ai_run P n mid d w (pc + 3) lv (v.toList ++ rest) h1 = some (o, h') from hr)
            simp only [ai_xn]
            omega
          | inr t =>
            dsimp only [ai_post] at hr
            split at hr
            · split at hr
              · have h9 := ai_mono _ _ _ _ _ _ _ _ _ _ hr
                have h8 : (h1 ++ [ai_xc]).length = h1.length + 1 := by simp
                have h7 : ai_sz (h1 ++ [ai_xc]) = ai_sz h1 + 6 := by simp [ai_sz, ai_xc]
                simp only [ai_xn]
                omega
              · split at hr
                · cases hr
                  simp only [ai_xn] at hmc hms ⊢
                  omega
                · cases hr
            · cases hr
        have hR9 : d - 1 + 1 ≤ R.frames ∧ 8 + ((P.mth q.r1).maxL + 11) + (w - (8 + ((P.mth q.r1).maxL + 11))) ≤ R.locals := ⟨by omega, by omega⟩
        have hcall : ∃ a : Array Value, vx_Run p l e R s m args below meth c H locs cells slots (h1.length - h.length + ai_xn oc) (ai_sz h1 - ai_sz h + 6 * ai_xn oc) (F0 m pc ls (st.map (ai_v ad))) (rest.map (ai_v ad)) (ai_Qc P cl D n0 A ad h oc h1 a) (ai_XC P cl D n0 A ad h oc h1) A := by
          have hlen3 : q.len = 3 := by
            rcases ai_ex_call hex with ⟨idx, h9, _⟩ | ⟨idx, h9, _⟩ | ⟨idx, h9, _⟩
            · unfold ai_iok at hiok; rw [h9] at hiok; exact hiok.1
            · unfold ai_iok at hiok; rw [h9] at hiok; exact hiok
            · unfold ai_iok at hiok; rw [h9] at hiok; exact hiok.1
          rw [hlen3] at hdg
          have hnoX : (∃ v, oc = .inl v) → ∀ E st t, ¬ ai_XC P cl D n0 A ad h oc h1 E st t := by
            rintro ⟨v, rfl⟩ E st9 t9 ⟨x, ad', ho, -⟩
            cases ho
          rcases ai_ex_call hex with ⟨idx, h9, h51, hi⟩ | ⟨idx, h9, hi⟩ | ⟨idx, h9, h5, hi, a8, r8, har⟩
          · unfold ai_cok at hcok
            rw [h9] at hcok hdg
            obtain ⟨hmok, hlk, hstt, hnp⟩ := hcok.resolve_left h51
            have hmet := ai_meth (D := D) (n0 := n0) (A := A) hPO IH hrun hmok hokA hmx (by omega) ad
            obtain ⟨g1, g2, g3, g4, g5, g6⟩ := hmok
            have hin : GoodIn tb (va_wsS (P.mth mid).y.cls idx (P.mth q.r1).y (ai_ws tb (P.mth q.r1))) := ai_good hgd (fun w hw9 => by
              simp only [va_wsS, ai_ws, List.cons_append, List.nil_append, List.mem_cons] at hw9
              rcases hw9 with rfl | rfl | rfl | rfl | hw9
              · exact hlk
              · exact hstt
              · exact g3
              · exact g2
              · exact hw9)
            by_cases hem : (P.mth q.r1).hs.isEmpty = true
            · exact ⟨_, vx_runS ⟨hx, hb, hml, hown, hts⟩ hmet (va_cwS (ws' := tb) q.r2 hts hin (by unfold ai_ws ai_mw; rw [if_pos hem]) rfl rfl ⟨g4, g5, hnp⟩ hR9) ⟨ai_blind hnk ad h as, hpre⟩ rfl (by rw [List.length_map]; exact hlen) hF.1.1 hstM hWt hdg hroom⟩
            · have hoi : ∃ v, oc = .inl v := by
                cases oc with
                | inl v => exact ⟨v, rfl⟩
                | inr t =>
                  exfalso
                  have h8 : ai_thr q (P.mth q.r1) = false := by unfold ai_thr; rw [h9]; exact (Bool.not_eq_true _).mp hem
                  dsimp only [ai_post] at hr
                  rw [h8] at hr
                  cases hr
              exact ⟨_, ai_vrun (vx_runSW (hh := ai_hd4 (P.mth q.r1).hs) ⟨hx, hb, hml, hown, hts⟩ (ai_met hmet (hnoX hoi)) (vx_cwSW (ws' := tb) q.r2 hts hin (by unfold ai_ws ai_mw; rw [if_neg hem]) rfl rfl ⟨g4, g5, hnp⟩ hR9) ⟨ai_blind hnk ad h as, hpre⟩ rfl (by rw [List.length_map]; exact hlen) hF.1.1 hstM hWt hdg hroom)⟩
          · unfold ai_cok at hcok
            rw [h9] at hcok hdg
            obtain ⟨hmok, hse, hlk, hinm, hsel, ⟨k, hk, hnp⟩, t, T, N, hrv, ht, hct⟩ := hcok
            have hmet := ai_meth (D := D) (n0 := n0) (A := A) hPO IH hrun hmok hokA hmx (by omega) ad
            obtain ⟨g1, g2, g3, g4, g5, g6⟩ := hmok
            obtain ⟨-, -, -, -, hv⟩ := ai_inv_spec hi
            obtain ⟨a, as', rfl, ca, hca, hrv2⟩ := hv rfl
            have hct1 : ca.1 = t := by rw [hrv] at hrv2; cases hrv2; rfl
            have hin : GoodIn tb (wsV (P.mth mid).y.cls idx (P.mth q.r1).y.cls (P.mth q.r1).y (ai_ws tb (P.mth q.r1))) := ai_good hgd (fun w hw9 => by
              simp only [wsV, ai_ws, List.cons_append, List.nil_append, List.mem_cons] at hw9
              rcases hw9 with rfl | rfl | rfl | rfl | rfl | hw9
              · exact hlk
              · exact hinm
              · exact hsel
              · exact g3
              · exact g2
              · exact hw9)
            have hem : (P.mth q.r1).hs.isEmpty = true := by rw [hse]; rfl
            obtain ⟨r0, q1, q2, cell, q3, q4, q5, q6⟩ := (hw.1 a ca hca).1 (by omega)
            have hcellb : ∃ cellB : Cell, H[ad a]? = some cellB ∧ cellB.vm.isStatics = false ∧ s.vm.findClass (P.mth q.r1).y.cls = some cellB.cls := ⟨cell, q3, by rw [q5]; rfl, by rw [q4, hct1]; exact (hE.1.1 t _ hct).2.1⟩
            exact ⟨_, vx_runV (b := ad a) (As := as'.map (ai_v ad)) ⟨hx, hb, hml, hown, hts⟩ hmet (cwV (ws' := tb) k hts hin (by unfold ai_ws ai_mw; rw [if_pos hem]) rfl rfl ⟨rfl, g4, g5, hnp⟩ hR9) ⟨ai_blind hnk ad h _, hcellb, hpre⟩ rfl (by rw [List.length_map]; simp at hlen; omega) hF.1.1 (by rw [hstM]; simp [ai_v]) hWt hdg hroom⟩
          · unfold ai_cok at hcok
            rw [h9] at hcok hdg
            rcases hcok with h8 | ⟨hmok, hse, hrn, hlk, hinm, hini9, k, hk, hnp⟩
            · exact absurd h8 h5
            have hmet := ai_meth (D := D) (n0 := n0) (A := A) hPO IH hrun hmok hokA hmx (by omega) ad
            obtain ⟨g1, g2, g3, g4, g5, g6⟩ := hmok
            have hem : (P.mth q.r1).hs.isEmpty = true := by rw [hse]; rfl
            have hoi : ∃ v, oc = .inl v := by
              cases oc with
              | inl v => exact ⟨v, rfl⟩
              | inr t =>
                exfalso
                have h8 : ai_thr q (P.mth q.r1) = false := by unfold ai_thr; rw [h9]
                dsimp only [ai_post] at hr
                rw [h8] at hr
                cases hr
            have hmet2 := ai_met hmet (hnoX hoi)
            cases as with
            | nil => simp at hlen; omega
            | cons a0 as' =>
              have ha0 : ∃ a, a0 = .ref a := by rw [← hasE] at har; cases har; exact ⟨_, rfl⟩
              obtain ⟨a, rfl⟩ := ha0
              have hin : GoodIn tb (ai_ws tb (P.mth q.r1)) := ai_good hgd (fun w hw9 => (List.mem_cons.mp hw9).elim (fun e9 => e9 ▸ g2) (fun h => h))
              have hws9 : ai_ws tb (P.mth q.r1) = Cond.code (P.mth q.r1).y (P.mth q.r1).code (P.mth q.r1).maxL none :: tb := by unfold ai_ws ai_mw; rw [if_pos hem, hrn]
              have hlen9 : (as'.map (ai_v ad)).length = k := by rw [List.length_map]; simp at hlen; omega
              rcases hlk with hlk | ⟨host, hlk⟩
              · exact ⟨_, ai_vrun (va_runI (b := ad a) (As := as'.map (ai_v ad)) ⟨hx, hb, hml, hown, hts⟩ hmet2 (cwI (ws' := tb) k hts hin hws9 rfl rfl (hts _ g3) (hts _ hlk) (hts _ hinm) hini9 ⟨g4, g5, hnp⟩ hR9) ⟨ai_blind hnk ad h _, hpre⟩ rfl hlen9 hF.1.1 (by rw [hstM]; simp [ai_v]) hWt hdg hroom)⟩
              · exact ⟨_, ai_vrun (va_runIN (b := ad a) (As := as'.map (ai_v ad)) ⟨hx, hb, hml, hown, hts⟩ hmet2 ⟨va_cnB (ws' := tb) k hts hin hws9 rfl rfl (hE.2.2.2.1 _ hlk) (hts _ g3) ⟨g4, g5, hnp⟩ hR9, hini9, hts _ hinm⟩ ⟨ai_blind hnk ad h _, hpre⟩ rfl hlen9 hF.1.1 (by rw [hstM]; simp [ai_v]) hWt hdg hroom)⟩
        obtain ⟨a9, hcall⟩ := hcall
        refine ai_after hcall hS (fun x ad' ce q9 H1 locs1 ho hx12 he hw' hS' hce hcv hcl => ?_) (fun v ad' H1 locs1 ho he hok hw' hS' => ?_)
        · subst ho
          dsimp only [ai_post] at hr
          split at hr
          case isFalse => cases hr
          split at hr
          · rename_i tg hfd
            obtain ⟨pre, y9, suf, e1, e2, e3, e4, e5, e6⟩ := ai_find_spec hfd
            have hy9 := hhs y9 (by rw [e1]; exact List.mem_append_right _ List.mem_cons_self)
            have htb : c.exceptionTable.toList = (ai_hd4 pre).map (fun q => (⟨q.1, q.2.1, q.2.2.1, q.2.2.2⟩ : ExceptionTableEntry)) ++ (⟨y9.1, y9.2.1, y9.2.2.1, y9.2.2.2.1⟩ : ExceptionTableEntry) :: (ai_hd4 suf).map (fun q => (⟨q.1, q.2.1, q.2.2.1, q.2.2.2⟩ : ExceptionTableEntry)) := by rw [htab, e1]; simp [tableOf, ai_hd4]
            have hlk9 : (Cond.classLink (P.mth mid).y.cls y9.2.2.2.1 (ai_exn x)).before args s = true := by have := hts _ hy9.2.2; rw [e5] at this; exact this
            refine hC hown _ _ _ htb (fun z hz => ?_) (by simp [covers, e2, e3]) hy9.1 hlk9 (va_Nw.use rfl (hE.2.2.2.1 _ (hexk x hx12).1)) hce hcv hcl ?_
            · simp only [ai_hd4, List.map_map, List.mem_map] at hz
              obtain ⟨z0, hz0, rfl⟩ := hz
              have hz9 := hhs z0 (by rw [e1]; exact List.mem_append_left _ hz0)
              rcases e6 z0 hz0 with h8 | h8
              · refine Or.inl ?_
                simp only [covers, Function.comp]
                by_cases h7 : z0.1 ≤ pc
                · have : ¬ pc < z0.2.1 := fun z => h8 ⟨h7, z⟩
                  simp [this]
                · simp [h7]
              · exact Or.inr ⟨hz9.1, _, hts _ hz9.2.2, hE.2.2.2.2.2.2 _ ((hexk x hx12).2 _ hz9.2.1 (Ne.symm h8))⟩
            · have hFr : ai_F (P.mth mid).maxL ad' h1.length lv [] ls := (hF.st (st' := []) (fun v hv => by cases hv)).ext he hmo.1
              obtain ⟨hF', hmp, he'⟩ := ai_born hFr q9
              have h8 : (h1 ++ [ai_xc]).length = h1.length + 1 := by simp
              have h7 : ai_sz (h1 ++ [ai_xc]) = ai_sz h1 + 6 := by simp [ai_sz, ai_xc]
              refine W.eq (g2 := F0 m tg ls (([.ref h1.length] : List Value).map (ai_v (va_up ad' h1.length q9)))) (by rw [hmp, e4]; rfl) ?_
              exact IH mid d w tg lv [.ref h1.length] (h1 ++ [ai_xc]) o h' hr p e R s m args below meth c H1 locs1 _ _ mc ms ls _ ad0 h0 hx hb hml hret hlocks hnm hown hts hE htab hhs hRf hRl hRc hRs hn0 hP0 (fun k hk => (he' k (by omega)).trans ((he k (by omega)).trans (hext k hk))) (by omega) (by rw [h8]; exact hF') (hw'.pushX q9) hS' (by simp only [ai_xn]; omega) (by simp only [ai_xn]; omega) hmc hms
          · split at hr
            case isFalse => cases hr
            rename_i hemp
            cases hr
            have hnil : c.exceptionTable.toList = [] := by rw [htab, List.isEmpty_iff.mp hemp]; rfl
            refine vx_out (E := ai_exn x) (fun z hz => by rw [hnil] at hz; cases hz) hlocks hce hcv hcl (fun t ht hal => ⟨x, ad', rfl, hx12, rfl, fun k hk => (he k (by omega)).trans (hext k hk), by rw [ht]; exact hw'.moved hal, hS'.F ht⟩) hS'.2.2 (by simp only [ai_xn] at hmc ⊢; omega) (by simp only [ai_xn] at hms ⊢; omega)
        · subst ho
          have hr' : ai_run P n mid d w (pc + 3) lv (v.toList ++ rest) h1 = some (o, h') := hr
          have hFn : ai_F (P.mth mid).maxL ad' h1.length lv (v.toList ++ rest) ls := by
            have h8 := (hF.st hokR).ext he hmo.1
            refine ⟨h8.1, h8.2.1, fun u hu => ?_⟩
            rcases List.mem_append.mp hu with hu | hu
            · cases v with
              | none => cases hu
              | some z => rw [List.mem_singleton.mp hu]; exact hok z rfl
            · exact h8.2.2 u hu
          have hmp : (v.toList ++ rest).map (ai_v ad') = (v.map (ai_v ad')).toList ++ rest.map (ai_v ad) := by
            rw [List.map_append, ai_map_ext hokR he]
            cases v <;> rfl
          rw [← hmp]
          exact IH mid d w (pc + 3) lv (v.toList ++ rest) h1 o h' hr' p e R s m args below meth c H1 locs1 _ _ mc ms ls ad' ad0 h0 hx hb hml hret hlocks hnm hown hts hE htab hhs hRf hRl hRc hRs hn0 hP0 (fun k hk => (he k (by omega)).trans (hext k hk)) (by omega) hFn hw' hS' (by simp only [ai_xn]; omega) (by simp only [ai_xn]; omega) hmc hms
    · rename_i v hex
      cases hr
      exact ai_rets (P := P) (sl := sl) (ao := ao) (tb := tb) (nw := nw) (nm := (P.mth mid).y.name) (own := (P.mth mid).y.cls) hx hb hret hlocks hdg hiok hex hF hw hS hext (by simp only [ai_xn] at hmc; omega) (by simp only [ai_xn] at hms; omega)
    · rename_i t hex
      split at hr
      case isFalse => cases hr
      rename_i hcd
      cases hr
      obtain ⟨idx, h9, h99, rfl⟩ := ai_ex_thr hex
      unfold ai_cok at hcok
      rw [h9] at hcok
      obtain ⟨ic, h12, d3, d4, d7, hcl, hini, hat⟩ := hcok h99
      have hlen3 : q.len = 3 := by unfold ai_iok at hiok; rw [h9] at hiok; exact hiok.1
      rw [h9, hlen3] at hdg
      have hnil : c.exceptionTable.toList = [] := by rw [htab, List.isEmpty_iff.mp hcd.1]; rfl
      have hot : ∀ w, (w ∈ tb ∨ w ∈ nw) → vx_ot w = true ∧ w.before args s = true := by
        intro w hw9
        rcases hw9 with hw9 | hw9
        · exact ⟨by unfold vx_ot; rw [hgd w hw9, Bool.or_true], hts w hw9⟩
        · have hon : w.onTables = true := by
            rcases hnk w hw9 with ⟨a, i, b, n, d, hh, rfl⟩ | ⟨a, i, x, hh, rfl⟩ | ⟨C, T, rfl⟩ | ⟨x, rfl⟩ <;> rfl
          exact ⟨by unfold vx_ot; rw [hon]; rfl, va_Nw.use hon (hE.2.2.2.1 w hw9)⟩
      have hfit : Bundle.fit (ai_exn q.r1) = true := by rcases h12 with h8 | h8 <;> rw [h8] <;> decide +kernel
      refine vx_throw0 (names := ["java/lang/RuntimeException", "java/lang/Exception"]) (cls := ai_exn q.r1) hx hb hl hown hfit (by decide +kernel) (hts _ hcl) (hts _ hini) (fun w hw9 => (hot w (hat w hw9)).2) ?_ hE.2.2.2.2.1 hE.2.2.2.2.2.1 hS (by rw [hml]; exact hF.1.1) hdg d3 d4 d7 (fun z hz => by rw [hnil] at hz; cases hz) (by show 2 + 3 < R.frames; omega) (by rw [ai_wt_map]; show _ + (13 * (2 + 1) + 42) ≤ _; omega) (by simp only [ai_xn] at hmc; omega) (by simp only [ai_xn] at hms; omega) hlocks ?_ hS.2.2 (by simp only [ai_xn] at hmc; omega) (by simp only [ai_xn] at hms; omega)
      · intro w hw9
        rcases List.mem_cons.mp hw9 with rfl | hw9
        · exact (hot _ (Or.inl hcl)).1
        rcases List.mem_cons.mp hw9 with rfl | hw9
        · exact (hot _ (Or.inl hini)).1
        · exact (hot w (hat w hw9)).1
      · intro t hal hsz hk
        exact ⟨q.r1, ad, rfl, h12, rfl, hext, (hw.kept hk).moved hal, ⟨Nat.le_trans hS.1 hsz, fun z g1 g2 => (hk z (Nat.lt_of_lt_of_le g1 hS.1)).trans (hS.2.1 z g1 g2)⟩⟩
end AIZ
