/-! the law's start; made by wip/tools/p1.py -/
set_option maxRecDepth 20000 in
set_option maxHeartbeats 4000000 in
theorem p_start {L : Nat} {xs : Nat → Int32} {Q : (Option Value ⊕ Nat) → ai_H → Prop} (K : ∀ h, Fresh L xs h → aW aiP 0 17 658 23 [(4, .int 0), (3, .ref 233), (2, .ref 191), (1, .ref 6), (0, .ref 0)] [] h Q) : aW aiP 0 17 658 0 [(0, .ref 0)] [] (aiPre L xs) Q := by
  obtain ⟨h, hh⟩ : ∃ h, h = aiPre L xs := ⟨_, rfl⟩
  rw [← hh]
  have s0 : Hs L 6 77 h := by rw [hh]; exact ⟨rfl, by simp [aiPre, ai_sz]; omega⟩
  have e0 : h[0]? = some (102, L, fun j => .int (xs j)) := by rw [hh]; rfl
  have e1 : h[1]? = some (100, 0, fun _ => .int 0) := by rw [hh]; rfl
  have e2 : h[2]? = some (102, 8, fun j => .int (ai_aSTART.getD j 0)) := by rw [hh]; rfl
  have e3 : h[3]? = some (102, 64, fun j => .int (ai_aROUNDS.getD j 0)) := by rw [hh]; rfl
  have e4 : h[4]? = some (102, 5, fun j => .int (ai_aSECONDS.getD j 0)) := by rw [hh]; rfl
  have e5 : h[5]? = some (111, 0, fun _ => .null) := by rw [hh]; rfl
  clear hh
  refine s_new (n' := 7) (q' := 91) (vs := [.null, .null, .int 0, .null, .int 0, .null, .null, .null, .null, .null, .int 0, .null, .null, .null]) rfl rfl s0 rfl rfl rfl (fun h1 o1 f1 s1 => ?_)
  refine q_dup rfl rfl ?_
  refine s_callI (as := []) (rest := [.ref 6]) (d' := 16) (w' := 638) (lv' := [(0, .ref 6)]) rfl rfl rfl rfl rfl rfl rfl rfl ?_
  refine q_aload_n rfl rfl ?_
  refine s_objI rfl rfl ?_
  refine q_aload_n rfl rfl ?_
  refine q_bipush rfl ?_
  refine s_newa (k := 20) (n' := 8) (q' := 111) (v0 := .int 0) rfl (by decide) rfl s1 rfl rfl rfl (fun h2 o2 f2 s2 => ?_)
  have e6_2 := (o1.nw f2)
  refine s_put (vs' := [.ref 7, .null, .int 0, .null, .int 0, .null, .null, .null, .null, .null, .int 0, .null, .null, .null]) rfl e6_2 rfl rfl rfl rfl (fun h3 o3 f3 => ?_)
  have s3 := s2.put f3
  refine q_aload_n rfl rfl ?_
  refine q_sipush rfl ?_
  refine s_newa (k := 400) (n' := 9) (q' := 511) (v0 := .int 0) rfl (by decide) rfl s3 rfl rfl rfl (fun h4 o4 f4 s4 => ?_)
  have e6_4 := (o3.nw f4)
  refine s_put (vs' := [.ref 7, .ref 8, .int 0, .null, .int 0, .null, .null, .null, .null, .null, .int 0, .null, .null, .null]) rfl e6_4 rfl rfl rfl rfl (fun h5 o5 f5 => ?_)
  have s5 := s4.put f5
  refine q_aload_n rfl rfl ?_
  refine q_iconst rfl ?_
  refine s_put (vs' := [.ref 7, .ref 8, .int 0, .null, .int 0, .null, .null, .null, .null, .null, .int 0, .null, .null, .null]) rfl o5 rfl rfl rfl rfl (fun h6 o6 f6 => ?_)
  have s6 := s5.put f6
  refine q_aload_n rfl rfl ?_
  refine s_new (n' := 10) (q' := 513) (vs := [.null, .int 0]) rfl rfl s6 rfl rfl rfl (fun h7 o7 f7 s7 => ?_)
  refine q_dup rfl rfl ?_
  refine q_bipush rfl ?_
  refine q_callI rfl (by decide) (as := [.int 40]) (rest := [.ref 9, .ref 6]) rfl rfl (rm (by decide) (by decide) rfl) (m_treeInit (n := 40) o7 (by decide) (by decide) (by decide) (by decide) (by decide)) (fun v8 h8 r8 => ?_)
  obtain ⟨rfl, o8, f8, l8⟩ := r8
  rw [s7.1] at o8
  have s8 : Hs _ 51 833 h8 := s7.grow f8 l8 rfl rfl
  show aW aiP 1 16 638 36 [(0, .ref 6)] [.ref 9, .ref 6] h8 _
  have e6_8 := ((o6.nw f7).ne f8 rfl)
  refine s_put (vs' := [.ref 7, .ref 8, .int 0, .ref 9, .int 0, .null, .null, .null, .null, .null, .int 0, .null, .null, .null]) rfl e6_8 rfl rfl rfl rfl (fun h9 o9 f9 => ?_)
  have s9 := s8.put f9
  refine q_aload_n rfl rfl ?_
  refine q_iconst rfl ?_
  refine s_put (vs' := [.ref 7, .ref 8, .int 0, .ref 9, .int (-1), .null, .null, .null, .null, .null, .int 0, .null, .null, .null]) rfl o9 rfl rfl rfl rfl (fun h10 o10 f10 => ?_)
  have s10 := s9.put f10
  refine q_aload_n rfl rfl ?_
  refine s_new (n' := 52) (q' := 835) (vs := [.null, .int 0]) rfl rfl s10 rfl rfl rfl (fun h11 o11 f11 s11 => ?_)
  refine q_dup rfl rfl ?_
  refine q_bipush rfl ?_
  refine q_callI rfl (by decide) (as := [.int 40]) (rest := [.ref 51, .ref 6]) rfl rfl (rm (by decide) (by decide) rfl) (m_treeInit (n := 40) o11 (by decide) (by decide) (by decide) (by decide) (by decide)) (fun v12 h12 r12 => ?_)
  obtain ⟨rfl, o12, f12, l12⟩ := r12
  rw [s11.1] at o12
  have s12 : Hs _ 93 1155 h12 := s11.grow f12 l12 rfl rfl
  show aW aiP 1 16 638 54 [(0, .ref 6)] [.ref 51, .ref 6] h12 _
  have e6_12 := ((o10.nw f11).ne f12 rfl)
  refine s_put (vs' := [.ref 7, .ref 8, .int 0, .ref 9, .int (-1), .ref 51, .null, .null, .null, .null, .int 0, .null, .null, .null]) rfl e6_12 rfl rfl rfl rfl (fun h13 o13 f13 => ?_)
  have s13 := s12.put f13
  refine q_aload_n rfl rfl ?_
  refine s_new (n' := 94) (q' := 1157) (vs := [.null, .int 0]) rfl rfl s13 rfl rfl rfl (fun h14 o14 f14 s14 => ?_)
  refine q_dup rfl rfl ?_
  refine q_bipush rfl ?_
  refine q_callI rfl (by decide) (as := [.int 40]) (rest := [.ref 93, .ref 6]) rfl rfl (rm (by decide) (by decide) rfl) (m_treeInit (n := 40) o14 (by decide) (by decide) (by decide) (by decide) (by decide)) (fun v15 h15 r15 => ?_)
  obtain ⟨rfl, o15, f15, l15⟩ := r15
  rw [s14.1] at o15
  have s15 : Hs _ 135 1477 h15 := s14.grow f15 l15 rfl rfl
  show aW aiP 1 16 638 67 [(0, .ref 6)] [.ref 93, .ref 6] h15 _
  have e6_15 := ((o13.nw f14).ne f15 rfl)
  refine s_put (vs' := [.ref 7, .ref 8, .int 0, .ref 9, .int (-1), .ref 51, .ref 93, .null, .null, .null, .int 0, .null, .null, .null]) rfl e6_15 rfl rfl rfl rfl (fun h16 o16 f16 => ?_)
  have s16 := s15.put f16
  refine q_aload_n rfl rfl ?_
  refine s_new (n' := 136) (q' := 1479) (vs := [.null, .int 0]) rfl rfl s16 rfl rfl rfl (fun h17 o17 f17 s17 => ?_)
  refine q_dup rfl rfl ?_
  refine q_bipush rfl ?_
  refine q_callI rfl (by decide) (as := [.int 40]) (rest := [.ref 135, .ref 6]) rfl rfl (rm (by decide) (by decide) rfl) (m_treeInit (n := 40) o17 (by decide) (by decide) (by decide) (by decide) (by decide)) (fun v18 h18 r18 => ?_)
  obtain ⟨rfl, o18, f18, l18⟩ := r18
  rw [s17.1] at o18
  have s18 : Hs _ 177 1799 h18 := s17.grow f18 l18 rfl rfl
  show aW aiP 1 16 638 80 [(0, .ref 6)] [.ref 135, .ref 6] h18 _
  have e6_18 := ((o16.nw f17).ne f18 rfl)
  refine s_put (vs' := [.ref 7, .ref 8, .int 0, .ref 9, .int (-1), .ref 51, .ref 93, .ref 135, .null, .null, .int 0, .null, .null, .null]) rfl e6_18 rfl rfl rfl rfl (fun h19 o19 f19 => ?_)
  have s19 := s18.put f19
  refine q_aload_n rfl rfl ?_
  refine s_new (n' := 178) (q' := 1801) (vs := [.null, .null]) rfl rfl s19 rfl rfl rfl (fun h20 o20 f20 s20 => ?_)
  refine q_dup rfl rfl ?_
  refine s_callI (as := []) (rest := [.ref 177, .ref 6]) (d' := 15) (w' := 618) (lv' := [(0, .ref 177)]) rfl rfl rfl rfl rfl rfl rfl rfl ?_
  refine q_aload_n rfl rfl ?_
  refine s_objI rfl rfl ?_
  refine q_aload_n rfl rfl ?_
  refine s_new (n' := 179) (q' := 1804) (vs := [.int 0, .null, .int 0]) rfl rfl s20 rfl rfl rfl (fun h21 o21 f21 s21 => ?_)
  refine q_dup rfl rfl ?_
  refine s_callI (as := []) (rest := [.ref 178, .ref 177]) (d' := 14) (w' := 598) (lv' := [(0, .ref 178)]) rfl rfl rfl rfl rfl rfl rfl rfl ?_
  refine q_aload_n rfl rfl ?_
  refine s_callI (as := []) (rest := []) (d' := 13) (w' := 578) (lv' := [(0, .ref 178)]) rfl rfl rfl rfl rfl rfl rfl rfl ?_
  refine q_aload_n rfl rfl ?_
  refine s_callI (as := []) (rest := []) (d' := 12) (w' := 558) (lv' := [(0, .ref 178)]) rfl rfl rfl rfl rfl rfl rfl rfl ?_
  refine q_aload_n rfl rfl ?_
  refine s_objI rfl rfl ?_
  refine q_return rfl rfl ?_
  show aW aiP 6 13 578 4 [(0, .ref 178)] [] h21 _
  refine q_aload_n rfl rfl ?_
  refine q_iconst rfl ?_
  refine s_put (vs' := [.int 0, .null, .int 0]) rfl o21 rfl rfl rfl rfl (fun h22 o22 f22 => ?_)
  have s22 := s21.put f22
  refine q_return rfl rfl ?_
  show aW aiP 5 14 598 4 [(0, .ref 178)] [] h22 _
  refine q_aload_n rfl rfl ?_
  refine q_getstatic rfl ?_
  refine s_put (vs' := [.int 0, .ref 5, .int 0]) rfl o22 rfl rfl rfl rfl (fun h23 o23 f23 => ?_)
  have s23 := s22.put f23
  refine q_return rfl rfl ?_
  show aW aiP 4 15 618 12 [(0, .ref 177)] [.ref 178, .ref 177] h23 _
  have e177_23 := (((o20.nw f21).ne f22 rfl).ne f23 rfl)
  refine s_put (vs' := [.ref 178, .null]) rfl e177_23 rfl rfl rfl rfl (fun h24 o24 f24 => ?_)
  have s24 := s23.put f24
  refine q_aload_n rfl rfl ?_
  refine q_bipush rfl ?_
  refine s_newa (k := 7) (n' := 180) (q' := 1811) (v0 := .int 0) rfl (by decide) rfl s24 rfl rfl rfl (fun h25 o25 f25 s25 => ?_)
  have e177_25 := (o24.nw f25)
  refine s_put (vs' := [.ref 178, .ref 179]) rfl e177_25 rfl rfl rfl rfl (fun h26 o26 f26 => ?_)
  have s26 := s25.put f26
  refine q_return rfl rfl ?_
  show aW aiP 1 16 638 91 [(0, .ref 6)] [.ref 177, .ref 6] h26 _
  have e6_26 := (((((((o19.nw f20).nw f21).ne f22 rfl).ne f23 rfl).ne f24 rfl).nw f25).ne f26 rfl)
  refine s_put (vs' := [.ref 7, .ref 8, .int 0, .ref 9, .int (-1), .ref 51, .ref 93, .ref 135, .ref 177, .null, .int 0, .null, .null, .null]) rfl e6_26 rfl rfl rfl rfl (fun h27 o27 f27 => ?_)
  have s27 := s26.put f27
  refine q_aload_n rfl rfl ?_
  refine s_new (n' := 181) (q' := 1817) (vs := [.null, .null, .null, .int 0, .int 0, .int 0]) rfl rfl s27 rfl rfl rfl (fun h28 o28 f28 s28 => ?_)
  refine q_dup rfl rfl ?_
  refine q_aload_n rfl rfl ?_
  have e6_28 := (o27.nw f28)
  refine s_get (v := .ref 177) rfl e6_28 rfl rfl ?_
  refine s_callI (as := [.ref 177]) (rest := [.ref 180, .ref 6]) (d' := 15) (w' := 617) (lv' := [(0, .ref 180), (1, .ref 177)]) rfl rfl rfl rfl rfl rfl rfl rfl ?_
  refine q_aload_n rfl rfl ?_
  refine s_objI rfl rfl ?_
  refine q_aload_n rfl rfl ?_
  refine s_new (n' := 182) (q' := 1820) (vs := [.int 0, .null, .int 0]) rfl rfl s28 rfl rfl rfl (fun h29 o29 f29 s29 => ?_)
  refine q_dup rfl rfl ?_
  refine s_callI (as := []) (rest := [.ref 181, .ref 180]) (d' := 14) (w' := 597) (lv' := [(0, .ref 181)]) rfl rfl rfl rfl rfl rfl rfl rfl ?_
  refine q_aload_n rfl rfl ?_
  refine s_callI (as := []) (rest := []) (d' := 13) (w' := 577) (lv' := [(0, .ref 181)]) rfl rfl rfl rfl rfl rfl rfl rfl ?_
  refine q_aload_n rfl rfl ?_
  refine s_callI (as := []) (rest := []) (d' := 12) (w' := 557) (lv' := [(0, .ref 181)]) rfl rfl rfl rfl rfl rfl rfl rfl ?_
  refine q_aload_n rfl rfl ?_
  refine s_objI rfl rfl ?_
  refine q_return rfl rfl ?_
  show aW aiP 6 13 577 4 [(0, .ref 181)] [] h29 _
  refine q_aload_n rfl rfl ?_
  refine q_iconst rfl ?_
  refine s_put (vs' := [.int 0, .null, .int 0]) rfl o29 rfl rfl rfl rfl (fun h30 o30 f30 => ?_)
  have s30 := s29.put f30
  refine q_return rfl rfl ?_
  show aW aiP 5 14 597 4 [(0, .ref 181)] [] h30 _
  refine q_aload_n rfl rfl ?_
  refine q_getstatic rfl ?_
  refine s_put (vs' := [.int 0, .ref 5, .int 0]) rfl o30 rfl rfl rfl rfl (fun h31 o31 f31 => ?_)
  have s31 := s30.put f31
  refine q_return rfl rfl ?_
  show aW aiP 8 15 617 12 [(0, .ref 180), (1, .ref 177)] [.ref 181, .ref 180] h31 _
  have e180_31 := (((o28.nw f29).ne f30 rfl).ne f31 rfl)
  refine s_put (vs' := [.null, .ref 181, .null, .int 0, .int 0, .int 0]) rfl e180_31 rfl rfl rfl rfl (fun h32 o32 f32 => ?_)
  have s32 := s31.put f32
  refine q_aload_n rfl rfl ?_
  refine s_new (n' := 183) (q' := 1823) (vs := [.null, .null, .null]) rfl rfl s32 rfl rfl rfl (fun h33 o33 f33 s33 => ?_)
  refine q_dup rfl rfl ?_
  refine q_null rfl ?_
  refine q_null rfl ?_
  refine s_callI (as := [.null, .null]) (rest := [.ref 182, .ref 180]) (d' := 14) (w' := 595) (lv' := [(0, .ref 182), (1, .null), (2, .null)]) rfl rfl rfl rfl rfl rfl rfl rfl ?_
  refine q_aload_n rfl rfl ?_
  refine s_objI rfl rfl ?_
  refine q_aload_n rfl rfl ?_
  refine q_null rfl ?_
  refine s_put (vs' := [.null, .null, .null]) rfl o33 rfl rfl rfl rfl (fun h34 o34 f34 => ?_)
  have s34 := s33.put f34
  refine q_aload_n rfl rfl ?_
  refine q_aload_nN rfl rfl ?_
  refine s_put (vs' := [.null, .null, .null]) rfl o34 rfl rfl rfl rfl (fun h35 o35 f35 => ?_)
  have s35 := s34.put f35
  refine q_aload_n rfl rfl ?_
  refine q_aload_nN rfl rfl ?_
  refine s_put (vs' := [.null, .null, .null]) rfl o35 rfl rfl rfl rfl (fun h36 o36 f36 => ?_)
  have s36 := s35.put f36
  refine q_return rfl rfl ?_
  show aW aiP 8 15 617 25 [(0, .ref 180), (1, .ref 177)] [.ref 182, .ref 180] h36 _
  have e180_36 := ((((o32.nw f33).ne f34 rfl).ne f35 rfl).ne f36 rfl)
  refine s_put (vs' := [.null, .ref 181, .ref 182, .int 0, .int 0, .int 0]) rfl e180_36 rfl rfl rfl rfl (fun h37 o37 f37 => ?_)
  have s37 := s36.put f37
  refine q_aload_n rfl rfl ?_
  refine q_iconst rfl ?_
  refine s_put (vs' := [.null, .ref 181, .ref 182, .int 0, .int 0, .int 0]) rfl o37 rfl rfl rfl rfl (fun h38 o38 f38 => ?_)
  have s38 := s37.put f38
  refine q_aload_n rfl rfl ?_
  refine q_iconst rfl ?_
  refine s_put (vs' := [.null, .ref 181, .ref 182, .int 0, .int 0, .int 0]) rfl o38 rfl rfl rfl rfl (fun h39 o39 f39 => ?_)
  have s39 := s38.put f39
  refine q_aload_n rfl rfl ?_
  refine q_iconst rfl ?_
  refine s_put (vs' := [.null, .ref 181, .ref 182, .int 0, .int 0, .int 0]) rfl o39 rfl rfl rfl rfl (fun h40 o40 f40 => ?_)
  have s40 := s39.put f40
  refine q_aload_n rfl rfl ?_
  refine q_aload_n rfl rfl ?_
  refine s_put (vs' := [.ref 177, .ref 181, .ref 182, .int 0, .int 0, .int 0]) rfl o40 rfl rfl rfl rfl (fun h41 o41 f41 => ?_)
  have s41 := s40.put f41
  refine q_return rfl rfl ?_
  show aW aiP 1 16 638 106 [(0, .ref 6)] [.ref 180, .ref 6] h41 _
  have e6_41 := (((((((((((((e6_28.nw f29).ne f30 rfl).ne f31 rfl).ne f32 rfl).nw f33).ne f34 rfl).ne f35 rfl).ne f36 rfl).ne f37 rfl).ne f38 rfl).ne f39 rfl).ne f40 rfl).ne f41 rfl)
  refine s_put (vs' := [.ref 7, .ref 8, .int 0, .ref 9, .int (-1), .ref 51, .ref 93, .ref 135, .ref 177, .ref 180, .int 0, .null, .null, .null]) rfl e6_41 rfl rfl rfl rfl (fun h42 o42 f42 => ?_)
  have s42 := s41.put f42
  refine q_aload_n rfl rfl ?_
  refine q_iconst rfl ?_
  refine s_put (vs' := [.ref 7, .ref 8, .int 0, .ref 9, .int (-1), .ref 51, .ref 93, .ref 135, .ref 177, .ref 180, .int 0, .null, .null, .null]) rfl o42 rfl rfl rfl rfl (fun h43 o43 f43 => ?_)
  have s43 := s42.put f43
  refine q_aload_n rfl rfl ?_
  refine s_new (n' := 184) (q' := 1825) (vs := [.null, .null]) rfl rfl s43 rfl rfl rfl (fun h44 o44 f44 s44 => ?_)
  refine q_dup rfl rfl ?_
  refine s_callI (as := []) (rest := [.ref 183, .ref 6]) (d' := 15) (w' := 618) (lv' := [(0, .ref 183)]) rfl rfl rfl rfl rfl rfl rfl rfl ?_
  refine q_aload_n rfl rfl ?_
  refine s_objI rfl rfl ?_
  refine q_aload_n rfl rfl ?_
  refine q_bipush rfl ?_
  refine s_newa (k := 64) (n' := 185) (q' := 1889) (v0 := .int 0) rfl (by decide) rfl s44 rfl rfl rfl (fun h45 o45 f45 s45 => ?_)
  have e183_45 := (o44.nw f45)
  refine s_put (vs' := [.ref 184, .null]) rfl e183_45 rfl rfl rfl rfl (fun h46 o46 f46 => ?_)
  have s46 := s45.put f46
  refine q_aload_n rfl rfl ?_
  refine q_bipush rfl ?_
  refine s_newa (k := 8) (n' := 186) (q' := 1897) (v0 := .int 0) rfl (by decide) rfl s46 rfl rfl rfl (fun h47 o47 f47 s47 => ?_)
  have e183_47 := (o46.nw f47)
  refine s_put (vs' := [.ref 184, .ref 185]) rfl e183_47 rfl rfl rfl rfl (fun h48 o48 f48 => ?_)
  have s48 := s47.put f48
  refine q_return rfl rfl ?_
  show aW aiP 1 16 638 122 [(0, .ref 6)] [.ref 183, .ref 6] h48 _
  have e6_48 := (((((o43.nw f44).nw f45).ne f46 rfl).nw f47).ne f48 rfl)
  refine s_put (vs' := [.ref 7, .ref 8, .int 0, .ref 9, .int (-1), .ref 51, .ref 93, .ref 135, .ref 177, .ref 180, .int 0, .ref 183, .null, .null]) rfl e6_48 rfl rfl rfl rfl (fun h49 o49 f49 => ?_)
  have s49 := s48.put f49
  refine q_aload_n rfl rfl ?_
  refine s_new (n' := 187) (q' := 1901) (vs := [.null, .null, .null, .int 0]) rfl rfl s49 rfl rfl rfl (fun h50 o50 f50 s50 => ?_)
  refine q_dup rfl rfl ?_
  refine s_callI (as := []) (rest := [.ref 186, .ref 6]) (d' := 15) (w' := 618) (lv' := [(0, .ref 186)]) rfl rfl rfl rfl rfl rfl rfl rfl ?_
  refine q_aload_n rfl rfl ?_
  refine s_objI rfl rfl ?_
  refine q_aload_n rfl rfl ?_
  refine q_getstatic rfl ?_
  refine s_put (vs' := [.ref 1, .null, .null, .int 0]) rfl o50 rfl rfl rfl rfl (fun h51 o51 f51 => ?_)
  have s51 := s50.put f51
  refine q_aload_n rfl rfl ?_
  refine q_iconst rfl ?_
  refine s_newa (k := 3) (n' := 188) (q' := 1904) (v0 := .int 0) rfl (by decide) rfl s51 rfl rfl rfl (fun h52 o52 f52 s52 => ?_)
  have e186_52 := (o51.nw f52)
  refine s_put (vs' := [.ref 1, .ref 187, .null, .int 0]) rfl e186_52 rfl rfl rfl rfl (fun h53 o53 f53 => ?_)
  have s53 := s52.put f53
  refine q_aload_n rfl rfl ?_
  refine q_iconst rfl ?_
  refine s_newa (k := 3) (n' := 189) (q' := 1907) (v0 := .int 0) rfl (by decide) rfl s53 rfl rfl rfl (fun h54 o54 f54 s54 => ?_)
  have e186_54 := (o53.nw f54)
  refine s_put (vs' := [.ref 1, .ref 187, .ref 188, .int 0]) rfl e186_54 rfl rfl rfl rfl (fun h55 o55 f55 => ?_)
  have s55 := s54.put f55
  refine q_aload_n rfl rfl ?_
  refine q_iconst rfl ?_
  refine s_put (vs' := [.ref 1, .ref 187, .ref 188, .int 0]) rfl o55 rfl rfl rfl rfl (fun h56 o56 f56 => ?_)
  have s56 := s55.put f56
  refine q_return rfl rfl ?_
  show aW aiP 1 16 638 133 [(0, .ref 6)] [.ref 186, .ref 6] h56 _
  have e6_56 := (((((((o49.nw f50).ne f51 rfl).nw f52).ne f53 rfl).nw f54).ne f55 rfl).ne f56 rfl)
  refine s_put (vs' := [.ref 7, .ref 8, .int 0, .ref 9, .int (-1), .ref 51, .ref 93, .ref 135, .ref 177, .ref 180, .int 0, .ref 183, .ref 186, .null]) rfl e6_56 rfl rfl rfl rfl (fun h57 o57 f57 => ?_)
  have s57 := s56.put f57
  refine q_aload_n rfl rfl ?_
  refine s_new (n' := 190) (q' := 1909) (vs := [.null, .int 0]) rfl rfl s57 rfl rfl rfl (fun h58 o58 f58 s58 => ?_)
  refine q_dup rfl rfl ?_
  refine s_callI (as := []) (rest := [.ref 189, .ref 6]) (d' := 15) (w' := 618) (lv' := [(0, .ref 189)]) rfl rfl rfl rfl rfl rfl rfl rfl ?_
  refine q_aload_n rfl rfl ?_
  refine s_objI rfl rfl ?_
  refine q_aload_n rfl rfl ?_
  refine q_sipush rfl ?_
  refine s_newa (k := 24320) (n' := 191) (q' := 26229) (v0 := .int 0) rfl (by decide) rfl s58 rfl rfl rfl (fun h59 o59 f59 s59 => ?_)
  have e189_59 := (o58.nw f59)
  refine s_put (vs' := [.ref 190, .int 0]) rfl e189_59 rfl rfl rfl rfl (fun h60 o60 f60 => ?_)
  have s60 := s59.put f60
  refine q_aload_n rfl rfl ?_
  refine q_iconst rfl ?_
  refine s_put (vs' := [.ref 190, .int 0]) rfl o60 rfl rfl rfl rfl (fun h61 o61 f61 => ?_)
  have s61 := s60.put f61
  refine q_return rfl rfl ?_
  show aW aiP 1 16 638 144 [(0, .ref 6)] [.ref 189, .ref 6] h61 _
  have e6_61 := ((((o57.nw f58).nw f59).ne f60 rfl).ne f61 rfl)
  refine s_put (vs' := [.ref 7, .ref 8, .int 0, .ref 9, .int (-1), .ref 51, .ref 93, .ref 135, .ref 177, .ref 180, .int 0, .ref 183, .ref 186, .ref 189]) rfl e6_61 rfl rfl rfl rfl (fun h62 o62 f62 => ?_)
  have s62 := s61.put f62
  refine q_return rfl rfl ?_
  show aW aiP 0 17 658 7 [(0, .ref 0)] [.ref 6] h62 _
  refine s_astore_n (lv' := [(1, .ref 6), (0, .ref 0)]) rfl (by decide) rfl ?_
  refine s_new (n' := 192) (q' := 26288) (vs := [.int 0, .null, .null, .int 0, .null, .null, .null, .null, .null, .null, .null, .null, .null, .null, .null, .null, .int 0, .int 0, .null, .null, .null, .null, .null, .null, .null, .null, .null, .null, .int 0, .int 0, .int 0, .int 0, .null, .null, .null, .null, .null, .int 0, .int 0, .int 0, .int 0, .int 0, .int 0, .int 0, .null, .null, .null, .null, .int 0, .null, .int 0, .null, .null, .int 0, .null, .null, .null, .null, .null]) rfl rfl s62 rfl rfl rfl (fun h63 o63 f63 s63 => ?_)
  refine q_dup rfl rfl ?_
  refine s_callI (as := []) (rest := [.ref 191]) (d' := 16) (w' := 638) (lv' := [(0, .ref 191)]) rfl rfl rfl rfl rfl rfl rfl rfl ?_
  refine q_aload_n rfl rfl ?_
  refine s_objI rfl rfl ?_
  refine q_aload_n rfl rfl ?_
  refine q_bipush rfl ?_
  refine s_newa (k := 20) (n' := 193) (q' := 26308) (v0 := .int 0) rfl (by decide) rfl s63 rfl rfl rfl (fun h64 o64 f64 s64 => ?_)
  have e191_64 := (o63.nw f64)
  refine s_put (vs' := [.int 0, .ref 192, .null, .int 0, .null, .null, .null, .null, .null, .null, .null, .null, .null, .null, .null, .null, .int 0, .int 0, .null, .null, .null, .null, .null, .null, .null, .null, .null, .null, .int 0, .int 0, .int 0, .int 0, .null, .null, .null, .null, .null, .int 0, .int 0, .int 0, .int 0, .int 0, .int 0, .int 0, .null, .null, .null, .null, .int 0, .null, .int 0, .null, .null, .int 0, .null, .null, .null, .null, .null]) rfl e191_64 rfl rfl rfl rfl (fun h65 o65 f65 => ?_)
  have s65 := s64.put f65
  refine q_aload_n rfl rfl ?_
  refine q_sipush rfl ?_
  refine s_newa (k := 400) (n' := 194) (q' := 26708) (v0 := .int 0) rfl (by decide) rfl s65 rfl rfl rfl (fun h66 o66 f66 s66 => ?_)
  have e191_66 := (o65.nw f66)
  refine s_put (vs' := [.int 0, .ref 192, .ref 193, .int 0, .null, .null, .null, .null, .null, .null, .null, .null, .null, .null, .null, .null, .int 0, .int 0, .null, .null, .null, .null, .null, .null, .null, .null, .null, .null, .int 0, .int 0, .int 0, .int 0, .null, .null, .null, .null, .null, .int 0, .int 0, .int 0, .int 0, .int 0, .int 0, .int 0, .null, .null, .null, .null, .int 0, .null, .int 0, .null, .null, .int 0, .null, .null, .null, .null, .null]) rfl e191_66 rfl rfl rfl rfl (fun h67 o67 f67 => ?_)
  have s67 := s66.put f67
  refine q_aload_n rfl rfl ?_
  refine q_bipush rfl ?_
  refine s_newa (k := 33) (n' := 195) (q' := 26741) (v0 := .int 0) rfl (by decide) rfl s67 rfl rfl rfl (fun h68 o68 f68 s68 => ?_)
  have e191_68 := (o67.nw f68)
  refine s_put (vs' := [.int 0, .ref 192, .ref 193, .int 0, .ref 194, .null, .null, .null, .null, .null, .null, .null, .null, .null, .null, .null, .int 0, .int 0, .null, .null, .null, .null, .null, .null, .null, .null, .null, .null, .int 0, .int 0, .int 0, .int 0, .null, .null, .null, .null, .null, .int 0, .int 0, .int 0, .int 0, .int 0, .int 0, .int 0, .null, .null, .null, .null, .int 0, .null, .int 0, .null, .null, .int 0, .null, .null, .null, .null, .null]) rfl e191_68 rfl rfl rfl rfl (fun h69 o69 f69 => ?_)
  have s69 := s68.put f69
  refine q_aload_n rfl rfl ?_
  refine q_sipush rfl ?_
  refine s_newa (k := 1320) (n' := 196) (q' := 28061) (v0 := .int 0) rfl (by decide) rfl s69 rfl rfl rfl (fun h70 o70 f70 s70 => ?_)
  have e191_70 := (o69.nw f70)
  refine s_put (vs' := [.int 0, .ref 192, .ref 193, .int 0, .ref 194, .ref 195, .null, .null, .null, .null, .null, .null, .null, .null, .null, .null, .int 0, .int 0, .null, .null, .null, .null, .null, .null, .null, .null, .null, .null, .int 0, .int 0, .int 0, .int 0, .null, .null, .null, .null, .null, .int 0, .int 0, .int 0, .int 0, .int 0, .int 0, .int 0, .null, .null, .null, .null, .int 0, .null, .int 0, .null, .null, .int 0, .null, .null, .null, .null, .null]) rfl e191_70 rfl rfl rfl rfl (fun h71 o71 f71 => ?_)
  have s71 := s70.put f71
  refine q_aload_n rfl rfl ?_
  refine q_sipush rfl ?_
  refine s_newa (k := 1320) (n' := 197) (q' := 29381) (v0 := .int 0) rfl (by decide) rfl s71 rfl rfl rfl (fun h72 o72 f72 s72 => ?_)
  have e191_72 := (o71.nw f72)
  refine s_put (vs' := [.int 0, .ref 192, .ref 193, .int 0, .ref 194, .ref 195, .ref 196, .null, .null, .null, .null, .null, .null, .null, .null, .null, .int 0, .int 0, .null, .null, .null, .null, .null, .null, .null, .null, .null, .null, .int 0, .int 0, .int 0, .int 0, .null, .null, .null, .null, .null, .int 0, .int 0, .int 0, .int 0, .int 0, .int 0, .int 0, .null, .null, .null, .null, .int 0, .null, .int 0, .null, .null, .int 0, .null, .null, .null, .null, .null]) rfl e191_72 rfl rfl rfl rfl (fun h73 o73 f73 => ?_)
  have s73 := s72.put f73
  refine q_aload_n rfl rfl ?_
  refine q_sipush rfl ?_
  refine s_newa (k := 1320) (n' := 198) (q' := 30701) (v0 := .int 0) rfl (by decide) rfl s73 rfl rfl rfl (fun h74 o74 f74 s74 => ?_)
  have e191_74 := (o73.nw f74)
  refine s_put (vs' := [.int 0, .ref 192, .ref 193, .int 0, .ref 194, .ref 195, .ref 196, .ref 197, .null, .null, .null, .null, .null, .null, .null, .null, .int 0, .int 0, .null, .null, .null, .null, .null, .null, .null, .null, .null, .null, .int 0, .int 0, .int 0, .int 0, .null, .null, .null, .null, .null, .int 0, .int 0, .int 0, .int 0, .int 0, .int 0, .int 0, .null, .null, .null, .null, .int 0, .null, .int 0, .null, .null, .int 0, .null, .null, .null, .null, .null]) rfl e191_74 rfl rfl rfl rfl (fun h75 o75 f75 => ?_)
  have s75 := s74.put f75
  refine q_aload_n rfl rfl ?_
  refine q_sipush rfl ?_
  refine s_newa (k := 1320) (n' := 199) (q' := 32021) (v0 := .int 0) rfl (by decide) rfl s75 rfl rfl rfl (fun h76 o76 f76 s76 => ?_)
  have e191_76 := (o75.nw f76)
  refine s_put (vs' := [.int 0, .ref 192, .ref 193, .int 0, .ref 194, .ref 195, .ref 196, .ref 197, .ref 198, .null, .null, .null, .null, .null, .null, .null, .int 0, .int 0, .null, .null, .null, .null, .null, .null, .null, .null, .null, .null, .int 0, .int 0, .int 0, .int 0, .null, .null, .null, .null, .null, .int 0, .int 0, .int 0, .int 0, .int 0, .int 0, .int 0, .null, .null, .null, .null, .int 0, .null, .int 0, .null, .null, .int 0, .null, .null, .null, .null, .null]) rfl e191_76 rfl rfl rfl rfl (fun h77 o77 f77 => ?_)
  have s77 := s76.put f77
  refine q_aload_n rfl rfl ?_
  refine q_sipush rfl ?_
  refine s_newa (k := 1320) (n' := 200) (q' := 33341) (v0 := .int 0) rfl (by decide) rfl s77 rfl rfl rfl (fun h78 o78 f78 s78 => ?_)
  have e191_78 := (o77.nw f78)
  refine s_put (vs' := [.int 0, .ref 192, .ref 193, .int 0, .ref 194, .ref 195, .ref 196, .ref 197, .ref 198, .ref 199, .null, .null, .null, .null, .null, .null, .int 0, .int 0, .null, .null, .null, .null, .null, .null, .null, .null, .null, .null, .int 0, .int 0, .int 0, .int 0, .null, .null, .null, .null, .null, .int 0, .int 0, .int 0, .int 0, .int 0, .int 0, .int 0, .null, .null, .null, .null, .int 0, .null, .int 0, .null, .null, .int 0, .null, .null, .null, .null, .null]) rfl e191_78 rfl rfl rfl rfl (fun h79 o79 f79 => ?_)
  have s79 := s78.put f79
  refine q_aload_n rfl rfl ?_
  refine q_sipush rfl ?_
  refine s_newa (k := 1320) (n' := 201) (q' := 34661) (v0 := .int 0) rfl (by decide) rfl s79 rfl rfl rfl (fun h80 o80 f80 s80 => ?_)
  have e191_80 := (o79.nw f80)
  refine s_put (vs' := [.int 0, .ref 192, .ref 193, .int 0, .ref 194, .ref 195, .ref 196, .ref 197, .ref 198, .ref 199, .ref 200, .null, .null, .null, .null, .null, .int 0, .int 0, .null, .null, .null, .null, .null, .null, .null, .null, .null, .null, .int 0, .int 0, .int 0, .int 0, .null, .null, .null, .null, .null, .int 0, .int 0, .int 0, .int 0, .int 0, .int 0, .int 0, .null, .null, .null, .null, .int 0, .null, .int 0, .null, .null, .int 0, .null, .null, .null, .null, .null]) rfl e191_80 rfl rfl rfl rfl (fun h81 o81 f81 => ?_)
  have s81 := s80.put f81
  refine q_aload_n rfl rfl ?_
  refine q_ldc rfl ?_
  refine s_newa (k := 130680) (n' := 202) (q' := 165341) (v0 := .int 0) rfl (by decide) rfl s81 rfl rfl rfl (fun h82 o82 f82 s82 => ?_)
  have e191_82 := (o81.nw f82)
  refine s_put (vs' := [.int 0, .ref 192, .ref 193, .int 0, .ref 194, .ref 195, .ref 196, .ref 197, .ref 198, .ref 199, .ref 200, .ref 201, .null, .null, .null, .null, .int 0, .int 0, .null, .null, .null, .null, .null, .null, .null, .null, .null, .null, .int 0, .int 0, .int 0, .int 0, .null, .null, .null, .null, .null, .int 0, .int 0, .int 0, .int 0, .int 0, .int 0, .int 0, .null, .null, .null, .null, .int 0, .null, .int 0, .null, .null, .int 0, .null, .null, .null, .null, .null]) rfl e191_82 rfl rfl rfl rfl (fun h83 o83 f83 => ?_)
  have s83 := s82.put f83
  refine q_aload_n rfl rfl ?_
  refine q_ldc rfl ?_
  refine s_newa (k := 250800) (n' := 203) (q' := 416141) (v0 := .int 0) rfl (by decide) rfl s83 rfl rfl rfl (fun h84 o84 f84 s84 => ?_)
  have e191_84 := (o83.nw f84)
  refine s_put (vs' := [.int 0, .ref 192, .ref 193, .int 0, .ref 194, .ref 195, .ref 196, .ref 197, .ref 198, .ref 199, .ref 200, .ref 201, .ref 202, .null, .null, .null, .int 0, .int 0, .null, .null, .null, .null, .null, .null, .null, .null, .null, .null, .int 0, .int 0, .int 0, .int 0, .null, .null, .null, .null, .null, .int 0, .int 0, .int 0, .int 0, .int 0, .int 0, .int 0, .null, .null, .null, .null, .int 0, .null, .int 0, .null, .null, .int 0, .null, .null, .null, .null, .null]) rfl e191_84 rfl rfl rfl rfl (fun h85 o85 f85 => ?_)
  have s85 := s84.put f85
  refine q_aload_n rfl rfl ?_
  refine q_ldc rfl ?_
  refine s_newa (k := 48000) (n' := 204) (q' := 464141) (v0 := .int 0) rfl (by decide) rfl s85 rfl rfl rfl (fun h86 o86 f86 s86 => ?_)
  have e191_86 := (o85.nw f86)
  refine s_put (vs' := [.int 0, .ref 192, .ref 193, .int 0, .ref 194, .ref 195, .ref 196, .ref 197, .ref 198, .ref 199, .ref 200, .ref 201, .ref 202, .ref 203, .null, .null, .int 0, .int 0, .null, .null, .null, .null, .null, .null, .null, .null, .null, .null, .int 0, .int 0, .int 0, .int 0, .null, .null, .null, .null, .null, .int 0, .int 0, .int 0, .int 0, .int 0, .int 0, .int 0, .null, .null, .null, .null, .int 0, .null, .int 0, .null, .null, .int 0, .null, .null, .null, .null, .null]) rfl e191_86 rfl rfl rfl rfl (fun h87 o87 f87 => ?_)
  have s87 := s86.put f87
  refine q_aload_n rfl rfl ?_
  refine q_bipush rfl ?_
  refine s_newa (k := 40) (n' := 205) (q' := 464181) (v0 := .int 0) rfl (by decide) rfl s87 rfl rfl rfl (fun h88 o88 f88 s88 => ?_)
  have e191_88 := (o87.nw f88)
  refine s_put (vs' := [.int 0, .ref 192, .ref 193, .int 0, .ref 194, .ref 195, .ref 196, .ref 197, .ref 198, .ref 199, .ref 200, .ref 201, .ref 202, .ref 203, .ref 204, .null, .int 0, .int 0, .null, .null, .null, .null, .null, .null, .null, .null, .null, .null, .int 0, .int 0, .int 0, .int 0, .null, .null, .null, .null, .null, .int 0, .int 0, .int 0, .int 0, .int 0, .int 0, .int 0, .null, .null, .null, .null, .int 0, .null, .int 0, .null, .null, .int 0, .null, .null, .null, .null, .null]) rfl e191_88 rfl rfl rfl rfl (fun h89 o89 f89 => ?_)
  have s89 := s88.put f89
  refine q_aload_n rfl rfl ?_
  refine q_bipush rfl ?_
  refine s_newa (k := 40) (n' := 206) (q' := 464221) (v0 := .int 0) rfl (by decide) rfl s89 rfl rfl rfl (fun h90 o90 f90 s90 => ?_)
  have e191_90 := (o89.nw f90)
  refine s_put (vs' := [.int 0, .ref 192, .ref 193, .int 0, .ref 194, .ref 195, .ref 196, .ref 197, .ref 198, .ref 199, .ref 200, .ref 201, .ref 202, .ref 203, .ref 204, .ref 205, .int 0, .int 0, .null, .null, .null, .null, .null, .null, .null, .null, .null, .null, .int 0, .int 0, .int 0, .int 0, .null, .null, .null, .null, .null, .int 0, .int 0, .int 0, .int 0, .int 0, .int 0, .int 0, .null, .null, .null, .null, .int 0, .null, .int 0, .null, .null, .int 0, .null, .null, .null, .null, .null]) rfl e191_90 rfl rfl rfl rfl (fun h91 o91 f91 => ?_)
  have s91 := s90.put f91
  refine q_aload_n rfl rfl ?_
  refine q_iconst rfl ?_
  refine s_put (vs' := [.int 0, .ref 192, .ref 193, .int 0, .ref 194, .ref 195, .ref 196, .ref 197, .ref 198, .ref 199, .ref 200, .ref 201, .ref 202, .ref 203, .ref 204, .ref 205, .int (-1), .int 0, .null, .null, .null, .null, .null, .null, .null, .null, .null, .null, .int 0, .int 0, .int 0, .int 0, .null, .null, .null, .null, .null, .int 0, .int 0, .int 0, .int 0, .int 0, .int 0, .int 0, .null, .null, .null, .null, .int 0, .null, .int 0, .null, .null, .int 0, .null, .null, .null, .null, .null]) rfl o91 rfl rfl rfl rfl (fun h92 o92 f92 => ?_)
  have s92 := s91.put f92
  refine q_aload_n rfl rfl ?_
  refine q_bipush rfl ?_
  refine s_newa (k := 31) (n' := 207) (q' := 464252) (v0 := .int 0) rfl (by decide) rfl s92 rfl rfl rfl (fun h93 o93 f93 s93 => ?_)
  have e191_93 := (o92.nw f93)
  refine s_put (vs' := [.int 0, .ref 192, .ref 193, .int 0, .ref 194, .ref 195, .ref 196, .ref 197, .ref 198, .ref 199, .ref 200, .ref 201, .ref 202, .ref 203, .ref 204, .ref 205, .int (-1), .int 0, .ref 206, .null, .null, .null, .null, .null, .null, .null, .null, .null, .int 0, .int 0, .int 0, .int 0, .null, .null, .null, .null, .null, .int 0, .int 0, .int 0, .int 0, .int 0, .int 0, .int 0, .null, .null, .null, .null, .int 0, .null, .int 0, .null, .null, .int 0, .null, .null, .null, .null, .null]) rfl e191_93 rfl rfl rfl rfl (fun h94 o94 f94 => ?_)
  have s94 := s93.put f94
  refine q_aload_n rfl rfl ?_
  refine q_sipush rfl ?_
  refine s_newa (k := 248) (n' := 208) (q' := 464500) (v0 := .int 0) rfl (by decide) rfl s94 rfl rfl rfl (fun h95 o95 f95 s95 => ?_)
  have e191_95 := (o94.nw f95)
  refine s_put (vs' := [.int 0, .ref 192, .ref 193, .int 0, .ref 194, .ref 195, .ref 196, .ref 197, .ref 198, .ref 199, .ref 200, .ref 201, .ref 202, .ref 203, .ref 204, .ref 205, .int (-1), .int 0, .ref 206, .ref 207, .null, .null, .null, .null, .null, .null, .null, .null, .int 0, .int 0, .int 0, .int 0, .null, .null, .null, .null, .null, .int 0, .int 0, .int 0, .int 0, .int 0, .int 0, .int 0, .null, .null, .null, .null, .int 0, .null, .int 0, .null, .null, .int 0, .null, .null, .null, .null, .null]) rfl e191_95 rfl rfl rfl rfl (fun h96 o96 f96 => ?_)
  have s96 := s95.put f96
  refine q_aload_n rfl rfl ?_
  refine q_bipush rfl ?_
  refine s_newa (k := 31) (n' := 209) (q' := 464531) (v0 := .int 0) rfl (by decide) rfl s96 rfl rfl rfl (fun h97 o97 f97 s97 => ?_)
  have e191_97 := (o96.nw f97)
  refine s_put (vs' := [.int 0, .ref 192, .ref 193, .int 0, .ref 194, .ref 195, .ref 196, .ref 197, .ref 198, .ref 199, .ref 200, .ref 201, .ref 202, .ref 203, .ref 204, .ref 205, .int (-1), .int 0, .ref 206, .ref 207, .ref 208, .null, .null, .null, .null, .null, .null, .null, .int 0, .int 0, .int 0, .int 0, .null, .null, .null, .null, .null, .int 0, .int 0, .int 0, .int 0, .int 0, .int 0, .int 0, .null, .null, .null, .null, .int 0, .null, .int 0, .null, .null, .int 0, .null, .null, .null, .null, .null]) rfl e191_97 rfl rfl rfl rfl (fun h98 o98 f98 => ?_)
  have s98 := s97.put f98
  refine q_aload_n rfl rfl ?_
  refine q_sipush rfl ?_
  refine s_newa (k := 2480) (n' := 210) (q' := 467011) (v0 := .int 0) rfl (by decide) rfl s98 rfl rfl rfl (fun h99 o99 f99 s99 => ?_)
  have e191_99 := (o98.nw f99)
  refine s_put (vs' := [.int 0, .ref 192, .ref 193, .int 0, .ref 194, .ref 195, .ref 196, .ref 197, .ref 198, .ref 199, .ref 200, .ref 201, .ref 202, .ref 203, .ref 204, .ref 205, .int (-1), .int 0, .ref 206, .ref 207, .ref 208, .ref 209, .null, .null, .null, .null, .null, .null, .int 0, .int 0, .int 0, .int 0, .null, .null, .null, .null, .null, .int 0, .int 0, .int 0, .int 0, .int 0, .int 0, .int 0, .null, .null, .null, .null, .int 0, .null, .int 0, .null, .null, .int 0, .null, .null, .null, .null, .null]) rfl e191_99 rfl rfl rfl rfl (fun h100 o100 f100 => ?_)
  have s100 := s99.put f100
  refine q_aload_n rfl rfl ?_
  refine q_bipush rfl ?_
  refine s_newa (k := 80) (n' := 211) (q' := 467091) (v0 := .int 0) rfl (by decide) rfl s100 rfl rfl rfl (fun h101 o101 f101 s101 => ?_)
  have e191_101 := (o100.nw f101)
  refine s_put (vs' := [.int 0, .ref 192, .ref 193, .int 0, .ref 194, .ref 195, .ref 196, .ref 197, .ref 198, .ref 199, .ref 200, .ref 201, .ref 202, .ref 203, .ref 204, .ref 205, .int (-1), .int 0, .ref 206, .ref 207, .ref 208, .ref 209, .ref 210, .null, .null, .null, .null, .null, .int 0, .int 0, .int 0, .int 0, .null, .null, .null, .null, .null, .int 0, .int 0, .int 0, .int 0, .int 0, .int 0, .int 0, .null, .null, .null, .null, .int 0, .null, .int 0, .null, .null, .int 0, .null, .null, .null, .null, .null]) rfl e191_101 rfl rfl rfl rfl (fun h102 o102 f102 => ?_)
  have s102 := s101.put f102
  refine q_aload_n rfl rfl ?_
  refine q_bipush rfl ?_
  refine s_newa (k := 31) (n' := 212) (q' := 467122) (v0 := .int 0) rfl (by decide) rfl s102 rfl rfl rfl (fun h103 o103 f103 s103 => ?_)
  have e191_103 := (o102.nw f103)
  refine s_put (vs' := [.int 0, .ref 192, .ref 193, .int 0, .ref 194, .ref 195, .ref 196, .ref 197, .ref 198, .ref 199, .ref 200, .ref 201, .ref 202, .ref 203, .ref 204, .ref 205, .int (-1), .int 0, .ref 206, .ref 207, .ref 208, .ref 209, .ref 210, .ref 211, .null, .null, .null, .null, .int 0, .int 0, .int 0, .int 0, .null, .null, .null, .null, .null, .int 0, .int 0, .int 0, .int 0, .int 0, .int 0, .int 0, .null, .null, .null, .null, .int 0, .null, .int 0, .null, .null, .int 0, .null, .null, .null, .null, .null]) rfl e191_103 rfl rfl rfl rfl (fun h104 o104 f104 => ?_)
  have s104 := s103.put f104
  refine q_aload_n rfl rfl ?_
  refine q_bipush rfl ?_
  refine s_newa (k := 31) (n' := 213) (q' := 467153) (v0 := .int 0) rfl (by decide) rfl s104 rfl rfl rfl (fun h105 o105 f105 s105 => ?_)
  have e191_105 := (o104.nw f105)
  refine s_put (vs' := [.int 0, .ref 192, .ref 193, .int 0, .ref 194, .ref 195, .ref 196, .ref 197, .ref 198, .ref 199, .ref 200, .ref 201, .ref 202, .ref 203, .ref 204, .ref 205, .int (-1), .int 0, .ref 206, .ref 207, .ref 208, .ref 209, .ref 210, .ref 211, .ref 212, .null, .null, .null, .int 0, .int 0, .int 0, .int 0, .null, .null, .null, .null, .null, .int 0, .int 0, .int 0, .int 0, .int 0, .int 0, .int 0, .null, .null, .null, .null, .int 0, .null, .int 0, .null, .null, .int 0, .null, .null, .null, .null, .null]) rfl e191_105 rfl rfl rfl rfl (fun h106 o106 f106 => ?_)
  have s106 := s105.put f106
  refine q_aload_n rfl rfl ?_
  refine q_sipush rfl ?_
  refine s_newa (k := 2480) (n' := 214) (q' := 469633) (v0 := .int 0) rfl (by decide) rfl s106 rfl rfl rfl (fun h107 o107 f107 s107 => ?_)
  have e191_107 := (o106.nw f107)
  refine s_put (vs' := [.int 0, .ref 192, .ref 193, .int 0, .ref 194, .ref 195, .ref 196, .ref 197, .ref 198, .ref 199, .ref 200, .ref 201, .ref 202, .ref 203, .ref 204, .ref 205, .int (-1), .int 0, .ref 206, .ref 207, .ref 208, .ref 209, .ref 210, .ref 211, .ref 212, .ref 213, .null, .null, .int 0, .int 0, .int 0, .int 0, .null, .null, .null, .null, .null, .int 0, .int 0, .int 0, .int 0, .int 0, .int 0, .int 0, .null, .null, .null, .null, .int 0, .null, .int 0, .null, .null, .int 0, .null, .null, .null, .null, .null]) rfl e191_107 rfl rfl rfl rfl (fun h108 o108 f108 => ?_)
  have s108 := s107.put f108
  refine q_aload_n rfl rfl ?_
  refine q_bipush rfl ?_
  refine s_newa (k := 80) (n' := 215) (q' := 469713) (v0 := .int 0) rfl (by decide) rfl s108 rfl rfl rfl (fun h109 o109 f109 s109 => ?_)
  have e191_109 := (o108.nw f109)
  refine s_put (vs' := [.int 0, .ref 192, .ref 193, .int 0, .ref 194, .ref 195, .ref 196, .ref 197, .ref 198, .ref 199, .ref 200, .ref 201, .ref 202, .ref 203, .ref 204, .ref 205, .int (-1), .int 0, .ref 206, .ref 207, .ref 208, .ref 209, .ref 210, .ref 211, .ref 212, .ref 213, .ref 214, .null, .int 0, .int 0, .int 0, .int 0, .null, .null, .null, .null, .null, .int 0, .int 0, .int 0, .int 0, .int 0, .int 0, .int 0, .null, .null, .null, .null, .int 0, .null, .int 0, .null, .null, .int 0, .null, .null, .null, .null, .null]) rfl e191_109 rfl rfl rfl rfl (fun h110 o110 f110 => ?_)
  have s110 := s109.put f110
  refine q_aload_n rfl rfl ?_
  refine q_bipush rfl ?_
  refine s_newa (k := 80) (n' := 216) (q' := 469793) (v0 := .int 0) rfl (by decide) rfl s110 rfl rfl rfl (fun h111 o111 f111 s111 => ?_)
  have e191_111 := (o110.nw f111)
  refine s_put (vs' := [.int 0, .ref 192, .ref 193, .int 0, .ref 194, .ref 195, .ref 196, .ref 197, .ref 198, .ref 199, .ref 200, .ref 201, .ref 202, .ref 203, .ref 204, .ref 205, .int (-1), .int 0, .ref 206, .ref 207, .ref 208, .ref 209, .ref 210, .ref 211, .ref 212, .ref 213, .ref 214, .ref 215, .int 0, .int 0, .int 0, .int 0, .null, .null, .null, .null, .null, .int 0, .int 0, .int 0, .int 0, .int 0, .int 0, .int 0, .null, .null, .null, .null, .int 0, .null, .int 0, .null, .null, .int 0, .null, .null, .null, .null, .null]) rfl e191_111 rfl rfl rfl rfl (fun h112 o112 f112 => ?_)
  have s112 := s111.put f112
  refine q_aload_n rfl rfl ?_
  refine q_bipush rfl ?_
  refine s_newa (k := 31) (n' := 217) (q' := 469824) (v0 := .int 0) rfl (by decide) rfl s112 rfl rfl rfl (fun h113 o113 f113 s113 => ?_)
  have e191_113 := (o112.nw f113)
  refine s_put (vs' := [.int 0, .ref 192, .ref 193, .int 0, .ref 194, .ref 195, .ref 196, .ref 197, .ref 198, .ref 199, .ref 200, .ref 201, .ref 202, .ref 203, .ref 204, .ref 205, .int (-1), .int 0, .ref 206, .ref 207, .ref 208, .ref 209, .ref 210, .ref 211, .ref 212, .ref 213, .ref 214, .ref 215, .int 0, .int 0, .int 0, .int 0, .ref 216, .null, .null, .null, .null, .int 0, .int 0, .int 0, .int 0, .int 0, .int 0, .int 0, .null, .null, .null, .null, .int 0, .null, .int 0, .null, .null, .int 0, .null, .null, .null, .null, .null]) rfl e191_113 rfl rfl rfl rfl (fun h114 o114 f114 => ?_)
  have s114 := s113.put f114
  refine q_aload_n rfl rfl ?_
  refine q_bipush rfl ?_
  refine s_newa (k := 31) (n' := 218) (q' := 469855) (v0 := .int 0) rfl (by decide) rfl s114 rfl rfl rfl (fun h115 o115 f115 s115 => ?_)
  have e191_115 := (o114.nw f115)
  refine s_put (vs' := [.int 0, .ref 192, .ref 193, .int 0, .ref 194, .ref 195, .ref 196, .ref 197, .ref 198, .ref 199, .ref 200, .ref 201, .ref 202, .ref 203, .ref 204, .ref 205, .int (-1), .int 0, .ref 206, .ref 207, .ref 208, .ref 209, .ref 210, .ref 211, .ref 212, .ref 213, .ref 214, .ref 215, .int 0, .int 0, .int 0, .int 0, .ref 216, .ref 217, .null, .null, .null, .int 0, .int 0, .int 0, .int 0, .int 0, .int 0, .int 0, .null, .null, .null, .null, .int 0, .null, .int 0, .null, .null, .int 0, .null, .null, .null, .null, .null]) rfl e191_115 rfl rfl rfl rfl (fun h116 o116 f116 => ?_)
  have s116 := s115.put f116
  refine q_aload_n rfl rfl ?_
  refine q_sipush rfl ?_
  refine s_newa (k := 2480) (n' := 219) (q' := 472335) (v0 := .int 0) rfl (by decide) rfl s116 rfl rfl rfl (fun h117 o117 f117 s117 => ?_)
  have e191_117 := (o116.nw f117)
  refine s_put (vs' := [.int 0, .ref 192, .ref 193, .int 0, .ref 194, .ref 195, .ref 196, .ref 197, .ref 198, .ref 199, .ref 200, .ref 201, .ref 202, .ref 203, .ref 204, .ref 205, .int (-1), .int 0, .ref 206, .ref 207, .ref 208, .ref 209, .ref 210, .ref 211, .ref 212, .ref 213, .ref 214, .ref 215, .int 0, .int 0, .int 0, .int 0, .ref 216, .ref 217, .ref 218, .null, .null, .int 0, .int 0, .int 0, .int 0, .int 0, .int 0, .int 0, .null, .null, .null, .null, .int 0, .null, .int 0, .null, .null, .int 0, .null, .null, .null, .null, .null]) rfl e191_117 rfl rfl rfl rfl (fun h118 o118 f118 => ?_)
  have s118 := s117.put f118
  refine q_aload_n rfl rfl ?_
  refine q_bipush rfl ?_
  refine s_newa (k := 80) (n' := 220) (q' := 472415) (v0 := .int 0) rfl (by decide) rfl s118 rfl rfl rfl (fun h119 o119 f119 s119 => ?_)
  have e191_119 := (o118.nw f119)
  refine s_put (vs' := [.int 0, .ref 192, .ref 193, .int 0, .ref 194, .ref 195, .ref 196, .ref 197, .ref 198, .ref 199, .ref 200, .ref 201, .ref 202, .ref 203, .ref 204, .ref 205, .int (-1), .int 0, .ref 206, .ref 207, .ref 208, .ref 209, .ref 210, .ref 211, .ref 212, .ref 213, .ref 214, .ref 215, .int 0, .int 0, .int 0, .int 0, .ref 216, .ref 217, .ref 218, .ref 219, .null, .int 0, .int 0, .int 0, .int 0, .int 0, .int 0, .int 0, .null, .null, .null, .null, .int 0, .null, .int 0, .null, .null, .int 0, .null, .null, .null, .null, .null]) rfl e191_119 rfl rfl rfl rfl (fun h120 o120 f120 => ?_)
  have s120 := s119.put f120
  refine q_aload_n rfl rfl ?_
  refine q_bipush rfl ?_
  refine s_newa (k := 80) (n' := 221) (q' := 472495) (v0 := .int 0) rfl (by decide) rfl s120 rfl rfl rfl (fun h121 o121 f121 s121 => ?_)
  have e191_121 := (o120.nw f121)
  refine s_put (vs' := [.int 0, .ref 192, .ref 193, .int 0, .ref 194, .ref 195, .ref 196, .ref 197, .ref 198, .ref 199, .ref 200, .ref 201, .ref 202, .ref 203, .ref 204, .ref 205, .int (-1), .int 0, .ref 206, .ref 207, .ref 208, .ref 209, .ref 210, .ref 211, .ref 212, .ref 213, .ref 214, .ref 215, .int 0, .int 0, .int 0, .int 0, .ref 216, .ref 217, .ref 218, .ref 219, .ref 220, .int 0, .int 0, .int 0, .int 0, .int 0, .int 0, .int 0, .null, .null, .null, .null, .int 0, .null, .int 0, .null, .null, .int 0, .null, .null, .null, .null, .null]) rfl e191_121 rfl rfl rfl rfl (fun h122 o122 f122 => ?_)
  have s122 := s121.put f122
  refine q_aload_n rfl rfl ?_
  refine q_iconst rfl ?_
  refine s_put (vs' := [.int 0, .ref 192, .ref 193, .int 0, .ref 194, .ref 195, .ref 196, .ref 197, .ref 198, .ref 199, .ref 200, .ref 201, .ref 202, .ref 203, .ref 204, .ref 205, .int (-1), .int 0, .ref 206, .ref 207, .ref 208, .ref 209, .ref 210, .ref 211, .ref 212, .ref 213, .ref 214, .ref 215, .int 0, .int 0, .int 0, .int 0, .ref 216, .ref 217, .ref 218, .ref 219, .ref 220, .int (-1), .int 0, .int 0, .int 0, .int 0, .int 0, .int 0, .null, .null, .null, .null, .int 0, .null, .int 0, .null, .null, .int 0, .null, .null, .null, .null, .null]) rfl o122 rfl rfl rfl rfl (fun h123 o123 f123 => ?_)
  have s123 := s122.put f123
  refine q_aload_n rfl rfl ?_
  refine q_sipush rfl ?_
  refine s_newa (k := 2800) (n' := 222) (q' := 475295) (v0 := .int 0) rfl (by decide) rfl s123 rfl rfl rfl (fun h124 o124 f124 s124 => ?_)
  have e191_124 := (o123.nw f124)
  refine s_put (vs' := [.int 0, .ref 192, .ref 193, .int 0, .ref 194, .ref 195, .ref 196, .ref 197, .ref 198, .ref 199, .ref 200, .ref 201, .ref 202, .ref 203, .ref 204, .ref 205, .int (-1), .int 0, .ref 206, .ref 207, .ref 208, .ref 209, .ref 210, .ref 211, .ref 212, .ref 213, .ref 214, .ref 215, .int 0, .int 0, .int 0, .int 0, .ref 216, .ref 217, .ref 218, .ref 219, .ref 220, .int (-1), .int 0, .int 0, .int 0, .int 0, .int 0, .int 0, .ref 221, .null, .null, .null, .int 0, .null, .int 0, .null, .null, .int 0, .null, .null, .null, .null, .null]) rfl e191_124 rfl rfl rfl rfl (fun h125 o125 f125 => ?_)
  have s125 := s124.put f125
  refine q_aload_n rfl rfl ?_
  refine q_sipush rfl ?_
  refine s_newa (k := 2800) (n' := 223) (q' := 478095) (v0 := .int 0) rfl (by decide) rfl s125 rfl rfl rfl (fun h126 o126 f126 s126 => ?_)
  have e191_126 := (o125.nw f126)
  refine s_put (vs' := [.int 0, .ref 192, .ref 193, .int 0, .ref 194, .ref 195, .ref 196, .ref 197, .ref 198, .ref 199, .ref 200, .ref 201, .ref 202, .ref 203, .ref 204, .ref 205, .int (-1), .int 0, .ref 206, .ref 207, .ref 208, .ref 209, .ref 210, .ref 211, .ref 212, .ref 213, .ref 214, .ref 215, .int 0, .int 0, .int 0, .int 0, .ref 216, .ref 217, .ref 218, .ref 219, .ref 220, .int (-1), .int 0, .int 0, .int 0, .int 0, .int 0, .int 0, .ref 221, .ref 222, .null, .null, .int 0, .null, .int 0, .null, .null, .int 0, .null, .null, .null, .null, .null]) rfl e191_126 rfl rfl rfl rfl (fun h127 o127 f127 => ?_)
  have s127 := s126.put f127
  refine q_aload_n rfl rfl ?_
  refine q_sipush rfl ?_
  refine s_newa (k := 2800) (n' := 224) (q' := 480895) (v0 := .int 0) rfl (by decide) rfl s127 rfl rfl rfl (fun h128 o128 f128 s128 => ?_)
  have e191_128 := (o127.nw f128)
  refine s_put (vs' := [.int 0, .ref 192, .ref 193, .int 0, .ref 194, .ref 195, .ref 196, .ref 197, .ref 198, .ref 199, .ref 200, .ref 201, .ref 202, .ref 203, .ref 204, .ref 205, .int (-1), .int 0, .ref 206, .ref 207, .ref 208, .ref 209, .ref 210, .ref 211, .ref 212, .ref 213, .ref 214, .ref 215, .int 0, .int 0, .int 0, .int 0, .ref 216, .ref 217, .ref 218, .ref 219, .ref 220, .int (-1), .int 0, .int 0, .int 0, .int 0, .int 0, .int 0, .ref 221, .ref 222, .ref 223, .null, .int 0, .null, .int 0, .null, .null, .int 0, .null, .null, .null, .null, .null]) rfl e191_128 rfl rfl rfl rfl (fun h129 o129 f129 => ?_)
  have s129 := s128.put f129
  refine q_aload_n rfl rfl ?_
  refine q_sipush rfl ?_
  refine s_newa (k := 30000) (n' := 225) (q' := 510895) (v0 := .int 0) rfl (by decide) rfl s129 rfl rfl rfl (fun h130 o130 f130 s130 => ?_)
  have e191_130 := (o129.nw f130)
  refine s_put (vs' := [.int 0, .ref 192, .ref 193, .int 0, .ref 194, .ref 195, .ref 196, .ref 197, .ref 198, .ref 199, .ref 200, .ref 201, .ref 202, .ref 203, .ref 204, .ref 205, .int (-1), .int 0, .ref 206, .ref 207, .ref 208, .ref 209, .ref 210, .ref 211, .ref 212, .ref 213, .ref 214, .ref 215, .int 0, .int 0, .int 0, .int 0, .ref 216, .ref 217, .ref 218, .ref 219, .ref 220, .int (-1), .int 0, .int 0, .int 0, .int 0, .int 0, .int 0, .ref 221, .ref 222, .ref 223, .ref 224, .int 0, .null, .int 0, .null, .null, .int 0, .null, .null, .null, .null, .null]) rfl e191_130 rfl rfl rfl rfl (fun h131 o131 f131 => ?_)
  have s131 := s130.put f131
  refine q_aload_n rfl rfl ?_
  refine q_sipush rfl ?_
  refine s_newa (k := 400) (n' := 226) (q' := 511295) (v0 := .int 0) rfl (by decide) rfl s131 rfl rfl rfl (fun h132 o132 f132 s132 => ?_)
  have e191_132 := (o131.nw f132)
  refine s_put (vs' := [.int 0, .ref 192, .ref 193, .int 0, .ref 194, .ref 195, .ref 196, .ref 197, .ref 198, .ref 199, .ref 200, .ref 201, .ref 202, .ref 203, .ref 204, .ref 205, .int (-1), .int 0, .ref 206, .ref 207, .ref 208, .ref 209, .ref 210, .ref 211, .ref 212, .ref 213, .ref 214, .ref 215, .int 0, .int 0, .int 0, .int 0, .ref 216, .ref 217, .ref 218, .ref 219, .ref 220, .int (-1), .int 0, .int 0, .int 0, .int 0, .int 0, .int 0, .ref 221, .ref 222, .ref 223, .ref 224, .int 0, .ref 225, .int 0, .null, .null, .int 0, .null, .null, .null, .null, .null]) rfl e191_132 rfl rfl rfl rfl (fun h133 o133 f133 => ?_)
  have s133 := s132.put f133
  refine q_aload_n rfl rfl ?_
  refine q_iconst rfl ?_
  refine s_newa (k := 4) (n' := 227) (q' := 511299) (v0 := .int 0) rfl (by decide) rfl s133 rfl rfl rfl (fun h134 o134 f134 s134 => ?_)
  have e191_134 := (o133.nw f134)
  refine s_put (vs' := [.int 0, .ref 192, .ref 193, .int 0, .ref 194, .ref 195, .ref 196, .ref 197, .ref 198, .ref 199, .ref 200, .ref 201, .ref 202, .ref 203, .ref 204, .ref 205, .int (-1), .int 0, .ref 206, .ref 207, .ref 208, .ref 209, .ref 210, .ref 211, .ref 212, .ref 213, .ref 214, .ref 215, .int 0, .int 0, .int 0, .int 0, .ref 216, .ref 217, .ref 218, .ref 219, .ref 220, .int (-1), .int 0, .int 0, .int 0, .int 0, .int 0, .int 0, .ref 221, .ref 222, .ref 223, .ref 224, .int 0, .ref 225, .int 0, .ref 226, .null, .int 0, .null, .null, .null, .null, .null]) rfl e191_134 rfl rfl rfl rfl (fun h135 o135 f135 => ?_)
  have s135 := s134.put f135
  refine q_aload_n rfl rfl ?_
  refine q_iconst rfl ?_
  refine s_newa (k := 4) (n' := 228) (q' := 511303) (v0 := .int 0) rfl (by decide) rfl s135 rfl rfl rfl (fun h136 o136 f136 s136 => ?_)
  have e191_136 := (o135.nw f136)
  refine s_put (vs' := [.int 0, .ref 192, .ref 193, .int 0, .ref 194, .ref 195, .ref 196, .ref 197, .ref 198, .ref 199, .ref 200, .ref 201, .ref 202, .ref 203, .ref 204, .ref 205, .int (-1), .int 0, .ref 206, .ref 207, .ref 208, .ref 209, .ref 210, .ref 211, .ref 212, .ref 213, .ref 214, .ref 215, .int 0, .int 0, .int 0, .int 0, .ref 216, .ref 217, .ref 218, .ref 219, .ref 220, .int (-1), .int 0, .int 0, .int 0, .int 0, .int 0, .int 0, .ref 221, .ref 222, .ref 223, .ref 224, .int 0, .ref 225, .int 0, .ref 226, .ref 227, .int 0, .null, .null, .null, .null, .null]) rfl e191_136 rfl rfl rfl rfl (fun h137 o137 f137 => ?_)
  have s137 := s136.put f137
  refine q_aload_n rfl rfl ?_
  refine q_bipush rfl ?_
  refine s_newa (k := 64) (n' := 229) (q' := 511367) (v0 := .int 0) rfl (by decide) rfl s137 rfl rfl rfl (fun h138 o138 f138 s138 => ?_)
  refine q_dup rfl rfl ?_
  refine q_iconst rfl ?_
  refine q_ldc rfl ?_
  refine s_iastore (j := 0) rfl o138 (by decide) rfl (fun h139 o139 f139 => ?_)
  have s139 := s138.put f139
  refine q_dup rfl rfl ?_
  refine q_iconst rfl ?_
  refine q_ldc rfl ?_
  refine s_iastore (j := 1) rfl o139 (by decide) rfl (fun h140 o140 f140 => ?_)
  have s140 := s139.put f140
  refine q_dup rfl rfl ?_
  refine q_iconst rfl ?_
  refine q_ldc rfl ?_
  refine s_iastore (j := 2) rfl o140 (by decide) rfl (fun h141 o141 f141 => ?_)
  have s141 := s140.put f141
  refine q_dup rfl rfl ?_
  refine q_iconst rfl ?_
  refine q_ldc rfl ?_
  refine s_iastore (j := 3) rfl o141 (by decide) rfl (fun h142 o142 f142 => ?_)
  have s142 := s141.put f142
  refine q_dup rfl rfl ?_
  refine q_iconst rfl ?_
  refine q_ldc rfl ?_
  refine s_iastore (j := 4) rfl o142 (by decide) rfl (fun h143 o143 f143 => ?_)
  have s143 := s142.put f143
  refine q_dup rfl rfl ?_
  refine q_iconst rfl ?_
  refine q_ldc rfl ?_
  refine s_iastore (j := 5) rfl o143 (by decide) rfl (fun h144 o144 f144 => ?_)
  have s144 := s143.put f144
  refine q_dup rfl rfl ?_
  refine q_bipush rfl ?_
  refine q_ldc rfl ?_
  refine s_iastore (j := 6) rfl o144 (by decide) rfl (fun h145 o145 f145 => ?_)
  have s145 := s144.put f145
  refine q_dup rfl rfl ?_
  refine q_bipush rfl ?_
  refine q_ldc rfl ?_
  refine s_iastore (j := 7) rfl o145 (by decide) rfl (fun h146 o146 f146 => ?_)
  have s146 := s145.put f146
  refine q_dup rfl rfl ?_
  refine q_bipush rfl ?_
  refine q_ldc rfl ?_
  refine s_iastore (j := 8) rfl o146 (by decide) rfl (fun h147 o147 f147 => ?_)
  have s147 := s146.put f147
  refine q_dup rfl rfl ?_
  refine q_bipush rfl ?_
  refine q_ldc rfl ?_
  refine s_iastore (j := 9) rfl o147 (by decide) rfl (fun h148 o148 f148 => ?_)
  have s148 := s147.put f148
  refine q_dup rfl rfl ?_
  refine q_bipush rfl ?_
  refine q_ldc rfl ?_
  refine s_iastore (j := 10) rfl o148 (by decide) rfl (fun h149 o149 f149 => ?_)
  have s149 := s148.put f149
  refine q_dup rfl rfl ?_
  refine q_bipush rfl ?_
  refine q_ldc rfl ?_
  refine s_iastore (j := 11) rfl o149 (by decide) rfl (fun h150 o150 f150 => ?_)
  have s150 := s149.put f150
  refine q_dup rfl rfl ?_
  refine q_bipush rfl ?_
  refine q_ldc rfl ?_
  refine s_iastore (j := 12) rfl o150 (by decide) rfl (fun h151 o151 f151 => ?_)
  have s151 := s150.put f151
  refine q_dup rfl rfl ?_
  refine q_bipush rfl ?_
  refine q_ldc rfl ?_
  refine s_iastore (j := 13) rfl o151 (by decide) rfl (fun h152 o152 f152 => ?_)
  have s152 := s151.put f152
  refine q_dup rfl rfl ?_
  refine q_bipush rfl ?_
  refine q_ldc rfl ?_
  refine s_iastore (j := 14) rfl o152 (by decide) rfl (fun h153 o153 f153 => ?_)
  have s153 := s152.put f153
  refine q_dup rfl rfl ?_
  refine q_bipush rfl ?_
  refine q_ldc rfl ?_
  refine s_iastore (j := 15) rfl o153 (by decide) rfl (fun h154 o154 f154 => ?_)
  have s154 := s153.put f154
  refine q_dup rfl rfl ?_
  refine q_bipush rfl ?_
  refine q_ldc rfl ?_
  refine s_iastore (j := 16) rfl o154 (by decide) rfl (fun h155 o155 f155 => ?_)
  have s155 := s154.put f155
  refine q_dup rfl rfl ?_
  refine q_bipush rfl ?_
  refine q_ldc rfl ?_
  refine s_iastore (j := 17) rfl o155 (by decide) rfl (fun h156 o156 f156 => ?_)
  have s156 := s155.put f156
  refine q_dup rfl rfl ?_
  refine q_bipush rfl ?_
  refine q_ldc rfl ?_
  refine s_iastore (j := 18) rfl o156 (by decide) rfl (fun h157 o157 f157 => ?_)
  have s157 := s156.put f157
  refine q_dup rfl rfl ?_
  refine q_bipush rfl ?_
  refine q_ldc rfl ?_
  refine s_iastore (j := 19) rfl o157 (by decide) rfl (fun h158 o158 f158 => ?_)
  have s158 := s157.put f158
  refine q_dup rfl rfl ?_
  refine q_bipush rfl ?_
  refine q_ldc rfl ?_
  refine s_iastore (j := 20) rfl o158 (by decide) rfl (fun h159 o159 f159 => ?_)
  have s159 := s158.put f159
  refine q_dup rfl rfl ?_
  refine q_bipush rfl ?_
  refine q_ldc rfl ?_
  refine s_iastore (j := 21) rfl o159 (by decide) rfl (fun h160 o160 f160 => ?_)
  have s160 := s159.put f160
  refine q_dup rfl rfl ?_
  refine q_bipush rfl ?_
  refine q_ldc rfl ?_
  refine s_iastore (j := 22) rfl o160 (by decide) rfl (fun h161 o161 f161 => ?_)
  have s161 := s160.put f161
  refine q_dup rfl rfl ?_
  refine q_bipush rfl ?_
  refine q_ldc rfl ?_
  refine s_iastore (j := 23) rfl o161 (by decide) rfl (fun h162 o162 f162 => ?_)
  have s162 := s161.put f162
  refine q_dup rfl rfl ?_
  refine q_bipush rfl ?_
  refine q_ldc rfl ?_
  refine s_iastore (j := 24) rfl o162 (by decide) rfl (fun h163 o163 f163 => ?_)
  have s163 := s162.put f163
  refine q_dup rfl rfl ?_
  refine q_bipush rfl ?_
  refine q_ldc rfl ?_
  refine s_iastore (j := 25) rfl o163 (by decide) rfl (fun h164 o164 f164 => ?_)
  have s164 := s163.put f164
  refine q_dup rfl rfl ?_
  refine q_bipush rfl ?_
  refine q_ldc rfl ?_
  refine s_iastore (j := 26) rfl o164 (by decide) rfl (fun h165 o165 f165 => ?_)
  have s165 := s164.put f165
  refine q_dup rfl rfl ?_
  refine q_bipush rfl ?_
  refine q_ldc rfl ?_
  refine s_iastore (j := 27) rfl o165 (by decide) rfl (fun h166 o166 f166 => ?_)
  have s166 := s165.put f166
  refine q_dup rfl rfl ?_
  refine q_bipush rfl ?_
  refine q_ldc rfl ?_
  refine s_iastore (j := 28) rfl o166 (by decide) rfl (fun h167 o167 f167 => ?_)
  have s167 := s166.put f167
  refine q_dup rfl rfl ?_
  refine q_bipush rfl ?_
  refine q_ldc rfl ?_
  refine s_iastore (j := 29) rfl o167 (by decide) rfl (fun h168 o168 f168 => ?_)
  have s168 := s167.put f168
  refine q_dup rfl rfl ?_
  refine q_bipush rfl ?_
  refine q_ldc rfl ?_
  refine s_iastore (j := 30) rfl o168 (by decide) rfl (fun h169 o169 f169 => ?_)
  have s169 := s168.put f169
  refine q_dup rfl rfl ?_
  refine q_bipush rfl ?_
  refine q_ldc rfl ?_
  refine s_iastore (j := 31) rfl o169 (by decide) rfl (fun h170 o170 f170 => ?_)
  have s170 := s169.put f170
  refine q_dup rfl rfl ?_
  refine q_bipush rfl ?_
  refine q_ldc rfl ?_
  refine s_iastore (j := 32) rfl o170 (by decide) rfl (fun h171 o171 f171 => ?_)
  have s171 := s170.put f171
  refine q_dup rfl rfl ?_
  refine q_bipush rfl ?_
  refine q_ldc rfl ?_
  refine s_iastore (j := 33) rfl o171 (by decide) rfl (fun h172 o172 f172 => ?_)
  have s172 := s171.put f172
  refine q_dup rfl rfl ?_
  refine q_bipush rfl ?_
  refine q_ldc rfl ?_
  refine s_iastore (j := 34) rfl o172 (by decide) rfl (fun h173 o173 f173 => ?_)
  have s173 := s172.put f173
  refine q_dup rfl rfl ?_
  refine q_bipush rfl ?_
  refine q_ldc rfl ?_
  refine s_iastore (j := 35) rfl o173 (by decide) rfl (fun h174 o174 f174 => ?_)
  have s174 := s173.put f174
  refine q_dup rfl rfl ?_
  refine q_bipush rfl ?_
  refine q_ldc rfl ?_
  refine s_iastore (j := 36) rfl o174 (by decide) rfl (fun h175 o175 f175 => ?_)
  have s175 := s174.put f175
  refine q_dup rfl rfl ?_
  refine q_bipush rfl ?_
  refine q_ldc rfl ?_
  refine s_iastore (j := 37) rfl o175 (by decide) rfl (fun h176 o176 f176 => ?_)
  have s176 := s175.put f176
  refine q_dup rfl rfl ?_
  refine q_bipush rfl ?_
  refine q_ldc rfl ?_
  refine s_iastore (j := 38) rfl o176 (by decide) rfl (fun h177 o177 f177 => ?_)
  have s177 := s176.put f177
  refine q_dup rfl rfl ?_
  refine q_bipush rfl ?_
  refine q_ldc rfl ?_
  refine s_iastore (j := 39) rfl o177 (by decide) rfl (fun h178 o178 f178 => ?_)
  have s178 := s177.put f178
  refine q_dup rfl rfl ?_
  refine q_bipush rfl ?_
  refine q_ldc rfl ?_
  refine s_iastore (j := 40) rfl o178 (by decide) rfl (fun h179 o179 f179 => ?_)
  have s179 := s178.put f179
  refine q_dup rfl rfl ?_
  refine q_bipush rfl ?_
  refine q_ldc rfl ?_
  refine s_iastore (j := 41) rfl o179 (by decide) rfl (fun h180 o180 f180 => ?_)
  have s180 := s179.put f180
  refine q_dup rfl rfl ?_
  refine q_bipush rfl ?_
  refine q_ldc rfl ?_
  refine s_iastore (j := 42) rfl o180 (by decide) rfl (fun h181 o181 f181 => ?_)
  have s181 := s180.put f181
  refine q_dup rfl rfl ?_
  refine q_bipush rfl ?_
  refine q_ldc rfl ?_
  refine s_iastore (j := 43) rfl o181 (by decide) rfl (fun h182 o182 f182 => ?_)
  have s182 := s181.put f182
  refine q_dup rfl rfl ?_
  refine q_bipush rfl ?_
  refine q_ldc rfl ?_
  refine s_iastore (j := 44) rfl o182 (by decide) rfl (fun h183 o183 f183 => ?_)
  have s183 := s182.put f183
  refine q_dup rfl rfl ?_
  refine q_bipush rfl ?_
  refine q_ldc rfl ?_
  refine s_iastore (j := 45) rfl o183 (by decide) rfl (fun h184 o184 f184 => ?_)
  have s184 := s183.put f184
  refine q_dup rfl rfl ?_
  refine q_bipush rfl ?_
  refine q_ldc rfl ?_
  refine s_iastore (j := 46) rfl o184 (by decide) rfl (fun h185 o185 f185 => ?_)
  have s185 := s184.put f185
  refine q_dup rfl rfl ?_
  refine q_bipush rfl ?_
  refine q_ldc rfl ?_
  refine s_iastore (j := 47) rfl o185 (by decide) rfl (fun h186 o186 f186 => ?_)
  have s186 := s185.put f186
  refine q_dup rfl rfl ?_
  refine q_bipush rfl ?_
  refine q_ldc rfl ?_
  refine s_iastore (j := 48) rfl o186 (by decide) rfl (fun h187 o187 f187 => ?_)
  have s187 := s186.put f187
  refine q_dup rfl rfl ?_
  refine q_bipush rfl ?_
  refine q_ldc rfl ?_
  refine s_iastore (j := 49) rfl o187 (by decide) rfl (fun h188 o188 f188 => ?_)
  have s188 := s187.put f188
  refine q_dup rfl rfl ?_
  refine q_bipush rfl ?_
  refine q_ldc rfl ?_
  refine s_iastore (j := 50) rfl o188 (by decide) rfl (fun h189 o189 f189 => ?_)
  have s189 := s188.put f189
  refine q_dup rfl rfl ?_
  refine q_bipush rfl ?_
  refine q_ldc rfl ?_
  refine s_iastore (j := 51) rfl o189 (by decide) rfl (fun h190 o190 f190 => ?_)
  have s190 := s189.put f190
  refine q_dup rfl rfl ?_
  refine q_bipush rfl ?_
  refine q_ldc rfl ?_
  refine s_iastore (j := 52) rfl o190 (by decide) rfl (fun h191 o191 f191 => ?_)
  have s191 := s190.put f191
  refine q_dup rfl rfl ?_
  refine q_bipush rfl ?_
  refine q_ldc rfl ?_
  refine s_iastore (j := 53) rfl o191 (by decide) rfl (fun h192 o192 f192 => ?_)
  have s192 := s191.put f192
  refine q_dup rfl rfl ?_
  refine q_bipush rfl ?_
  refine q_ldc rfl ?_
  refine s_iastore (j := 54) rfl o192 (by decide) rfl (fun h193 o193 f193 => ?_)
  have s193 := s192.put f193
  refine q_dup rfl rfl ?_
  refine q_bipush rfl ?_
  refine q_ldc rfl ?_
  refine s_iastore (j := 55) rfl o193 (by decide) rfl (fun h194 o194 f194 => ?_)
  have s194 := s193.put f194
  refine q_dup rfl rfl ?_
  refine q_bipush rfl ?_
  refine q_ldc rfl ?_
  refine s_iastore (j := 56) rfl o194 (by decide) rfl (fun h195 o195 f195 => ?_)
  have s195 := s194.put f195
  refine q_dup rfl rfl ?_
  refine q_bipush rfl ?_
  refine q_ldc rfl ?_
  refine s_iastore (j := 57) rfl o195 (by decide) rfl (fun h196 o196 f196 => ?_)
  have s196 := s195.put f196
  refine q_dup rfl rfl ?_
  refine q_bipush rfl ?_
  refine q_ldc rfl ?_
  refine s_iastore (j := 58) rfl o196 (by decide) rfl (fun h197 o197 f197 => ?_)
  have s197 := s196.put f197
  refine q_dup rfl rfl ?_
  refine q_bipush rfl ?_
  refine q_ldc rfl ?_
  refine s_iastore (j := 59) rfl o197 (by decide) rfl (fun h198 o198 f198 => ?_)
  have s198 := s197.put f198
  refine q_dup rfl rfl ?_
  refine q_bipush rfl ?_
  refine q_ldc rfl ?_
  refine s_iastore (j := 60) rfl o198 (by decide) rfl (fun h199 o199 f199 => ?_)
  have s199 := s198.put f199
  refine q_dup rfl rfl ?_
  refine q_bipush rfl ?_
  refine q_ldc rfl ?_
  refine s_iastore (j := 61) rfl o199 (by decide) rfl (fun h200 o200 f200 => ?_)
  have s200 := s199.put f200
  refine q_dup rfl rfl ?_
  refine q_bipush rfl ?_
  refine q_ldc rfl ?_
  refine s_iastore (j := 62) rfl o200 (by decide) rfl (fun h201 o201 f201 => ?_)
  have s201 := s200.put f201
  refine q_dup rfl rfl ?_
  refine q_bipush rfl ?_
  refine q_ldc rfl ?_
  refine s_iastore (j := 63) rfl o201 (by decide) rfl (fun h202 o202 f202 => ?_)
  have s202 := s201.put f202
  have e191_202 := (((((((((((((((((((((((((((((((((((((((((((((((((((((((((((((((((o137.nw f138).ne f139 rfl).ne f140 rfl).ne f141 rfl).ne f142 rfl).ne f143 rfl).ne f144 rfl).ne f145 rfl).ne f146 rfl).ne f147 rfl).ne f148 rfl).ne f149 rfl).ne f150 rfl).ne f151 rfl).ne f152 rfl).ne f153 rfl).ne f154 rfl).ne f155 rfl).ne f156 rfl).ne f157 rfl).ne f158 rfl).ne f159 rfl).ne f160 rfl).ne f161 rfl).ne f162 rfl).ne f163 rfl).ne f164 rfl).ne f165 rfl).ne f166 rfl).ne f167 rfl).ne f168 rfl).ne f169 rfl).ne f170 rfl).ne f171 rfl).ne f172 rfl).ne f173 rfl).ne f174 rfl).ne f175 rfl).ne f176 rfl).ne f177 rfl).ne f178 rfl).ne f179 rfl).ne f180 rfl).ne f181 rfl).ne f182 rfl).ne f183 rfl).ne f184 rfl).ne f185 rfl).ne f186 rfl).ne f187 rfl).ne f188 rfl).ne f189 rfl).ne f190 rfl).ne f191 rfl).ne f192 rfl).ne f193 rfl).ne f194 rfl).ne f195 rfl).ne f196 rfl).ne f197 rfl).ne f198 rfl).ne f199 rfl).ne f200 rfl).ne f201 rfl).ne f202 rfl)
  refine s_put (vs' := [.int 0, .ref 192, .ref 193, .int 0, .ref 194, .ref 195, .ref 196, .ref 197, .ref 198, .ref 199, .ref 200, .ref 201, .ref 202, .ref 203, .ref 204, .ref 205, .int (-1), .int 0, .ref 206, .ref 207, .ref 208, .ref 209, .ref 210, .ref 211, .ref 212, .ref 213, .ref 214, .ref 215, .int 0, .int 0, .int 0, .int 0, .ref 216, .ref 217, .ref 218, .ref 219, .ref 220, .int (-1), .int 0, .int 0, .int 0, .int 0, .int 0, .int 0, .ref 221, .ref 222, .ref 223, .ref 224, .int 0, .ref 225, .int 0, .ref 226, .ref 227, .int 0, .ref 228, .null, .null, .null, .null]) rfl e191_202 rfl rfl rfl rfl (fun h203 o203 f203 => ?_)
  have s203 := s202.put f203
  refine q_aload_n rfl rfl ?_
  refine q_bipush rfl ?_
  refine s_newa (k := 8) (n' := 230) (q' := 511375) (v0 := .int 0) rfl (by decide) rfl s203 rfl rfl rfl (fun h204 o204 f204 s204 => ?_)
  refine q_dup rfl rfl ?_
  refine q_iconst rfl ?_
  refine q_ldc rfl ?_
  refine s_iastore (j := 0) rfl o204 (by decide) rfl (fun h205 o205 f205 => ?_)
  have s205 := s204.put f205
  refine q_dup rfl rfl ?_
  refine q_iconst rfl ?_
  refine q_ldc rfl ?_
  refine s_iastore (j := 1) rfl o205 (by decide) rfl (fun h206 o206 f206 => ?_)
  have s206 := s205.put f206
  refine q_dup rfl rfl ?_
  refine q_iconst rfl ?_
  refine q_ldc rfl ?_
  refine s_iastore (j := 2) rfl o206 (by decide) rfl (fun h207 o207 f207 => ?_)
  have s207 := s206.put f207
  refine q_dup rfl rfl ?_
  refine q_iconst rfl ?_
  refine q_ldc rfl ?_
  refine s_iastore (j := 3) rfl o207 (by decide) rfl (fun h208 o208 f208 => ?_)
  have s208 := s207.put f208
  refine q_dup rfl rfl ?_
  refine q_iconst rfl ?_
  refine q_ldc rfl ?_
  refine s_iastore (j := 4) rfl o208 (by decide) rfl (fun h209 o209 f209 => ?_)
  have s209 := s208.put f209
  refine q_dup rfl rfl ?_
  refine q_iconst rfl ?_
  refine q_ldc rfl ?_
  refine s_iastore (j := 5) rfl o209 (by decide) rfl (fun h210 o210 f210 => ?_)
  have s210 := s209.put f210
  refine q_dup rfl rfl ?_
  refine q_bipush rfl ?_
  refine q_ldc rfl ?_
  refine s_iastore (j := 6) rfl o210 (by decide) rfl (fun h211 o211 f211 => ?_)
  have s211 := s210.put f211
  refine q_dup rfl rfl ?_
  refine q_bipush rfl ?_
  refine q_ldc rfl ?_
  refine s_iastore (j := 7) rfl o211 (by decide) rfl (fun h212 o212 f212 => ?_)
  have s212 := s211.put f212
  have e191_212 := (((((((((o203.nw f204).ne f205 rfl).ne f206 rfl).ne f207 rfl).ne f208 rfl).ne f209 rfl).ne f210 rfl).ne f211 rfl).ne f212 rfl)
  refine s_put (vs' := [.int 0, .ref 192, .ref 193, .int 0, .ref 194, .ref 195, .ref 196, .ref 197, .ref 198, .ref 199, .ref 200, .ref 201, .ref 202, .ref 203, .ref 204, .ref 205, .int (-1), .int 0, .ref 206, .ref 207, .ref 208, .ref 209, .ref 210, .ref 211, .ref 212, .ref 213, .ref 214, .ref 215, .int 0, .int 0, .int 0, .int 0, .ref 216, .ref 217, .ref 218, .ref 219, .ref 220, .int (-1), .int 0, .int 0, .int 0, .int 0, .int 0, .int 0, .ref 221, .ref 222, .ref 223, .ref 224, .int 0, .ref 225, .int 0, .ref 226, .ref 227, .int 0, .ref 228, .ref 229, .null, .null, .null]) rfl e191_212 rfl rfl rfl rfl (fun h213 o213 f213 => ?_)
  have s213 := s212.put f213
  refine q_aload_n rfl rfl ?_
  refine q_bipush rfl ?_
  refine s_newa (k := 8) (n' := 231) (q' := 511383) (v0 := .int 0) rfl (by decide) rfl s213 rfl rfl rfl (fun h214 o214 f214 s214 => ?_)
  have e191_214 := (o213.nw f214)
  refine s_put (vs' := [.int 0, .ref 192, .ref 193, .int 0, .ref 194, .ref 195, .ref 196, .ref 197, .ref 198, .ref 199, .ref 200, .ref 201, .ref 202, .ref 203, .ref 204, .ref 205, .int (-1), .int 0, .ref 206, .ref 207, .ref 208, .ref 209, .ref 210, .ref 211, .ref 212, .ref 213, .ref 214, .ref 215, .int 0, .int 0, .int 0, .int 0, .ref 216, .ref 217, .ref 218, .ref 219, .ref 220, .int (-1), .int 0, .int 0, .int 0, .int 0, .int 0, .int 0, .ref 221, .ref 222, .ref 223, .ref 224, .int 0, .ref 225, .int 0, .ref 226, .ref 227, .int 0, .ref 228, .ref 229, .ref 230, .null, .null]) rfl e191_214 rfl rfl rfl rfl (fun h215 o215 f215 => ?_)
  have s215 := s214.put f215
  refine q_aload_n rfl rfl ?_
  refine q_bipush rfl ?_
  refine s_newa (k := 8) (n' := 232) (q' := 511391) (v0 := .int 0) rfl (by decide) rfl s215 rfl rfl rfl (fun h216 o216 f216 s216 => ?_)
  have e191_216 := (o215.nw f216)
  refine s_put (vs' := [.int 0, .ref 192, .ref 193, .int 0, .ref 194, .ref 195, .ref 196, .ref 197, .ref 198, .ref 199, .ref 200, .ref 201, .ref 202, .ref 203, .ref 204, .ref 205, .int (-1), .int 0, .ref 206, .ref 207, .ref 208, .ref 209, .ref 210, .ref 211, .ref 212, .ref 213, .ref 214, .ref 215, .int 0, .int 0, .int 0, .int 0, .ref 216, .ref 217, .ref 218, .ref 219, .ref 220, .int (-1), .int 0, .int 0, .int 0, .int 0, .int 0, .int 0, .ref 221, .ref 222, .ref 223, .ref 224, .int 0, .ref 225, .int 0, .ref 226, .ref 227, .int 0, .ref 228, .ref 229, .ref 230, .ref 231, .null]) rfl e191_216 rfl rfl rfl rfl (fun h217 o217 f217 => ?_)
  have s217 := s216.put f217
  refine q_aload_n rfl rfl ?_
  refine q_bipush rfl ?_
  refine s_newa (k := 64) (n' := 233) (q' := 511455) (v0 := .int 0) rfl (by decide) rfl s217 rfl rfl rfl (fun h218 o218 f218 s218 => ?_)
  have e191_218 := (o217.nw f218)
  refine s_put (vs' := [.int 0, .ref 192, .ref 193, .int 0, .ref 194, .ref 195, .ref 196, .ref 197, .ref 198, .ref 199, .ref 200, .ref 201, .ref 202, .ref 203, .ref 204, .ref 205, .int (-1), .int 0, .ref 206, .ref 207, .ref 208, .ref 209, .ref 210, .ref 211, .ref 212, .ref 213, .ref 214, .ref 215, .int 0, .int 0, .int 0, .int 0, .ref 216, .ref 217, .ref 218, .ref 219, .ref 220, .int (-1), .int 0, .int 0, .int 0, .int 0, .int 0, .int 0, .ref 221, .ref 222, .ref 223, .ref 224, .int 0, .ref 225, .int 0, .ref 226, .ref 227, .int 0, .ref 228, .ref 229, .ref 230, .ref 231, .ref 232]) rfl e191_218 rfl rfl rfl rfl (fun h219 o219 f219 => ?_)
  have s219 := s218.put f219
  refine q_return rfl rfl ?_
  show aW aiP 0 17 658 15 [(1, .ref 6), (0, .ref 0)] [.ref 191] h219 _
  refine s_astore_n (lv' := [(2, .ref 191), (1, .ref 6), (0, .ref 0)]) rfl (by decide) rfl ?_
  refine q_iconst rfl ?_
  refine s_newa (k := 1) (n' := 234) (q' := 511456) (v0 := .long 0) rfl (by decide) rfl s219 rfl rfl rfl (fun h220 o220 f220 s220 => ?_)
  refine s_astore_n (lv' := [(3, .ref 233), (2, .ref 191), (1, .ref 6), (0, .ref 0)]) rfl (by decide) rfl ?_
  refine q_iconst rfl ?_
  refine s_istore (lv' := [(4, .int 0), (3, .ref 233), (2, .ref 191), (1, .ref 6), (0, .ref 0)]) rfl (by decide) rfl ?_
  have e0_220 := (f220.nw (f219.ne rfl (f218.nw (f217.ne rfl (f216.nw (f215.ne rfl (f214.nw (f213.ne rfl (f212.ne rfl (f211.ne rfl (f210.ne rfl (f209.ne rfl (f208.ne rfl (f207.ne rfl (f206.ne rfl (f205.ne rfl (f204.nw (f203.ne rfl (f202.ne rfl (f201.ne rfl (f200.ne rfl (f199.ne rfl (f198.ne rfl (f197.ne rfl (f196.ne rfl (f195.ne rfl (f194.ne rfl (f193.ne rfl (f192.ne rfl (f191.ne rfl (f190.ne rfl (f189.ne rfl (f188.ne rfl (f187.ne rfl (f186.ne rfl (f185.ne rfl (f184.ne rfl (f183.ne rfl (f182.ne rfl (f181.ne rfl (f180.ne rfl (f179.ne rfl (f178.ne rfl (f177.ne rfl (f176.ne rfl (f175.ne rfl (f174.ne rfl (f173.ne rfl (f172.ne rfl (f171.ne rfl (f170.ne rfl (f169.ne rfl (f168.ne rfl (f167.ne rfl (f166.ne rfl (f165.ne rfl (f164.ne rfl (f163.ne rfl (f162.ne rfl (f161.ne rfl (f160.ne rfl (f159.ne rfl (f158.ne rfl (f157.ne rfl (f156.ne rfl (f155.ne rfl (f154.ne rfl (f153.ne rfl (f152.ne rfl (f151.ne rfl (f150.ne rfl (f149.ne rfl (f148.ne rfl (f147.ne rfl (f146.ne rfl (f145.ne rfl (f144.ne rfl (f143.ne rfl (f142.ne rfl (f141.ne rfl (f140.ne rfl (f139.ne rfl (f138.nw (f137.ne rfl (f136.nw (f135.ne rfl (f134.nw (f133.ne rfl (f132.nw (f131.ne rfl (f130.nw (f129.ne rfl (f128.nw (f127.ne rfl (f126.nw (f125.ne rfl (f124.nw (f123.ne rfl (f122.ne rfl (f121.nw (f120.ne rfl (f119.nw (f118.ne rfl (f117.nw (f116.ne rfl (f115.nw (f114.ne rfl (f113.nw (f112.ne rfl (f111.nw (f110.ne rfl (f109.nw (f108.ne rfl (f107.nw (f106.ne rfl (f105.nw (f104.ne rfl (f103.nw (f102.ne rfl (f101.nw (f100.ne rfl (f99.nw (f98.ne rfl (f97.nw (f96.ne rfl (f95.nw (f94.ne rfl (f93.nw (f92.ne rfl (f91.ne rfl (f90.nw (f89.ne rfl (f88.nw (f87.ne rfl (f86.nw (f85.ne rfl (f84.nw (f83.ne rfl (f82.nw (f81.ne rfl (f80.nw (f79.ne rfl (f78.nw (f77.ne rfl (f76.nw (f75.ne rfl (f74.nw (f73.ne rfl (f72.nw (f71.ne rfl (f70.nw (f69.ne rfl (f68.nw (f67.ne rfl (f66.nw (f65.ne rfl (f64.nw (f63.nw (f62.ne rfl (f61.ne rfl (f60.ne rfl (f59.nw (f58.nw (f57.ne rfl (f56.ne rfl (f55.ne rfl (f54.nw (f53.ne rfl (f52.nw (f51.ne rfl (f50.nw (f49.ne rfl (f48.ne rfl (f47.nw (f46.ne rfl (f45.nw (f44.nw (f43.ne rfl (f42.ne rfl (f41.ne rfl (f40.ne rfl (f39.ne rfl (f38.ne rfl (f37.ne rfl (f36.ne rfl (f35.ne rfl (f34.ne rfl (f33.nw (f32.ne rfl (f31.ne rfl (f30.ne rfl (f29.nw (f28.nw (f27.ne rfl (f26.ne rfl (f25.nw (f24.ne rfl (f23.ne rfl (f22.ne rfl (f21.nw (f20.nw (f19.ne rfl (f18.ne rfl (f17.nw (f16.ne rfl (f15.ne rfl (f14.nw (f13.ne rfl (f12.ne rfl (f11.nw (f10.ne rfl (f9.ne rfl (f8.ne rfl (f7.nw (f6.ne rfl (f5.ne rfl (f4.nw (f3.ne rfl (f2.nw (f1.nw e0))))))))))))))))))))))))))))))))))))))))))))))))))))))))))))))))))))))))))))))))))))))))))))))))))))))))))))))))))))))))))))))))))))))))))))))))))))))))))))))))))))))))))))))))))))))))))))))))))))))))))))))))))))))))))))
  have e1_220 := (f220.nw (f219.ne rfl (f218.nw (f217.ne rfl (f216.nw (f215.ne rfl (f214.nw (f213.ne rfl (f212.ne rfl (f211.ne rfl (f210.ne rfl (f209.ne rfl (f208.ne rfl (f207.ne rfl (f206.ne rfl (f205.ne rfl (f204.nw (f203.ne rfl (f202.ne rfl (f201.ne rfl (f200.ne rfl (f199.ne rfl (f198.ne rfl (f197.ne rfl (f196.ne rfl (f195.ne rfl (f194.ne rfl (f193.ne rfl (f192.ne rfl (f191.ne rfl (f190.ne rfl (f189.ne rfl (f188.ne rfl (f187.ne rfl (f186.ne rfl (f185.ne rfl (f184.ne rfl (f183.ne rfl (f182.ne rfl (f181.ne rfl (f180.ne rfl (f179.ne rfl (f178.ne rfl (f177.ne rfl (f176.ne rfl (f175.ne rfl (f174.ne rfl (f173.ne rfl (f172.ne rfl (f171.ne rfl (f170.ne rfl (f169.ne rfl (f168.ne rfl (f167.ne rfl (f166.ne rfl (f165.ne rfl (f164.ne rfl (f163.ne rfl (f162.ne rfl (f161.ne rfl (f160.ne rfl (f159.ne rfl (f158.ne rfl (f157.ne rfl (f156.ne rfl (f155.ne rfl (f154.ne rfl (f153.ne rfl (f152.ne rfl (f151.ne rfl (f150.ne rfl (f149.ne rfl (f148.ne rfl (f147.ne rfl (f146.ne rfl (f145.ne rfl (f144.ne rfl (f143.ne rfl (f142.ne rfl (f141.ne rfl (f140.ne rfl (f139.ne rfl (f138.nw (f137.ne rfl (f136.nw (f135.ne rfl (f134.nw (f133.ne rfl (f132.nw (f131.ne rfl (f130.nw (f129.ne rfl (f128.nw (f127.ne rfl (f126.nw (f125.ne rfl (f124.nw (f123.ne rfl (f122.ne rfl (f121.nw (f120.ne rfl (f119.nw (f118.ne rfl (f117.nw (f116.ne rfl (f115.nw (f114.ne rfl (f113.nw (f112.ne rfl (f111.nw (f110.ne rfl (f109.nw (f108.ne rfl (f107.nw (f106.ne rfl (f105.nw (f104.ne rfl (f103.nw (f102.ne rfl (f101.nw (f100.ne rfl (f99.nw (f98.ne rfl (f97.nw (f96.ne rfl (f95.nw (f94.ne rfl (f93.nw (f92.ne rfl (f91.ne rfl (f90.nw (f89.ne rfl (f88.nw (f87.ne rfl (f86.nw (f85.ne rfl (f84.nw (f83.ne rfl (f82.nw (f81.ne rfl (f80.nw (f79.ne rfl (f78.nw (f77.ne rfl (f76.nw (f75.ne rfl (f74.nw (f73.ne rfl (f72.nw (f71.ne rfl (f70.nw (f69.ne rfl (f68.nw (f67.ne rfl (f66.nw (f65.ne rfl (f64.nw (f63.nw (f62.ne rfl (f61.ne rfl (f60.ne rfl (f59.nw (f58.nw (f57.ne rfl (f56.ne rfl (f55.ne rfl (f54.nw (f53.ne rfl (f52.nw (f51.ne rfl (f50.nw (f49.ne rfl (f48.ne rfl (f47.nw (f46.ne rfl (f45.nw (f44.nw (f43.ne rfl (f42.ne rfl (f41.ne rfl (f40.ne rfl (f39.ne rfl (f38.ne rfl (f37.ne rfl (f36.ne rfl (f35.ne rfl (f34.ne rfl (f33.nw (f32.ne rfl (f31.ne rfl (f30.ne rfl (f29.nw (f28.nw (f27.ne rfl (f26.ne rfl (f25.nw (f24.ne rfl (f23.ne rfl (f22.ne rfl (f21.nw (f20.nw (f19.ne rfl (f18.ne rfl (f17.nw (f16.ne rfl (f15.ne rfl (f14.nw (f13.ne rfl (f12.ne rfl (f11.nw (f10.ne rfl (f9.ne rfl (f8.ne rfl (f7.nw (f6.ne rfl (f5.ne rfl (f4.nw (f3.ne rfl (f2.nw (f1.nw e1))))))))))))))))))))))))))))))))))))))))))))))))))))))))))))))))))))))))))))))))))))))))))))))))))))))))))))))))))))))))))))))))))))))))))))))))))))))))))))))))))))))))))))))))))))))))))))))))))))))))))))))))))))))))))))
  have e2_220 := (f220.nw (f219.ne rfl (f218.nw (f217.ne rfl (f216.nw (f215.ne rfl (f214.nw (f213.ne rfl (f212.ne rfl (f211.ne rfl (f210.ne rfl (f209.ne rfl (f208.ne rfl (f207.ne rfl (f206.ne rfl (f205.ne rfl (f204.nw (f203.ne rfl (f202.ne rfl (f201.ne rfl (f200.ne rfl (f199.ne rfl (f198.ne rfl (f197.ne rfl (f196.ne rfl (f195.ne rfl (f194.ne rfl (f193.ne rfl (f192.ne rfl (f191.ne rfl (f190.ne rfl (f189.ne rfl (f188.ne rfl (f187.ne rfl (f186.ne rfl (f185.ne rfl (f184.ne rfl (f183.ne rfl (f182.ne rfl (f181.ne rfl (f180.ne rfl (f179.ne rfl (f178.ne rfl (f177.ne rfl (f176.ne rfl (f175.ne rfl (f174.ne rfl (f173.ne rfl (f172.ne rfl (f171.ne rfl (f170.ne rfl (f169.ne rfl (f168.ne rfl (f167.ne rfl (f166.ne rfl (f165.ne rfl (f164.ne rfl (f163.ne rfl (f162.ne rfl (f161.ne rfl (f160.ne rfl (f159.ne rfl (f158.ne rfl (f157.ne rfl (f156.ne rfl (f155.ne rfl (f154.ne rfl (f153.ne rfl (f152.ne rfl (f151.ne rfl (f150.ne rfl (f149.ne rfl (f148.ne rfl (f147.ne rfl (f146.ne rfl (f145.ne rfl (f144.ne rfl (f143.ne rfl (f142.ne rfl (f141.ne rfl (f140.ne rfl (f139.ne rfl (f138.nw (f137.ne rfl (f136.nw (f135.ne rfl (f134.nw (f133.ne rfl (f132.nw (f131.ne rfl (f130.nw (f129.ne rfl (f128.nw (f127.ne rfl (f126.nw (f125.ne rfl (f124.nw (f123.ne rfl (f122.ne rfl (f121.nw (f120.ne rfl (f119.nw (f118.ne rfl (f117.nw (f116.ne rfl (f115.nw (f114.ne rfl (f113.nw (f112.ne rfl (f111.nw (f110.ne rfl (f109.nw (f108.ne rfl (f107.nw (f106.ne rfl (f105.nw (f104.ne rfl (f103.nw (f102.ne rfl (f101.nw (f100.ne rfl (f99.nw (f98.ne rfl (f97.nw (f96.ne rfl (f95.nw (f94.ne rfl (f93.nw (f92.ne rfl (f91.ne rfl (f90.nw (f89.ne rfl (f88.nw (f87.ne rfl (f86.nw (f85.ne rfl (f84.nw (f83.ne rfl (f82.nw (f81.ne rfl (f80.nw (f79.ne rfl (f78.nw (f77.ne rfl (f76.nw (f75.ne rfl (f74.nw (f73.ne rfl (f72.nw (f71.ne rfl (f70.nw (f69.ne rfl (f68.nw (f67.ne rfl (f66.nw (f65.ne rfl (f64.nw (f63.nw (f62.ne rfl (f61.ne rfl (f60.ne rfl (f59.nw (f58.nw (f57.ne rfl (f56.ne rfl (f55.ne rfl (f54.nw (f53.ne rfl (f52.nw (f51.ne rfl (f50.nw (f49.ne rfl (f48.ne rfl (f47.nw (f46.ne rfl (f45.nw (f44.nw (f43.ne rfl (f42.ne rfl (f41.ne rfl (f40.ne rfl (f39.ne rfl (f38.ne rfl (f37.ne rfl (f36.ne rfl (f35.ne rfl (f34.ne rfl (f33.nw (f32.ne rfl (f31.ne rfl (f30.ne rfl (f29.nw (f28.nw (f27.ne rfl (f26.ne rfl (f25.nw (f24.ne rfl (f23.ne rfl (f22.ne rfl (f21.nw (f20.nw (f19.ne rfl (f18.ne rfl (f17.nw (f16.ne rfl (f15.ne rfl (f14.nw (f13.ne rfl (f12.ne rfl (f11.nw (f10.ne rfl (f9.ne rfl (f8.ne rfl (f7.nw (f6.ne rfl (f5.ne rfl (f4.nw (f3.ne rfl (f2.nw (f1.nw e2))))))))))))))))))))))))))))))))))))))))))))))))))))))))))))))))))))))))))))))))))))))))))))))))))))))))))))))))))))))))))))))))))))))))))))))))))))))))))))))))))))))))))))))))))))))))))))))))))))))))))))))))))))))))))))
  have e3_220 := (f220.nw (f219.ne rfl (f218.nw (f217.ne rfl (f216.nw (f215.ne rfl (f214.nw (f213.ne rfl (f212.ne rfl (f211.ne rfl (f210.ne rfl (f209.ne rfl (f208.ne rfl (f207.ne rfl (f206.ne rfl (f205.ne rfl (f204.nw (f203.ne rfl (f202.ne rfl (f201.ne rfl (f200.ne rfl (f199.ne rfl (f198.ne rfl (f197.ne rfl (f196.ne rfl (f195.ne rfl (f194.ne rfl (f193.ne rfl (f192.ne rfl (f191.ne rfl (f190.ne rfl (f189.ne rfl (f188.ne rfl (f187.ne rfl (f186.ne rfl (f185.ne rfl (f184.ne rfl (f183.ne rfl (f182.ne rfl (f181.ne rfl (f180.ne rfl (f179.ne rfl (f178.ne rfl (f177.ne rfl (f176.ne rfl (f175.ne rfl (f174.ne rfl (f173.ne rfl (f172.ne rfl (f171.ne rfl (f170.ne rfl (f169.ne rfl (f168.ne rfl (f167.ne rfl (f166.ne rfl (f165.ne rfl (f164.ne rfl (f163.ne rfl (f162.ne rfl (f161.ne rfl (f160.ne rfl (f159.ne rfl (f158.ne rfl (f157.ne rfl (f156.ne rfl (f155.ne rfl (f154.ne rfl (f153.ne rfl (f152.ne rfl (f151.ne rfl (f150.ne rfl (f149.ne rfl (f148.ne rfl (f147.ne rfl (f146.ne rfl (f145.ne rfl (f144.ne rfl (f143.ne rfl (f142.ne rfl (f141.ne rfl (f140.ne rfl (f139.ne rfl (f138.nw (f137.ne rfl (f136.nw (f135.ne rfl (f134.nw (f133.ne rfl (f132.nw (f131.ne rfl (f130.nw (f129.ne rfl (f128.nw (f127.ne rfl (f126.nw (f125.ne rfl (f124.nw (f123.ne rfl (f122.ne rfl (f121.nw (f120.ne rfl (f119.nw (f118.ne rfl (f117.nw (f116.ne rfl (f115.nw (f114.ne rfl (f113.nw (f112.ne rfl (f111.nw (f110.ne rfl (f109.nw (f108.ne rfl (f107.nw (f106.ne rfl (f105.nw (f104.ne rfl (f103.nw (f102.ne rfl (f101.nw (f100.ne rfl (f99.nw (f98.ne rfl (f97.nw (f96.ne rfl (f95.nw (f94.ne rfl (f93.nw (f92.ne rfl (f91.ne rfl (f90.nw (f89.ne rfl (f88.nw (f87.ne rfl (f86.nw (f85.ne rfl (f84.nw (f83.ne rfl (f82.nw (f81.ne rfl (f80.nw (f79.ne rfl (f78.nw (f77.ne rfl (f76.nw (f75.ne rfl (f74.nw (f73.ne rfl (f72.nw (f71.ne rfl (f70.nw (f69.ne rfl (f68.nw (f67.ne rfl (f66.nw (f65.ne rfl (f64.nw (f63.nw (f62.ne rfl (f61.ne rfl (f60.ne rfl (f59.nw (f58.nw (f57.ne rfl (f56.ne rfl (f55.ne rfl (f54.nw (f53.ne rfl (f52.nw (f51.ne rfl (f50.nw (f49.ne rfl (f48.ne rfl (f47.nw (f46.ne rfl (f45.nw (f44.nw (f43.ne rfl (f42.ne rfl (f41.ne rfl (f40.ne rfl (f39.ne rfl (f38.ne rfl (f37.ne rfl (f36.ne rfl (f35.ne rfl (f34.ne rfl (f33.nw (f32.ne rfl (f31.ne rfl (f30.ne rfl (f29.nw (f28.nw (f27.ne rfl (f26.ne rfl (f25.nw (f24.ne rfl (f23.ne rfl (f22.ne rfl (f21.nw (f20.nw (f19.ne rfl (f18.ne rfl (f17.nw (f16.ne rfl (f15.ne rfl (f14.nw (f13.ne rfl (f12.ne rfl (f11.nw (f10.ne rfl (f9.ne rfl (f8.ne rfl (f7.nw (f6.ne rfl (f5.ne rfl (f4.nw (f3.ne rfl (f2.nw (f1.nw e3))))))))))))))))))))))))))))))))))))))))))))))))))))))))))))))))))))))))))))))))))))))))))))))))))))))))))))))))))))))))))))))))))))))))))))))))))))))))))))))))))))))))))))))))))))))))))))))))))))))))))))))))))))))))))))
  have e4_220 := (f220.nw (f219.ne rfl (f218.nw (f217.ne rfl (f216.nw (f215.ne rfl (f214.nw (f213.ne rfl (f212.ne rfl (f211.ne rfl (f210.ne rfl (f209.ne rfl (f208.ne rfl (f207.ne rfl (f206.ne rfl (f205.ne rfl (f204.nw (f203.ne rfl (f202.ne rfl (f201.ne rfl (f200.ne rfl (f199.ne rfl (f198.ne rfl (f197.ne rfl (f196.ne rfl (f195.ne rfl (f194.ne rfl (f193.ne rfl (f192.ne rfl (f191.ne rfl (f190.ne rfl (f189.ne rfl (f188.ne rfl (f187.ne rfl (f186.ne rfl (f185.ne rfl (f184.ne rfl (f183.ne rfl (f182.ne rfl (f181.ne rfl (f180.ne rfl (f179.ne rfl (f178.ne rfl (f177.ne rfl (f176.ne rfl (f175.ne rfl (f174.ne rfl (f173.ne rfl (f172.ne rfl (f171.ne rfl (f170.ne rfl (f169.ne rfl (f168.ne rfl (f167.ne rfl (f166.ne rfl (f165.ne rfl (f164.ne rfl (f163.ne rfl (f162.ne rfl (f161.ne rfl (f160.ne rfl (f159.ne rfl (f158.ne rfl (f157.ne rfl (f156.ne rfl (f155.ne rfl (f154.ne rfl (f153.ne rfl (f152.ne rfl (f151.ne rfl (f150.ne rfl (f149.ne rfl (f148.ne rfl (f147.ne rfl (f146.ne rfl (f145.ne rfl (f144.ne rfl (f143.ne rfl (f142.ne rfl (f141.ne rfl (f140.ne rfl (f139.ne rfl (f138.nw (f137.ne rfl (f136.nw (f135.ne rfl (f134.nw (f133.ne rfl (f132.nw (f131.ne rfl (f130.nw (f129.ne rfl (f128.nw (f127.ne rfl (f126.nw (f125.ne rfl (f124.nw (f123.ne rfl (f122.ne rfl (f121.nw (f120.ne rfl (f119.nw (f118.ne rfl (f117.nw (f116.ne rfl (f115.nw (f114.ne rfl (f113.nw (f112.ne rfl (f111.nw (f110.ne rfl (f109.nw (f108.ne rfl (f107.nw (f106.ne rfl (f105.nw (f104.ne rfl (f103.nw (f102.ne rfl (f101.nw (f100.ne rfl (f99.nw (f98.ne rfl (f97.nw (f96.ne rfl (f95.nw (f94.ne rfl (f93.nw (f92.ne rfl (f91.ne rfl (f90.nw (f89.ne rfl (f88.nw (f87.ne rfl (f86.nw (f85.ne rfl (f84.nw (f83.ne rfl (f82.nw (f81.ne rfl (f80.nw (f79.ne rfl (f78.nw (f77.ne rfl (f76.nw (f75.ne rfl (f74.nw (f73.ne rfl (f72.nw (f71.ne rfl (f70.nw (f69.ne rfl (f68.nw (f67.ne rfl (f66.nw (f65.ne rfl (f64.nw (f63.nw (f62.ne rfl (f61.ne rfl (f60.ne rfl (f59.nw (f58.nw (f57.ne rfl (f56.ne rfl (f55.ne rfl (f54.nw (f53.ne rfl (f52.nw (f51.ne rfl (f50.nw (f49.ne rfl (f48.ne rfl (f47.nw (f46.ne rfl (f45.nw (f44.nw (f43.ne rfl (f42.ne rfl (f41.ne rfl (f40.ne rfl (f39.ne rfl (f38.ne rfl (f37.ne rfl (f36.ne rfl (f35.ne rfl (f34.ne rfl (f33.nw (f32.ne rfl (f31.ne rfl (f30.ne rfl (f29.nw (f28.nw (f27.ne rfl (f26.ne rfl (f25.nw (f24.ne rfl (f23.ne rfl (f22.ne rfl (f21.nw (f20.nw (f19.ne rfl (f18.ne rfl (f17.nw (f16.ne rfl (f15.ne rfl (f14.nw (f13.ne rfl (f12.ne rfl (f11.nw (f10.ne rfl (f9.ne rfl (f8.ne rfl (f7.nw (f6.ne rfl (f5.ne rfl (f4.nw (f3.ne rfl (f2.nw (f1.nw e4))))))))))))))))))))))))))))))))))))))))))))))))))))))))))))))))))))))))))))))))))))))))))))))))))))))))))))))))))))))))))))))))))))))))))))))))))))))))))))))))))))))))))))))))))))))))))))))))))))))))))))))))))))))))))))
  have e5_220 := (f220.nw (f219.ne rfl (f218.nw (f217.ne rfl (f216.nw (f215.ne rfl (f214.nw (f213.ne rfl (f212.ne rfl (f211.ne rfl (f210.ne rfl (f209.ne rfl (f208.ne rfl (f207.ne rfl (f206.ne rfl (f205.ne rfl (f204.nw (f203.ne rfl (f202.ne rfl (f201.ne rfl (f200.ne rfl (f199.ne rfl (f198.ne rfl (f197.ne rfl (f196.ne rfl (f195.ne rfl (f194.ne rfl (f193.ne rfl (f192.ne rfl (f191.ne rfl (f190.ne rfl (f189.ne rfl (f188.ne rfl (f187.ne rfl (f186.ne rfl (f185.ne rfl (f184.ne rfl (f183.ne rfl (f182.ne rfl (f181.ne rfl (f180.ne rfl (f179.ne rfl (f178.ne rfl (f177.ne rfl (f176.ne rfl (f175.ne rfl (f174.ne rfl (f173.ne rfl (f172.ne rfl (f171.ne rfl (f170.ne rfl (f169.ne rfl (f168.ne rfl (f167.ne rfl (f166.ne rfl (f165.ne rfl (f164.ne rfl (f163.ne rfl (f162.ne rfl (f161.ne rfl (f160.ne rfl (f159.ne rfl (f158.ne rfl (f157.ne rfl (f156.ne rfl (f155.ne rfl (f154.ne rfl (f153.ne rfl (f152.ne rfl (f151.ne rfl (f150.ne rfl (f149.ne rfl (f148.ne rfl (f147.ne rfl (f146.ne rfl (f145.ne rfl (f144.ne rfl (f143.ne rfl (f142.ne rfl (f141.ne rfl (f140.ne rfl (f139.ne rfl (f138.nw (f137.ne rfl (f136.nw (f135.ne rfl (f134.nw (f133.ne rfl (f132.nw (f131.ne rfl (f130.nw (f129.ne rfl (f128.nw (f127.ne rfl (f126.nw (f125.ne rfl (f124.nw (f123.ne rfl (f122.ne rfl (f121.nw (f120.ne rfl (f119.nw (f118.ne rfl (f117.nw (f116.ne rfl (f115.nw (f114.ne rfl (f113.nw (f112.ne rfl (f111.nw (f110.ne rfl (f109.nw (f108.ne rfl (f107.nw (f106.ne rfl (f105.nw (f104.ne rfl (f103.nw (f102.ne rfl (f101.nw (f100.ne rfl (f99.nw (f98.ne rfl (f97.nw (f96.ne rfl (f95.nw (f94.ne rfl (f93.nw (f92.ne rfl (f91.ne rfl (f90.nw (f89.ne rfl (f88.nw (f87.ne rfl (f86.nw (f85.ne rfl (f84.nw (f83.ne rfl (f82.nw (f81.ne rfl (f80.nw (f79.ne rfl (f78.nw (f77.ne rfl (f76.nw (f75.ne rfl (f74.nw (f73.ne rfl (f72.nw (f71.ne rfl (f70.nw (f69.ne rfl (f68.nw (f67.ne rfl (f66.nw (f65.ne rfl (f64.nw (f63.nw (f62.ne rfl (f61.ne rfl (f60.ne rfl (f59.nw (f58.nw (f57.ne rfl (f56.ne rfl (f55.ne rfl (f54.nw (f53.ne rfl (f52.nw (f51.ne rfl (f50.nw (f49.ne rfl (f48.ne rfl (f47.nw (f46.ne rfl (f45.nw (f44.nw (f43.ne rfl (f42.ne rfl (f41.ne rfl (f40.ne rfl (f39.ne rfl (f38.ne rfl (f37.ne rfl (f36.ne rfl (f35.ne rfl (f34.ne rfl (f33.nw (f32.ne rfl (f31.ne rfl (f30.ne rfl (f29.nw (f28.nw (f27.ne rfl (f26.ne rfl (f25.nw (f24.ne rfl (f23.ne rfl (f22.ne rfl (f21.nw (f20.nw (f19.ne rfl (f18.ne rfl (f17.nw (f16.ne rfl (f15.ne rfl (f14.nw (f13.ne rfl (f12.ne rfl (f11.nw (f10.ne rfl (f9.ne rfl (f8.ne rfl (f7.nw (f6.ne rfl (f5.ne rfl (f4.nw (f3.ne rfl (f2.nw (f1.nw e5))))))))))))))))))))))))))))))))))))))))))))))))))))))))))))))))))))))))))))))))))))))))))))))))))))))))))))))))))))))))))))))))))))))))))))))))))))))))))))))))))))))))))))))))))))))))))))))))))))))))))))))))))))))))))))
  have e6_220 := ((((((((((((((((((((((((((((((((((((((((((((((((((((((((((((((((((((((((((((((((((((((((((((((((((((((((((((((((((((((((((((((((((((((((((((((((((((((((((((((o62.nw f63).nw f64).ne f65 rfl).nw f66).ne f67 rfl).nw f68).ne f69 rfl).nw f70).ne f71 rfl).nw f72).ne f73 rfl).nw f74).ne f75 rfl).nw f76).ne f77 rfl).nw f78).ne f79 rfl).nw f80).ne f81 rfl).nw f82).ne f83 rfl).nw f84).ne f85 rfl).nw f86).ne f87 rfl).nw f88).ne f89 rfl).nw f90).ne f91 rfl).ne f92 rfl).nw f93).ne f94 rfl).nw f95).ne f96 rfl).nw f97).ne f98 rfl).nw f99).ne f100 rfl).nw f101).ne f102 rfl).nw f103).ne f104 rfl).nw f105).ne f106 rfl).nw f107).ne f108 rfl).nw f109).ne f110 rfl).nw f111).ne f112 rfl).nw f113).ne f114 rfl).nw f115).ne f116 rfl).nw f117).ne f118 rfl).nw f119).ne f120 rfl).nw f121).ne f122 rfl).ne f123 rfl).nw f124).ne f125 rfl).nw f126).ne f127 rfl).nw f128).ne f129 rfl).nw f130).ne f131 rfl).nw f132).ne f133 rfl).nw f134).ne f135 rfl).nw f136).ne f137 rfl).nw f138).ne f139 rfl).ne f140 rfl).ne f141 rfl).ne f142 rfl).ne f143 rfl).ne f144 rfl).ne f145 rfl).ne f146 rfl).ne f147 rfl).ne f148 rfl).ne f149 rfl).ne f150 rfl).ne f151 rfl).ne f152 rfl).ne f153 rfl).ne f154 rfl).ne f155 rfl).ne f156 rfl).ne f157 rfl).ne f158 rfl).ne f159 rfl).ne f160 rfl).ne f161 rfl).ne f162 rfl).ne f163 rfl).ne f164 rfl).ne f165 rfl).ne f166 rfl).ne f167 rfl).ne f168 rfl).ne f169 rfl).ne f170 rfl).ne f171 rfl).ne f172 rfl).ne f173 rfl).ne f174 rfl).ne f175 rfl).ne f176 rfl).ne f177 rfl).ne f178 rfl).ne f179 rfl).ne f180 rfl).ne f181 rfl).ne f182 rfl).ne f183 rfl).ne f184 rfl).ne f185 rfl).ne f186 rfl).ne f187 rfl).ne f188 rfl).ne f189 rfl).ne f190 rfl).ne f191 rfl).ne f192 rfl).ne f193 rfl).ne f194 rfl).ne f195 rfl).ne f196 rfl).ne f197 rfl).ne f198 rfl).ne f199 rfl).ne f200 rfl).ne f201 rfl).ne f202 rfl).ne f203 rfl).nw f204).ne f205 rfl).ne f206 rfl).ne f207 rfl).ne f208 rfl).ne f209 rfl).ne f210 rfl).ne f211 rfl).ne f212 rfl).ne f213 rfl).nw f214).ne f215 rfl).nw f216).ne f217 rfl).nw f218).ne f219 rfl).nw f220)
  have e7_220 := (f220.nw (f219.ne rfl (f218.nw (f217.ne rfl (f216.nw (f215.ne rfl (f214.nw (f213.ne rfl (f212.ne rfl (f211.ne rfl (f210.ne rfl (f209.ne rfl (f208.ne rfl (f207.ne rfl (f206.ne rfl (f205.ne rfl (f204.nw (f203.ne rfl (f202.ne rfl (f201.ne rfl (f200.ne rfl (f199.ne rfl (f198.ne rfl (f197.ne rfl (f196.ne rfl (f195.ne rfl (f194.ne rfl (f193.ne rfl (f192.ne rfl (f191.ne rfl (f190.ne rfl (f189.ne rfl (f188.ne rfl (f187.ne rfl (f186.ne rfl (f185.ne rfl (f184.ne rfl (f183.ne rfl (f182.ne rfl (f181.ne rfl (f180.ne rfl (f179.ne rfl (f178.ne rfl (f177.ne rfl (f176.ne rfl (f175.ne rfl (f174.ne rfl (f173.ne rfl (f172.ne rfl (f171.ne rfl (f170.ne rfl (f169.ne rfl (f168.ne rfl (f167.ne rfl (f166.ne rfl (f165.ne rfl (f164.ne rfl (f163.ne rfl (f162.ne rfl (f161.ne rfl (f160.ne rfl (f159.ne rfl (f158.ne rfl (f157.ne rfl (f156.ne rfl (f155.ne rfl (f154.ne rfl (f153.ne rfl (f152.ne rfl (f151.ne rfl (f150.ne rfl (f149.ne rfl (f148.ne rfl (f147.ne rfl (f146.ne rfl (f145.ne rfl (f144.ne rfl (f143.ne rfl (f142.ne rfl (f141.ne rfl (f140.ne rfl (f139.ne rfl (f138.nw (f137.ne rfl (f136.nw (f135.ne rfl (f134.nw (f133.ne rfl (f132.nw (f131.ne rfl (f130.nw (f129.ne rfl (f128.nw (f127.ne rfl (f126.nw (f125.ne rfl (f124.nw (f123.ne rfl (f122.ne rfl (f121.nw (f120.ne rfl (f119.nw (f118.ne rfl (f117.nw (f116.ne rfl (f115.nw (f114.ne rfl (f113.nw (f112.ne rfl (f111.nw (f110.ne rfl (f109.nw (f108.ne rfl (f107.nw (f106.ne rfl (f105.nw (f104.ne rfl (f103.nw (f102.ne rfl (f101.nw (f100.ne rfl (f99.nw (f98.ne rfl (f97.nw (f96.ne rfl (f95.nw (f94.ne rfl (f93.nw (f92.ne rfl (f91.ne rfl (f90.nw (f89.ne rfl (f88.nw (f87.ne rfl (f86.nw (f85.ne rfl (f84.nw (f83.ne rfl (f82.nw (f81.ne rfl (f80.nw (f79.ne rfl (f78.nw (f77.ne rfl (f76.nw (f75.ne rfl (f74.nw (f73.ne rfl (f72.nw (f71.ne rfl (f70.nw (f69.ne rfl (f68.nw (f67.ne rfl (f66.nw (f65.ne rfl (f64.nw (f63.nw (f62.ne rfl (f61.ne rfl (f60.ne rfl (f59.nw (f58.nw (f57.ne rfl (f56.ne rfl (f55.ne rfl (f54.nw (f53.ne rfl (f52.nw (f51.ne rfl (f50.nw (f49.ne rfl (f48.ne rfl (f47.nw (f46.ne rfl (f45.nw (f44.nw (f43.ne rfl (f42.ne rfl (f41.ne rfl (f40.ne rfl (f39.ne rfl (f38.ne rfl (f37.ne rfl (f36.ne rfl (f35.ne rfl (f34.ne rfl (f33.nw (f32.ne rfl (f31.ne rfl (f30.ne rfl (f29.nw (f28.nw (f27.ne rfl (f26.ne rfl (f25.nw (f24.ne rfl (f23.ne rfl (f22.ne rfl (f21.nw (f20.nw (f19.ne rfl (f18.ne rfl (f17.nw (f16.ne rfl (f15.ne rfl (f14.nw (f13.ne rfl (f12.ne rfl (f11.nw (f10.ne rfl (f9.ne rfl (f8.ne rfl (f7.nw (f6.ne rfl (f5.ne rfl (f4.nw (f3.ne rfl o2))))))))))))))))))))))))))))))))))))))))))))))))))))))))))))))))))))))))))))))))))))))))))))))))))))))))))))))))))))))))))))))))))))))))))))))))))))))))))))))))))))))))))))))))))))))))))))))))))))))))))))))))))))))))))
  have e8_220 := (f220.nw (f219.ne rfl (f218.nw (f217.ne rfl (f216.nw (f215.ne rfl (f214.nw (f213.ne rfl (f212.ne rfl (f211.ne rfl (f210.ne rfl (f209.ne rfl (f208.ne rfl (f207.ne rfl (f206.ne rfl (f205.ne rfl (f204.nw (f203.ne rfl (f202.ne rfl (f201.ne rfl (f200.ne rfl (f199.ne rfl (f198.ne rfl (f197.ne rfl (f196.ne rfl (f195.ne rfl (f194.ne rfl (f193.ne rfl (f192.ne rfl (f191.ne rfl (f190.ne rfl (f189.ne rfl (f188.ne rfl (f187.ne rfl (f186.ne rfl (f185.ne rfl (f184.ne rfl (f183.ne rfl (f182.ne rfl (f181.ne rfl (f180.ne rfl (f179.ne rfl (f178.ne rfl (f177.ne rfl (f176.ne rfl (f175.ne rfl (f174.ne rfl (f173.ne rfl (f172.ne rfl (f171.ne rfl (f170.ne rfl (f169.ne rfl (f168.ne rfl (f167.ne rfl (f166.ne rfl (f165.ne rfl (f164.ne rfl (f163.ne rfl (f162.ne rfl (f161.ne rfl (f160.ne rfl (f159.ne rfl (f158.ne rfl (f157.ne rfl (f156.ne rfl (f155.ne rfl (f154.ne rfl (f153.ne rfl (f152.ne rfl (f151.ne rfl (f150.ne rfl (f149.ne rfl (f148.ne rfl (f147.ne rfl (f146.ne rfl (f145.ne rfl (f144.ne rfl (f143.ne rfl (f142.ne rfl (f141.ne rfl (f140.ne rfl (f139.ne rfl (f138.nw (f137.ne rfl (f136.nw (f135.ne rfl (f134.nw (f133.ne rfl (f132.nw (f131.ne rfl (f130.nw (f129.ne rfl (f128.nw (f127.ne rfl (f126.nw (f125.ne rfl (f124.nw (f123.ne rfl (f122.ne rfl (f121.nw (f120.ne rfl (f119.nw (f118.ne rfl (f117.nw (f116.ne rfl (f115.nw (f114.ne rfl (f113.nw (f112.ne rfl (f111.nw (f110.ne rfl (f109.nw (f108.ne rfl (f107.nw (f106.ne rfl (f105.nw (f104.ne rfl (f103.nw (f102.ne rfl (f101.nw (f100.ne rfl (f99.nw (f98.ne rfl (f97.nw (f96.ne rfl (f95.nw (f94.ne rfl (f93.nw (f92.ne rfl (f91.ne rfl (f90.nw (f89.ne rfl (f88.nw (f87.ne rfl (f86.nw (f85.ne rfl (f84.nw (f83.ne rfl (f82.nw (f81.ne rfl (f80.nw (f79.ne rfl (f78.nw (f77.ne rfl (f76.nw (f75.ne rfl (f74.nw (f73.ne rfl (f72.nw (f71.ne rfl (f70.nw (f69.ne rfl (f68.nw (f67.ne rfl (f66.nw (f65.ne rfl (f64.nw (f63.nw (f62.ne rfl (f61.ne rfl (f60.ne rfl (f59.nw (f58.nw (f57.ne rfl (f56.ne rfl (f55.ne rfl (f54.nw (f53.ne rfl (f52.nw (f51.ne rfl (f50.nw (f49.ne rfl (f48.ne rfl (f47.nw (f46.ne rfl (f45.nw (f44.nw (f43.ne rfl (f42.ne rfl (f41.ne rfl (f40.ne rfl (f39.ne rfl (f38.ne rfl (f37.ne rfl (f36.ne rfl (f35.ne rfl (f34.ne rfl (f33.nw (f32.ne rfl (f31.ne rfl (f30.ne rfl (f29.nw (f28.nw (f27.ne rfl (f26.ne rfl (f25.nw (f24.ne rfl (f23.ne rfl (f22.ne rfl (f21.nw (f20.nw (f19.ne rfl (f18.ne rfl (f17.nw (f16.ne rfl (f15.ne rfl (f14.nw (f13.ne rfl (f12.ne rfl (f11.nw (f10.ne rfl (f9.ne rfl (f8.ne rfl (f7.nw (f6.ne rfl (f5.ne rfl o4))))))))))))))))))))))))))))))))))))))))))))))))))))))))))))))))))))))))))))))))))))))))))))))))))))))))))))))))))))))))))))))))))))))))))))))))))))))))))))))))))))))))))))))))))))))))))))))))))))))))))))))))))))))))
  have e9_220 := ((((((((((((((((((((((((((((((((((((((((((((((((((((((((((((((((((((((((((((((((((((((((((((((((((((((((((((((((((((((((((((((((((((((((((((((((((((((((((((((((((((((((((((((((((((((((((((((((((((((((((((((((((((o8.ne f9 rfl).ne f10 rfl).nw f11).ne f12 rfl).ne f13 rfl).nw f14).ne f15 rfl).ne f16 rfl).nw f17).ne f18 rfl).ne f19 rfl).nw f20).nw f21).ne f22 rfl).ne f23 rfl).ne f24 rfl).nw f25).ne f26 rfl).ne f27 rfl).nw f28).nw f29).ne f30 rfl).ne f31 rfl).ne f32 rfl).nw f33).ne f34 rfl).ne f35 rfl).ne f36 rfl).ne f37 rfl).ne f38 rfl).ne f39 rfl).ne f40 rfl).ne f41 rfl).ne f42 rfl).ne f43 rfl).nw f44).nw f45).ne f46 rfl).nw f47).ne f48 rfl).ne f49 rfl).nw f50).ne f51 rfl).nw f52).ne f53 rfl).nw f54).ne f55 rfl).ne f56 rfl).ne f57 rfl).nw f58).nw f59).ne f60 rfl).ne f61 rfl).ne f62 rfl).nw f63).nw f64).ne f65 rfl).nw f66).ne f67 rfl).nw f68).ne f69 rfl).nw f70).ne f71 rfl).nw f72).ne f73 rfl).nw f74).ne f75 rfl).nw f76).ne f77 rfl).nw f78).ne f79 rfl).nw f80).ne f81 rfl).nw f82).ne f83 rfl).nw f84).ne f85 rfl).nw f86).ne f87 rfl).nw f88).ne f89 rfl).nw f90).ne f91 rfl).ne f92 rfl).nw f93).ne f94 rfl).nw f95).ne f96 rfl).nw f97).ne f98 rfl).nw f99).ne f100 rfl).nw f101).ne f102 rfl).nw f103).ne f104 rfl).nw f105).ne f106 rfl).nw f107).ne f108 rfl).nw f109).ne f110 rfl).nw f111).ne f112 rfl).nw f113).ne f114 rfl).nw f115).ne f116 rfl).nw f117).ne f118 rfl).nw f119).ne f120 rfl).nw f121).ne f122 rfl).ne f123 rfl).nw f124).ne f125 rfl).nw f126).ne f127 rfl).nw f128).ne f129 rfl).nw f130).ne f131 rfl).nw f132).ne f133 rfl).nw f134).ne f135 rfl).nw f136).ne f137 rfl).nw f138).ne f139 rfl).ne f140 rfl).ne f141 rfl).ne f142 rfl).ne f143 rfl).ne f144 rfl).ne f145 rfl).ne f146 rfl).ne f147 rfl).ne f148 rfl).ne f149 rfl).ne f150 rfl).ne f151 rfl).ne f152 rfl).ne f153 rfl).ne f154 rfl).ne f155 rfl).ne f156 rfl).ne f157 rfl).ne f158 rfl).ne f159 rfl).ne f160 rfl).ne f161 rfl).ne f162 rfl).ne f163 rfl).ne f164 rfl).ne f165 rfl).ne f166 rfl).ne f167 rfl).ne f168 rfl).ne f169 rfl).ne f170 rfl).ne f171 rfl).ne f172 rfl).ne f173 rfl).ne f174 rfl).ne f175 rfl).ne f176 rfl).ne f177 rfl).ne f178 rfl).ne f179 rfl).ne f180 rfl).ne f181 rfl).ne f182 rfl).ne f183 rfl).ne f184 rfl).ne f185 rfl).ne f186 rfl).ne f187 rfl).ne f188 rfl).ne f189 rfl).ne f190 rfl).ne f191 rfl).ne f192 rfl).ne f193 rfl).ne f194 rfl).ne f195 rfl).ne f196 rfl).ne f197 rfl).ne f198 rfl).ne f199 rfl).ne f200 rfl).ne f201 rfl).ne f202 rfl).ne f203 rfl).nw f204).ne f205 rfl).ne f206 rfl).ne f207 rfl).ne f208 rfl).ne f209 rfl).ne f210 rfl).ne f211 rfl).ne f212 rfl).ne f213 rfl).nw f214).ne f215 rfl).nw f216).ne f217 rfl).nw f218).ne f219 rfl).nw f220)
  have e51_220 := ((((((((((((((((((((((((((((((((((((((((((((((((((((((((((((((((((((((((((((((((((((((((((((((((((((((((((((((((((((((((((((((((((((((((((((((((((((((((((((((((((((((((((((((((((((((((((((((((((((((((((((((((o12.ne f13 rfl).nw f14).ne f15 rfl).ne f16 rfl).nw f17).ne f18 rfl).ne f19 rfl).nw f20).nw f21).ne f22 rfl).ne f23 rfl).ne f24 rfl).nw f25).ne f26 rfl).ne f27 rfl).nw f28).nw f29).ne f30 rfl).ne f31 rfl).ne f32 rfl).nw f33).ne f34 rfl).ne f35 rfl).ne f36 rfl).ne f37 rfl).ne f38 rfl).ne f39 rfl).ne f40 rfl).ne f41 rfl).ne f42 rfl).ne f43 rfl).nw f44).nw f45).ne f46 rfl).nw f47).ne f48 rfl).ne f49 rfl).nw f50).ne f51 rfl).nw f52).ne f53 rfl).nw f54).ne f55 rfl).ne f56 rfl).ne f57 rfl).nw f58).nw f59).ne f60 rfl).ne f61 rfl).ne f62 rfl).nw f63).nw f64).ne f65 rfl).nw f66).ne f67 rfl).nw f68).ne f69 rfl).nw f70).ne f71 rfl).nw f72).ne f73 rfl).nw f74).ne f75 rfl).nw f76).ne f77 rfl).nw f78).ne f79 rfl).nw f80).ne f81 rfl).nw f82).ne f83 rfl).nw f84).ne f85 rfl).nw f86).ne f87 rfl).nw f88).ne f89 rfl).nw f90).ne f91 rfl).ne f92 rfl).nw f93).ne f94 rfl).nw f95).ne f96 rfl).nw f97).ne f98 rfl).nw f99).ne f100 rfl).nw f101).ne f102 rfl).nw f103).ne f104 rfl).nw f105).ne f106 rfl).nw f107).ne f108 rfl).nw f109).ne f110 rfl).nw f111).ne f112 rfl).nw f113).ne f114 rfl).nw f115).ne f116 rfl).nw f117).ne f118 rfl).nw f119).ne f120 rfl).nw f121).ne f122 rfl).ne f123 rfl).nw f124).ne f125 rfl).nw f126).ne f127 rfl).nw f128).ne f129 rfl).nw f130).ne f131 rfl).nw f132).ne f133 rfl).nw f134).ne f135 rfl).nw f136).ne f137 rfl).nw f138).ne f139 rfl).ne f140 rfl).ne f141 rfl).ne f142 rfl).ne f143 rfl).ne f144 rfl).ne f145 rfl).ne f146 rfl).ne f147 rfl).ne f148 rfl).ne f149 rfl).ne f150 rfl).ne f151 rfl).ne f152 rfl).ne f153 rfl).ne f154 rfl).ne f155 rfl).ne f156 rfl).ne f157 rfl).ne f158 rfl).ne f159 rfl).ne f160 rfl).ne f161 rfl).ne f162 rfl).ne f163 rfl).ne f164 rfl).ne f165 rfl).ne f166 rfl).ne f167 rfl).ne f168 rfl).ne f169 rfl).ne f170 rfl).ne f171 rfl).ne f172 rfl).ne f173 rfl).ne f174 rfl).ne f175 rfl).ne f176 rfl).ne f177 rfl).ne f178 rfl).ne f179 rfl).ne f180 rfl).ne f181 rfl).ne f182 rfl).ne f183 rfl).ne f184 rfl).ne f185 rfl).ne f186 rfl).ne f187 rfl).ne f188 rfl).ne f189 rfl).ne f190 rfl).ne f191 rfl).ne f192 rfl).ne f193 rfl).ne f194 rfl).ne f195 rfl).ne f196 rfl).ne f197 rfl).ne f198 rfl).ne f199 rfl).ne f200 rfl).ne f201 rfl).ne f202 rfl).ne f203 rfl).nw f204).ne f205 rfl).ne f206 rfl).ne f207 rfl).ne f208 rfl).ne f209 rfl).ne f210 rfl).ne f211 rfl).ne f212 rfl).ne f213 rfl).nw f214).ne f215 rfl).nw f216).ne f217 rfl).nw f218).ne f219 rfl).nw f220)
  have e93_220 := (((((((((((((((((((((((((((((((((((((((((((((((((((((((((((((((((((((((((((((((((((((((((((((((((((((((((((((((((((((((((((((((((((((((((((((((((((((((((((((((((((((((((((((((((((((((((((((((((((((((((((((o15.ne f16 rfl).nw f17).ne f18 rfl).ne f19 rfl).nw f20).nw f21).ne f22 rfl).ne f23 rfl).ne f24 rfl).nw f25).ne f26 rfl).ne f27 rfl).nw f28).nw f29).ne f30 rfl).ne f31 rfl).ne f32 rfl).nw f33).ne f34 rfl).ne f35 rfl).ne f36 rfl).ne f37 rfl).ne f38 rfl).ne f39 rfl).ne f40 rfl).ne f41 rfl).ne f42 rfl).ne f43 rfl).nw f44).nw f45).ne f46 rfl).nw f47).ne f48 rfl).ne f49 rfl).nw f50).ne f51 rfl).nw f52).ne f53 rfl).nw f54).ne f55 rfl).ne f56 rfl).ne f57 rfl).nw f58).nw f59).ne f60 rfl).ne f61 rfl).ne f62 rfl).nw f63).nw f64).ne f65 rfl).nw f66).ne f67 rfl).nw f68).ne f69 rfl).nw f70).ne f71 rfl).nw f72).ne f73 rfl).nw f74).ne f75 rfl).nw f76).ne f77 rfl).nw f78).ne f79 rfl).nw f80).ne f81 rfl).nw f82).ne f83 rfl).nw f84).ne f85 rfl).nw f86).ne f87 rfl).nw f88).ne f89 rfl).nw f90).ne f91 rfl).ne f92 rfl).nw f93).ne f94 rfl).nw f95).ne f96 rfl).nw f97).ne f98 rfl).nw f99).ne f100 rfl).nw f101).ne f102 rfl).nw f103).ne f104 rfl).nw f105).ne f106 rfl).nw f107).ne f108 rfl).nw f109).ne f110 rfl).nw f111).ne f112 rfl).nw f113).ne f114 rfl).nw f115).ne f116 rfl).nw f117).ne f118 rfl).nw f119).ne f120 rfl).nw f121).ne f122 rfl).ne f123 rfl).nw f124).ne f125 rfl).nw f126).ne f127 rfl).nw f128).ne f129 rfl).nw f130).ne f131 rfl).nw f132).ne f133 rfl).nw f134).ne f135 rfl).nw f136).ne f137 rfl).nw f138).ne f139 rfl).ne f140 rfl).ne f141 rfl).ne f142 rfl).ne f143 rfl).ne f144 rfl).ne f145 rfl).ne f146 rfl).ne f147 rfl).ne f148 rfl).ne f149 rfl).ne f150 rfl).ne f151 rfl).ne f152 rfl).ne f153 rfl).ne f154 rfl).ne f155 rfl).ne f156 rfl).ne f157 rfl).ne f158 rfl).ne f159 rfl).ne f160 rfl).ne f161 rfl).ne f162 rfl).ne f163 rfl).ne f164 rfl).ne f165 rfl).ne f166 rfl).ne f167 rfl).ne f168 rfl).ne f169 rfl).ne f170 rfl).ne f171 rfl).ne f172 rfl).ne f173 rfl).ne f174 rfl).ne f175 rfl).ne f176 rfl).ne f177 rfl).ne f178 rfl).ne f179 rfl).ne f180 rfl).ne f181 rfl).ne f182 rfl).ne f183 rfl).ne f184 rfl).ne f185 rfl).ne f186 rfl).ne f187 rfl).ne f188 rfl).ne f189 rfl).ne f190 rfl).ne f191 rfl).ne f192 rfl).ne f193 rfl).ne f194 rfl).ne f195 rfl).ne f196 rfl).ne f197 rfl).ne f198 rfl).ne f199 rfl).ne f200 rfl).ne f201 rfl).ne f202 rfl).ne f203 rfl).nw f204).ne f205 rfl).ne f206 rfl).ne f207 rfl).ne f208 rfl).ne f209 rfl).ne f210 rfl).ne f211 rfl).ne f212 rfl).ne f213 rfl).nw f214).ne f215 rfl).nw f216).ne f217 rfl).nw f218).ne f219 rfl).nw f220)
  have e135_220 := ((((((((((((((((((((((((((((((((((((((((((((((((((((((((((((((((((((((((((((((((((((((((((((((((((((((((((((((((((((((((((((((((((((((((((((((((((((((((((((((((((((((((((((((((((((((((((((((((((((((((((o18.ne f19 rfl).nw f20).nw f21).ne f22 rfl).ne f23 rfl).ne f24 rfl).nw f25).ne f26 rfl).ne f27 rfl).nw f28).nw f29).ne f30 rfl).ne f31 rfl).ne f32 rfl).nw f33).ne f34 rfl).ne f35 rfl).ne f36 rfl).ne f37 rfl).ne f38 rfl).ne f39 rfl).ne f40 rfl).ne f41 rfl).ne f42 rfl).ne f43 rfl).nw f44).nw f45).ne f46 rfl).nw f47).ne f48 rfl).ne f49 rfl).nw f50).ne f51 rfl).nw f52).ne f53 rfl).nw f54).ne f55 rfl).ne f56 rfl).ne f57 rfl).nw f58).nw f59).ne f60 rfl).ne f61 rfl).ne f62 rfl).nw f63).nw f64).ne f65 rfl).nw f66).ne f67 rfl).nw f68).ne f69 rfl).nw f70).ne f71 rfl).nw f72).ne f73 rfl).nw f74).ne f75 rfl).nw f76).ne f77 rfl).nw f78).ne f79 rfl).nw f80).ne f81 rfl).nw f82).ne f83 rfl).nw f84).ne f85 rfl).nw f86).ne f87 rfl).nw f88).ne f89 rfl).nw f90).ne f91 rfl).ne f92 rfl).nw f93).ne f94 rfl).nw f95).ne f96 rfl).nw f97).ne f98 rfl).nw f99).ne f100 rfl).nw f101).ne f102 rfl).nw f103).ne f104 rfl).nw f105).ne f106 rfl).nw f107).ne f108 rfl).nw f109).ne f110 rfl).nw f111).ne f112 rfl).nw f113).ne f114 rfl).nw f115).ne f116 rfl).nw f117).ne f118 rfl).nw f119).ne f120 rfl).nw f121).ne f122 rfl).ne f123 rfl).nw f124).ne f125 rfl).nw f126).ne f127 rfl).nw f128).ne f129 rfl).nw f130).ne f131 rfl).nw f132).ne f133 rfl).nw f134).ne f135 rfl).nw f136).ne f137 rfl).nw f138).ne f139 rfl).ne f140 rfl).ne f141 rfl).ne f142 rfl).ne f143 rfl).ne f144 rfl).ne f145 rfl).ne f146 rfl).ne f147 rfl).ne f148 rfl).ne f149 rfl).ne f150 rfl).ne f151 rfl).ne f152 rfl).ne f153 rfl).ne f154 rfl).ne f155 rfl).ne f156 rfl).ne f157 rfl).ne f158 rfl).ne f159 rfl).ne f160 rfl).ne f161 rfl).ne f162 rfl).ne f163 rfl).ne f164 rfl).ne f165 rfl).ne f166 rfl).ne f167 rfl).ne f168 rfl).ne f169 rfl).ne f170 rfl).ne f171 rfl).ne f172 rfl).ne f173 rfl).ne f174 rfl).ne f175 rfl).ne f176 rfl).ne f177 rfl).ne f178 rfl).ne f179 rfl).ne f180 rfl).ne f181 rfl).ne f182 rfl).ne f183 rfl).ne f184 rfl).ne f185 rfl).ne f186 rfl).ne f187 rfl).ne f188 rfl).ne f189 rfl).ne f190 rfl).ne f191 rfl).ne f192 rfl).ne f193 rfl).ne f194 rfl).ne f195 rfl).ne f196 rfl).ne f197 rfl).ne f198 rfl).ne f199 rfl).ne f200 rfl).ne f201 rfl).ne f202 rfl).ne f203 rfl).nw f204).ne f205 rfl).ne f206 rfl).ne f207 rfl).ne f208 rfl).ne f209 rfl).ne f210 rfl).ne f211 rfl).ne f212 rfl).ne f213 rfl).nw f214).ne f215 rfl).nw f216).ne f217 rfl).nw f218).ne f219 rfl).nw f220)
  have e177_220 := ((((((((((((((((((((((((((((((((((((((((((((((((((((((((((((((((((((((((((((((((((((((((((((((((((((((((((((((((((((((((((((((((((((((((((((((((((((((((((((((((((((((((((((((((((((((((((((((((((o26.ne f27 rfl).nw f28).nw f29).ne f30 rfl).ne f31 rfl).ne f32 rfl).nw f33).ne f34 rfl).ne f35 rfl).ne f36 rfl).ne f37 rfl).ne f38 rfl).ne f39 rfl).ne f40 rfl).ne f41 rfl).ne f42 rfl).ne f43 rfl).nw f44).nw f45).ne f46 rfl).nw f47).ne f48 rfl).ne f49 rfl).nw f50).ne f51 rfl).nw f52).ne f53 rfl).nw f54).ne f55 rfl).ne f56 rfl).ne f57 rfl).nw f58).nw f59).ne f60 rfl).ne f61 rfl).ne f62 rfl).nw f63).nw f64).ne f65 rfl).nw f66).ne f67 rfl).nw f68).ne f69 rfl).nw f70).ne f71 rfl).nw f72).ne f73 rfl).nw f74).ne f75 rfl).nw f76).ne f77 rfl).nw f78).ne f79 rfl).nw f80).ne f81 rfl).nw f82).ne f83 rfl).nw f84).ne f85 rfl).nw f86).ne f87 rfl).nw f88).ne f89 rfl).nw f90).ne f91 rfl).ne f92 rfl).nw f93).ne f94 rfl).nw f95).ne f96 rfl).nw f97).ne f98 rfl).nw f99).ne f100 rfl).nw f101).ne f102 rfl).nw f103).ne f104 rfl).nw f105).ne f106 rfl).nw f107).ne f108 rfl).nw f109).ne f110 rfl).nw f111).ne f112 rfl).nw f113).ne f114 rfl).nw f115).ne f116 rfl).nw f117).ne f118 rfl).nw f119).ne f120 rfl).nw f121).ne f122 rfl).ne f123 rfl).nw f124).ne f125 rfl).nw f126).ne f127 rfl).nw f128).ne f129 rfl).nw f130).ne f131 rfl).nw f132).ne f133 rfl).nw f134).ne f135 rfl).nw f136).ne f137 rfl).nw f138).ne f139 rfl).ne f140 rfl).ne f141 rfl).ne f142 rfl).ne f143 rfl).ne f144 rfl).ne f145 rfl).ne f146 rfl).ne f147 rfl).ne f148 rfl).ne f149 rfl).ne f150 rfl).ne f151 rfl).ne f152 rfl).ne f153 rfl).ne f154 rfl).ne f155 rfl).ne f156 rfl).ne f157 rfl).ne f158 rfl).ne f159 rfl).ne f160 rfl).ne f161 rfl).ne f162 rfl).ne f163 rfl).ne f164 rfl).ne f165 rfl).ne f166 rfl).ne f167 rfl).ne f168 rfl).ne f169 rfl).ne f170 rfl).ne f171 rfl).ne f172 rfl).ne f173 rfl).ne f174 rfl).ne f175 rfl).ne f176 rfl).ne f177 rfl).ne f178 rfl).ne f179 rfl).ne f180 rfl).ne f181 rfl).ne f182 rfl).ne f183 rfl).ne f184 rfl).ne f185 rfl).ne f186 rfl).ne f187 rfl).ne f188 rfl).ne f189 rfl).ne f190 rfl).ne f191 rfl).ne f192 rfl).ne f193 rfl).ne f194 rfl).ne f195 rfl).ne f196 rfl).ne f197 rfl).ne f198 rfl).ne f199 rfl).ne f200 rfl).ne f201 rfl).ne f202 rfl).ne f203 rfl).nw f204).ne f205 rfl).ne f206 rfl).ne f207 rfl).ne f208 rfl).ne f209 rfl).ne f210 rfl).ne f211 rfl).ne f212 rfl).ne f213 rfl).nw f214).ne f215 rfl).nw f216).ne f217 rfl).nw f218).ne f219 rfl).nw f220)
  have e178_220 := (((((((((((((((((((((((((((((((((((((((((((((((((((((((((((((((((((((((((((((((((((((((((((((((((((((((((((((((((((((((((((((((((((((((((((((((((((((((((((((((((((((((((((((((((((((((((((((((((((((o23.ne f24 rfl).nw f25).ne f26 rfl).ne f27 rfl).nw f28).nw f29).ne f30 rfl).ne f31 rfl).ne f32 rfl).nw f33).ne f34 rfl).ne f35 rfl).ne f36 rfl).ne f37 rfl).ne f38 rfl).ne f39 rfl).ne f40 rfl).ne f41 rfl).ne f42 rfl).ne f43 rfl).nw f44).nw f45).ne f46 rfl).nw f47).ne f48 rfl).ne f49 rfl).nw f50).ne f51 rfl).nw f52).ne f53 rfl).nw f54).ne f55 rfl).ne f56 rfl).ne f57 rfl).nw f58).nw f59).ne f60 rfl).ne f61 rfl).ne f62 rfl).nw f63).nw f64).ne f65 rfl).nw f66).ne f67 rfl).nw f68).ne f69 rfl).nw f70).ne f71 rfl).nw f72).ne f73 rfl).nw f74).ne f75 rfl).nw f76).ne f77 rfl).nw f78).ne f79 rfl).nw f80).ne f81 rfl).nw f82).ne f83 rfl).nw f84).ne f85 rfl).nw f86).ne f87 rfl).nw f88).ne f89 rfl).nw f90).ne f91 rfl).ne f92 rfl).nw f93).ne f94 rfl).nw f95).ne f96 rfl).nw f97).ne f98 rfl).nw f99).ne f100 rfl).nw f101).ne f102 rfl).nw f103).ne f104 rfl).nw f105).ne f106 rfl).nw f107).ne f108 rfl).nw f109).ne f110 rfl).nw f111).ne f112 rfl).nw f113).ne f114 rfl).nw f115).ne f116 rfl).nw f117).ne f118 rfl).nw f119).ne f120 rfl).nw f121).ne f122 rfl).ne f123 rfl).nw f124).ne f125 rfl).nw f126).ne f127 rfl).nw f128).ne f129 rfl).nw f130).ne f131 rfl).nw f132).ne f133 rfl).nw f134).ne f135 rfl).nw f136).ne f137 rfl).nw f138).ne f139 rfl).ne f140 rfl).ne f141 rfl).ne f142 rfl).ne f143 rfl).ne f144 rfl).ne f145 rfl).ne f146 rfl).ne f147 rfl).ne f148 rfl).ne f149 rfl).ne f150 rfl).ne f151 rfl).ne f152 rfl).ne f153 rfl).ne f154 rfl).ne f155 rfl).ne f156 rfl).ne f157 rfl).ne f158 rfl).ne f159 rfl).ne f160 rfl).ne f161 rfl).ne f162 rfl).ne f163 rfl).ne f164 rfl).ne f165 rfl).ne f166 rfl).ne f167 rfl).ne f168 rfl).ne f169 rfl).ne f170 rfl).ne f171 rfl).ne f172 rfl).ne f173 rfl).ne f174 rfl).ne f175 rfl).ne f176 rfl).ne f177 rfl).ne f178 rfl).ne f179 rfl).ne f180 rfl).ne f181 rfl).ne f182 rfl).ne f183 rfl).ne f184 rfl).ne f185 rfl).ne f186 rfl).ne f187 rfl).ne f188 rfl).ne f189 rfl).ne f190 rfl).ne f191 rfl).ne f192 rfl).ne f193 rfl).ne f194 rfl).ne f195 rfl).ne f196 rfl).ne f197 rfl).ne f198 rfl).ne f199 rfl).ne f200 rfl).ne f201 rfl).ne f202 rfl).ne f203 rfl).nw f204).ne f205 rfl).ne f206 rfl).ne f207 rfl).ne f208 rfl).ne f209 rfl).ne f210 rfl).ne f211 rfl).ne f212 rfl).ne f213 rfl).nw f214).ne f215 rfl).nw f216).ne f217 rfl).nw f218).ne f219 rfl).nw f220)
  have e179_220 := (f220.nw (f219.ne rfl (f218.nw (f217.ne rfl (f216.nw (f215.ne rfl (f214.nw (f213.ne rfl (f212.ne rfl (f211.ne rfl (f210.ne rfl (f209.ne rfl (f208.ne rfl (f207.ne rfl (f206.ne rfl (f205.ne rfl (f204.nw (f203.ne rfl (f202.ne rfl (f201.ne rfl (f200.ne rfl (f199.ne rfl (f198.ne rfl (f197.ne rfl (f196.ne rfl (f195.ne rfl (f194.ne rfl (f193.ne rfl (f192.ne rfl (f191.ne rfl (f190.ne rfl (f189.ne rfl (f188.ne rfl (f187.ne rfl (f186.ne rfl (f185.ne rfl (f184.ne rfl (f183.ne rfl (f182.ne rfl (f181.ne rfl (f180.ne rfl (f179.ne rfl (f178.ne rfl (f177.ne rfl (f176.ne rfl (f175.ne rfl (f174.ne rfl (f173.ne rfl (f172.ne rfl (f171.ne rfl (f170.ne rfl (f169.ne rfl (f168.ne rfl (f167.ne rfl (f166.ne rfl (f165.ne rfl (f164.ne rfl (f163.ne rfl (f162.ne rfl (f161.ne rfl (f160.ne rfl (f159.ne rfl (f158.ne rfl (f157.ne rfl (f156.ne rfl (f155.ne rfl (f154.ne rfl (f153.ne rfl (f152.ne rfl (f151.ne rfl (f150.ne rfl (f149.ne rfl (f148.ne rfl (f147.ne rfl (f146.ne rfl (f145.ne rfl (f144.ne rfl (f143.ne rfl (f142.ne rfl (f141.ne rfl (f140.ne rfl (f139.ne rfl (f138.nw (f137.ne rfl (f136.nw (f135.ne rfl (f134.nw (f133.ne rfl (f132.nw (f131.ne rfl (f130.nw (f129.ne rfl (f128.nw (f127.ne rfl (f126.nw (f125.ne rfl (f124.nw (f123.ne rfl (f122.ne rfl (f121.nw (f120.ne rfl (f119.nw (f118.ne rfl (f117.nw (f116.ne rfl (f115.nw (f114.ne rfl (f113.nw (f112.ne rfl (f111.nw (f110.ne rfl (f109.nw (f108.ne rfl (f107.nw (f106.ne rfl (f105.nw (f104.ne rfl (f103.nw (f102.ne rfl (f101.nw (f100.ne rfl (f99.nw (f98.ne rfl (f97.nw (f96.ne rfl (f95.nw (f94.ne rfl (f93.nw (f92.ne rfl (f91.ne rfl (f90.nw (f89.ne rfl (f88.nw (f87.ne rfl (f86.nw (f85.ne rfl (f84.nw (f83.ne rfl (f82.nw (f81.ne rfl (f80.nw (f79.ne rfl (f78.nw (f77.ne rfl (f76.nw (f75.ne rfl (f74.nw (f73.ne rfl (f72.nw (f71.ne rfl (f70.nw (f69.ne rfl (f68.nw (f67.ne rfl (f66.nw (f65.ne rfl (f64.nw (f63.nw (f62.ne rfl (f61.ne rfl (f60.ne rfl (f59.nw (f58.nw (f57.ne rfl (f56.ne rfl (f55.ne rfl (f54.nw (f53.ne rfl (f52.nw (f51.ne rfl (f50.nw (f49.ne rfl (f48.ne rfl (f47.nw (f46.ne rfl (f45.nw (f44.nw (f43.ne rfl (f42.ne rfl (f41.ne rfl (f40.ne rfl (f39.ne rfl (f38.ne rfl (f37.ne rfl (f36.ne rfl (f35.ne rfl (f34.ne rfl (f33.nw (f32.ne rfl (f31.ne rfl (f30.ne rfl (f29.nw (f28.nw (f27.ne rfl (f26.ne rfl o25)))))))))))))))))))))))))))))))))))))))))))))))))))))))))))))))))))))))))))))))))))))))))))))))))))))))))))))))))))))))))))))))))))))))))))))))))))))))))))))))))))))))))))))))))))))))))))))))))))
  have e180_220 := (((((((((((((((((((((((((((((((((((((((((((((((((((((((((((((((((((((((((((((((((((((((((((((((((((((((((((((((((((((((((((((((((((((((((((((((((((((((((((((((((((((((((((((((((((o41.ne f42 rfl).ne f43 rfl).nw f44).nw f45).ne f46 rfl).nw f47).ne f48 rfl).ne f49 rfl).nw f50).ne f51 rfl).nw f52).ne f53 rfl).nw f54).ne f55 rfl).ne f56 rfl).ne f57 rfl).nw f58).nw f59).ne f60 rfl).ne f61 rfl).ne f62 rfl).nw f63).nw f64).ne f65 rfl).nw f66).ne f67 rfl).nw f68).ne f69 rfl).nw f70).ne f71 rfl).nw f72).ne f73 rfl).nw f74).ne f75 rfl).nw f76).ne f77 rfl).nw f78).ne f79 rfl).nw f80).ne f81 rfl).nw f82).ne f83 rfl).nw f84).ne f85 rfl).nw f86).ne f87 rfl).nw f88).ne f89 rfl).nw f90).ne f91 rfl).ne f92 rfl).nw f93).ne f94 rfl).nw f95).ne f96 rfl).nw f97).ne f98 rfl).nw f99).ne f100 rfl).nw f101).ne f102 rfl).nw f103).ne f104 rfl).nw f105).ne f106 rfl).nw f107).ne f108 rfl).nw f109).ne f110 rfl).nw f111).ne f112 rfl).nw f113).ne f114 rfl).nw f115).ne f116 rfl).nw f117).ne f118 rfl).nw f119).ne f120 rfl).nw f121).ne f122 rfl).ne f123 rfl).nw f124).ne f125 rfl).nw f126).ne f127 rfl).nw f128).ne f129 rfl).nw f130).ne f131 rfl).nw f132).ne f133 rfl).nw f134).ne f135 rfl).nw f136).ne f137 rfl).nw f138).ne f139 rfl).ne f140 rfl).ne f141 rfl).ne f142 rfl).ne f143 rfl).ne f144 rfl).ne f145 rfl).ne f146 rfl).ne f147 rfl).ne f148 rfl).ne f149 rfl).ne f150 rfl).ne f151 rfl).ne f152 rfl).ne f153 rfl).ne f154 rfl).ne f155 rfl).ne f156 rfl).ne f157 rfl).ne f158 rfl).ne f159 rfl).ne f160 rfl).ne f161 rfl).ne f162 rfl).ne f163 rfl).ne f164 rfl).ne f165 rfl).ne f166 rfl).ne f167 rfl).ne f168 rfl).ne f169 rfl).ne f170 rfl).ne f171 rfl).ne f172 rfl).ne f173 rfl).ne f174 rfl).ne f175 rfl).ne f176 rfl).ne f177 rfl).ne f178 rfl).ne f179 rfl).ne f180 rfl).ne f181 rfl).ne f182 rfl).ne f183 rfl).ne f184 rfl).ne f185 rfl).ne f186 rfl).ne f187 rfl).ne f188 rfl).ne f189 rfl).ne f190 rfl).ne f191 rfl).ne f192 rfl).ne f193 rfl).ne f194 rfl).ne f195 rfl).ne f196 rfl).ne f197 rfl).ne f198 rfl).ne f199 rfl).ne f200 rfl).ne f201 rfl).ne f202 rfl).ne f203 rfl).nw f204).ne f205 rfl).ne f206 rfl).ne f207 rfl).ne f208 rfl).ne f209 rfl).ne f210 rfl).ne f211 rfl).ne f212 rfl).ne f213 rfl).nw f214).ne f215 rfl).nw f216).ne f217 rfl).nw f218).ne f219 rfl).nw f220)
  have e181_220 := (((((((((((((((((((((((((((((((((((((((((((((((((((((((((((((((((((((((((((((((((((((((((((((((((((((((((((((((((((((((((((((((((((((((((((((((((((((((((((((((((((((((((((((((((((((((((((((o31.ne f32 rfl).nw f33).ne f34 rfl).ne f35 rfl).ne f36 rfl).ne f37 rfl).ne f38 rfl).ne f39 rfl).ne f40 rfl).ne f41 rfl).ne f42 rfl).ne f43 rfl).nw f44).nw f45).ne f46 rfl).nw f47).ne f48 rfl).ne f49 rfl).nw f50).ne f51 rfl).nw f52).ne f53 rfl).nw f54).ne f55 rfl).ne f56 rfl).ne f57 rfl).nw f58).nw f59).ne f60 rfl).ne f61 rfl).ne f62 rfl).nw f63).nw f64).ne f65 rfl).nw f66).ne f67 rfl).nw f68).ne f69 rfl).nw f70).ne f71 rfl).nw f72).ne f73 rfl).nw f74).ne f75 rfl).nw f76).ne f77 rfl).nw f78).ne f79 rfl).nw f80).ne f81 rfl).nw f82).ne f83 rfl).nw f84).ne f85 rfl).nw f86).ne f87 rfl).nw f88).ne f89 rfl).nw f90).ne f91 rfl).ne f92 rfl).nw f93).ne f94 rfl).nw f95).ne f96 rfl).nw f97).ne f98 rfl).nw f99).ne f100 rfl).nw f101).ne f102 rfl).nw f103).ne f104 rfl).nw f105).ne f106 rfl).nw f107).ne f108 rfl).nw f109).ne f110 rfl).nw f111).ne f112 rfl).nw f113).ne f114 rfl).nw f115).ne f116 rfl).nw f117).ne f118 rfl).nw f119).ne f120 rfl).nw f121).ne f122 rfl).ne f123 rfl).nw f124).ne f125 rfl).nw f126).ne f127 rfl).nw f128).ne f129 rfl).nw f130).ne f131 rfl).nw f132).ne f133 rfl).nw f134).ne f135 rfl).nw f136).ne f137 rfl).nw f138).ne f139 rfl).ne f140 rfl).ne f141 rfl).ne f142 rfl).ne f143 rfl).ne f144 rfl).ne f145 rfl).ne f146 rfl).ne f147 rfl).ne f148 rfl).ne f149 rfl).ne f150 rfl).ne f151 rfl).ne f152 rfl).ne f153 rfl).ne f154 rfl).ne f155 rfl).ne f156 rfl).ne f157 rfl).ne f158 rfl).ne f159 rfl).ne f160 rfl).ne f161 rfl).ne f162 rfl).ne f163 rfl).ne f164 rfl).ne f165 rfl).ne f166 rfl).ne f167 rfl).ne f168 rfl).ne f169 rfl).ne f170 rfl).ne f171 rfl).ne f172 rfl).ne f173 rfl).ne f174 rfl).ne f175 rfl).ne f176 rfl).ne f177 rfl).ne f178 rfl).ne f179 rfl).ne f180 rfl).ne f181 rfl).ne f182 rfl).ne f183 rfl).ne f184 rfl).ne f185 rfl).ne f186 rfl).ne f187 rfl).ne f188 rfl).ne f189 rfl).ne f190 rfl).ne f191 rfl).ne f192 rfl).ne f193 rfl).ne f194 rfl).ne f195 rfl).ne f196 rfl).ne f197 rfl).ne f198 rfl).ne f199 rfl).ne f200 rfl).ne f201 rfl).ne f202 rfl).ne f203 rfl).nw f204).ne f205 rfl).ne f206 rfl).ne f207 rfl).ne f208 rfl).ne f209 rfl).ne f210 rfl).ne f211 rfl).ne f212 rfl).ne f213 rfl).nw f214).ne f215 rfl).nw f216).ne f217 rfl).nw f218).ne f219 rfl).nw f220)
  have e182_220 := ((((((((((((((((((((((((((((((((((((((((((((((((((((((((((((((((((((((((((((((((((((((((((((((((((((((((((((((((((((((((((((((((((((((((((((((((((((((((((((((((((((((((((((((((((((((((o36.ne f37 rfl).ne f38 rfl).ne f39 rfl).ne f40 rfl).ne f41 rfl).ne f42 rfl).ne f43 rfl).nw f44).nw f45).ne f46 rfl).nw f47).ne f48 rfl).ne f49 rfl).nw f50).ne f51 rfl).nw f52).ne f53 rfl).nw f54).ne f55 rfl).ne f56 rfl).ne f57 rfl).nw f58).nw f59).ne f60 rfl).ne f61 rfl).ne f62 rfl).nw f63).nw f64).ne f65 rfl).nw f66).ne f67 rfl).nw f68).ne f69 rfl).nw f70).ne f71 rfl).nw f72).ne f73 rfl).nw f74).ne f75 rfl).nw f76).ne f77 rfl).nw f78).ne f79 rfl).nw f80).ne f81 rfl).nw f82).ne f83 rfl).nw f84).ne f85 rfl).nw f86).ne f87 rfl).nw f88).ne f89 rfl).nw f90).ne f91 rfl).ne f92 rfl).nw f93).ne f94 rfl).nw f95).ne f96 rfl).nw f97).ne f98 rfl).nw f99).ne f100 rfl).nw f101).ne f102 rfl).nw f103).ne f104 rfl).nw f105).ne f106 rfl).nw f107).ne f108 rfl).nw f109).ne f110 rfl).nw f111).ne f112 rfl).nw f113).ne f114 rfl).nw f115).ne f116 rfl).nw f117).ne f118 rfl).nw f119).ne f120 rfl).nw f121).ne f122 rfl).ne f123 rfl).nw f124).ne f125 rfl).nw f126).ne f127 rfl).nw f128).ne f129 rfl).nw f130).ne f131 rfl).nw f132).ne f133 rfl).nw f134).ne f135 rfl).nw f136).ne f137 rfl).nw f138).ne f139 rfl).ne f140 rfl).ne f141 rfl).ne f142 rfl).ne f143 rfl).ne f144 rfl).ne f145 rfl).ne f146 rfl).ne f147 rfl).ne f148 rfl).ne f149 rfl).ne f150 rfl).ne f151 rfl).ne f152 rfl).ne f153 rfl).ne f154 rfl).ne f155 rfl).ne f156 rfl).ne f157 rfl).ne f158 rfl).ne f159 rfl).ne f160 rfl).ne f161 rfl).ne f162 rfl).ne f163 rfl).ne f164 rfl).ne f165 rfl).ne f166 rfl).ne f167 rfl).ne f168 rfl).ne f169 rfl).ne f170 rfl).ne f171 rfl).ne f172 rfl).ne f173 rfl).ne f174 rfl).ne f175 rfl).ne f176 rfl).ne f177 rfl).ne f178 rfl).ne f179 rfl).ne f180 rfl).ne f181 rfl).ne f182 rfl).ne f183 rfl).ne f184 rfl).ne f185 rfl).ne f186 rfl).ne f187 rfl).ne f188 rfl).ne f189 rfl).ne f190 rfl).ne f191 rfl).ne f192 rfl).ne f193 rfl).ne f194 rfl).ne f195 rfl).ne f196 rfl).ne f197 rfl).ne f198 rfl).ne f199 rfl).ne f200 rfl).ne f201 rfl).ne f202 rfl).ne f203 rfl).nw f204).ne f205 rfl).ne f206 rfl).ne f207 rfl).ne f208 rfl).ne f209 rfl).ne f210 rfl).ne f211 rfl).ne f212 rfl).ne f213 rfl).nw f214).ne f215 rfl).nw f216).ne f217 rfl).nw f218).ne f219 rfl).nw f220)
  have e183_220 := ((((((((((((((((((((((((((((((((((((((((((((((((((((((((((((((((((((((((((((((((((((((((((((((((((((((((((((((((((((((((((((((((((((((((((((((((((((((((((((((((((((((((((((o48.ne f49 rfl).nw f50).ne f51 rfl).nw f52).ne f53 rfl).nw f54).ne f55 rfl).ne f56 rfl).ne f57 rfl).nw f58).nw f59).ne f60 rfl).ne f61 rfl).ne f62 rfl).nw f63).nw f64).ne f65 rfl).nw f66).ne f67 rfl).nw f68).ne f69 rfl).nw f70).ne f71 rfl).nw f72).ne f73 rfl).nw f74).ne f75 rfl).nw f76).ne f77 rfl).nw f78).ne f79 rfl).nw f80).ne f81 rfl).nw f82).ne f83 rfl).nw f84).ne f85 rfl).nw f86).ne f87 rfl).nw f88).ne f89 rfl).nw f90).ne f91 rfl).ne f92 rfl).nw f93).ne f94 rfl).nw f95).ne f96 rfl).nw f97).ne f98 rfl).nw f99).ne f100 rfl).nw f101).ne f102 rfl).nw f103).ne f104 rfl).nw f105).ne f106 rfl).nw f107).ne f108 rfl).nw f109).ne f110 rfl).nw f111).ne f112 rfl).nw f113).ne f114 rfl).nw f115).ne f116 rfl).nw f117).ne f118 rfl).nw f119).ne f120 rfl).nw f121).ne f122 rfl).ne f123 rfl).nw f124).ne f125 rfl).nw f126).ne f127 rfl).nw f128).ne f129 rfl).nw f130).ne f131 rfl).nw f132).ne f133 rfl).nw f134).ne f135 rfl).nw f136).ne f137 rfl).nw f138).ne f139 rfl).ne f140 rfl).ne f141 rfl).ne f142 rfl).ne f143 rfl).ne f144 rfl).ne f145 rfl).ne f146 rfl).ne f147 rfl).ne f148 rfl).ne f149 rfl).ne f150 rfl).ne f151 rfl).ne f152 rfl).ne f153 rfl).ne f154 rfl).ne f155 rfl).ne f156 rfl).ne f157 rfl).ne f158 rfl).ne f159 rfl).ne f160 rfl).ne f161 rfl).ne f162 rfl).ne f163 rfl).ne f164 rfl).ne f165 rfl).ne f166 rfl).ne f167 rfl).ne f168 rfl).ne f169 rfl).ne f170 rfl).ne f171 rfl).ne f172 rfl).ne f173 rfl).ne f174 rfl).ne f175 rfl).ne f176 rfl).ne f177 rfl).ne f178 rfl).ne f179 rfl).ne f180 rfl).ne f181 rfl).ne f182 rfl).ne f183 rfl).ne f184 rfl).ne f185 rfl).ne f186 rfl).ne f187 rfl).ne f188 rfl).ne f189 rfl).ne f190 rfl).ne f191 rfl).ne f192 rfl).ne f193 rfl).ne f194 rfl).ne f195 rfl).ne f196 rfl).ne f197 rfl).ne f198 rfl).ne f199 rfl).ne f200 rfl).ne f201 rfl).ne f202 rfl).ne f203 rfl).nw f204).ne f205 rfl).ne f206 rfl).ne f207 rfl).ne f208 rfl).ne f209 rfl).ne f210 rfl).ne f211 rfl).ne f212 rfl).ne f213 rfl).nw f214).ne f215 rfl).nw f216).ne f217 rfl).nw f218).ne f219 rfl).nw f220)
  have e184_220 := (f220.nw (f219.ne rfl (f218.nw (f217.ne rfl (f216.nw (f215.ne rfl (f214.nw (f213.ne rfl (f212.ne rfl (f211.ne rfl (f210.ne rfl (f209.ne rfl (f208.ne rfl (f207.ne rfl (f206.ne rfl (f205.ne rfl (f204.nw (f203.ne rfl (f202.ne rfl (f201.ne rfl (f200.ne rfl (f199.ne rfl (f198.ne rfl (f197.ne rfl (f196.ne rfl (f195.ne rfl (f194.ne rfl (f193.ne rfl (f192.ne rfl (f191.ne rfl (f190.ne rfl (f189.ne rfl (f188.ne rfl (f187.ne rfl (f186.ne rfl (f185.ne rfl (f184.ne rfl (f183.ne rfl (f182.ne rfl (f181.ne rfl (f180.ne rfl (f179.ne rfl (f178.ne rfl (f177.ne rfl (f176.ne rfl (f175.ne rfl (f174.ne rfl (f173.ne rfl (f172.ne rfl (f171.ne rfl (f170.ne rfl (f169.ne rfl (f168.ne rfl (f167.ne rfl (f166.ne rfl (f165.ne rfl (f164.ne rfl (f163.ne rfl (f162.ne rfl (f161.ne rfl (f160.ne rfl (f159.ne rfl (f158.ne rfl (f157.ne rfl (f156.ne rfl (f155.ne rfl (f154.ne rfl (f153.ne rfl (f152.ne rfl (f151.ne rfl (f150.ne rfl (f149.ne rfl (f148.ne rfl (f147.ne rfl (f146.ne rfl (f145.ne rfl (f144.ne rfl (f143.ne rfl (f142.ne rfl (f141.ne rfl (f140.ne rfl (f139.ne rfl (f138.nw (f137.ne rfl (f136.nw (f135.ne rfl (f134.nw (f133.ne rfl (f132.nw (f131.ne rfl (f130.nw (f129.ne rfl (f128.nw (f127.ne rfl (f126.nw (f125.ne rfl (f124.nw (f123.ne rfl (f122.ne rfl (f121.nw (f120.ne rfl (f119.nw (f118.ne rfl (f117.nw (f116.ne rfl (f115.nw (f114.ne rfl (f113.nw (f112.ne rfl (f111.nw (f110.ne rfl (f109.nw (f108.ne rfl (f107.nw (f106.ne rfl (f105.nw (f104.ne rfl (f103.nw (f102.ne rfl (f101.nw (f100.ne rfl (f99.nw (f98.ne rfl (f97.nw (f96.ne rfl (f95.nw (f94.ne rfl (f93.nw (f92.ne rfl (f91.ne rfl (f90.nw (f89.ne rfl (f88.nw (f87.ne rfl (f86.nw (f85.ne rfl (f84.nw (f83.ne rfl (f82.nw (f81.ne rfl (f80.nw (f79.ne rfl (f78.nw (f77.ne rfl (f76.nw (f75.ne rfl (f74.nw (f73.ne rfl (f72.nw (f71.ne rfl (f70.nw (f69.ne rfl (f68.nw (f67.ne rfl (f66.nw (f65.ne rfl (f64.nw (f63.nw (f62.ne rfl (f61.ne rfl (f60.ne rfl (f59.nw (f58.nw (f57.ne rfl (f56.ne rfl (f55.ne rfl (f54.nw (f53.ne rfl (f52.nw (f51.ne rfl (f50.nw (f49.ne rfl (f48.ne rfl (f47.nw (f46.ne rfl o45)))))))))))))))))))))))))))))))))))))))))))))))))))))))))))))))))))))))))))))))))))))))))))))))))))))))))))))))))))))))))))))))))))))))))))))))))))))))))))))))))))))))))))))))
  have e185_220 := (f220.nw (f219.ne rfl (f218.nw (f217.ne rfl (f216.nw (f215.ne rfl (f214.nw (f213.ne rfl (f212.ne rfl (f211.ne rfl (f210.ne rfl (f209.ne rfl (f208.ne rfl (f207.ne rfl (f206.ne rfl (f205.ne rfl (f204.nw (f203.ne rfl (f202.ne rfl (f201.ne rfl (f200.ne rfl (f199.ne rfl (f198.ne rfl (f197.ne rfl (f196.ne rfl (f195.ne rfl (f194.ne rfl (f193.ne rfl (f192.ne rfl (f191.ne rfl (f190.ne rfl (f189.ne rfl (f188.ne rfl (f187.ne rfl (f186.ne rfl (f185.ne rfl (f184.ne rfl (f183.ne rfl (f182.ne rfl (f181.ne rfl (f180.ne rfl (f179.ne rfl (f178.ne rfl (f177.ne rfl (f176.ne rfl (f175.ne rfl (f174.ne rfl (f173.ne rfl (f172.ne rfl (f171.ne rfl (f170.ne rfl (f169.ne rfl (f168.ne rfl (f167.ne rfl (f166.ne rfl (f165.ne rfl (f164.ne rfl (f163.ne rfl (f162.ne rfl (f161.ne rfl (f160.ne rfl (f159.ne rfl (f158.ne rfl (f157.ne rfl (f156.ne rfl (f155.ne rfl (f154.ne rfl (f153.ne rfl (f152.ne rfl (f151.ne rfl (f150.ne rfl (f149.ne rfl (f148.ne rfl (f147.ne rfl (f146.ne rfl (f145.ne rfl (f144.ne rfl (f143.ne rfl (f142.ne rfl (f141.ne rfl (f140.ne rfl (f139.ne rfl (f138.nw (f137.ne rfl (f136.nw (f135.ne rfl (f134.nw (f133.ne rfl (f132.nw (f131.ne rfl (f130.nw (f129.ne rfl (f128.nw (f127.ne rfl (f126.nw (f125.ne rfl (f124.nw (f123.ne rfl (f122.ne rfl (f121.nw (f120.ne rfl (f119.nw (f118.ne rfl (f117.nw (f116.ne rfl (f115.nw (f114.ne rfl (f113.nw (f112.ne rfl (f111.nw (f110.ne rfl (f109.nw (f108.ne rfl (f107.nw (f106.ne rfl (f105.nw (f104.ne rfl (f103.nw (f102.ne rfl (f101.nw (f100.ne rfl (f99.nw (f98.ne rfl (f97.nw (f96.ne rfl (f95.nw (f94.ne rfl (f93.nw (f92.ne rfl (f91.ne rfl (f90.nw (f89.ne rfl (f88.nw (f87.ne rfl (f86.nw (f85.ne rfl (f84.nw (f83.ne rfl (f82.nw (f81.ne rfl (f80.nw (f79.ne rfl (f78.nw (f77.ne rfl (f76.nw (f75.ne rfl (f74.nw (f73.ne rfl (f72.nw (f71.ne rfl (f70.nw (f69.ne rfl (f68.nw (f67.ne rfl (f66.nw (f65.ne rfl (f64.nw (f63.nw (f62.ne rfl (f61.ne rfl (f60.ne rfl (f59.nw (f58.nw (f57.ne rfl (f56.ne rfl (f55.ne rfl (f54.nw (f53.ne rfl (f52.nw (f51.ne rfl (f50.nw (f49.ne rfl (f48.ne rfl o47)))))))))))))))))))))))))))))))))))))))))))))))))))))))))))))))))))))))))))))))))))))))))))))))))))))))))))))))))))))))))))))))))))))))))))))))))))))))))))))))))))))))))))))
  have e186_220 := ((((((((((((((((((((((((((((((((((((((((((((((((((((((((((((((((((((((((((((((((((((((((((((((((((((((((((((((((((((((((((((((((((((((((((((((((((((((((((((((((((((o56.ne f57 rfl).nw f58).nw f59).ne f60 rfl).ne f61 rfl).ne f62 rfl).nw f63).nw f64).ne f65 rfl).nw f66).ne f67 rfl).nw f68).ne f69 rfl).nw f70).ne f71 rfl).nw f72).ne f73 rfl).nw f74).ne f75 rfl).nw f76).ne f77 rfl).nw f78).ne f79 rfl).nw f80).ne f81 rfl).nw f82).ne f83 rfl).nw f84).ne f85 rfl).nw f86).ne f87 rfl).nw f88).ne f89 rfl).nw f90).ne f91 rfl).ne f92 rfl).nw f93).ne f94 rfl).nw f95).ne f96 rfl).nw f97).ne f98 rfl).nw f99).ne f100 rfl).nw f101).ne f102 rfl).nw f103).ne f104 rfl).nw f105).ne f106 rfl).nw f107).ne f108 rfl).nw f109).ne f110 rfl).nw f111).ne f112 rfl).nw f113).ne f114 rfl).nw f115).ne f116 rfl).nw f117).ne f118 rfl).nw f119).ne f120 rfl).nw f121).ne f122 rfl).ne f123 rfl).nw f124).ne f125 rfl).nw f126).ne f127 rfl).nw f128).ne f129 rfl).nw f130).ne f131 rfl).nw f132).ne f133 rfl).nw f134).ne f135 rfl).nw f136).ne f137 rfl).nw f138).ne f139 rfl).ne f140 rfl).ne f141 rfl).ne f142 rfl).ne f143 rfl).ne f144 rfl).ne f145 rfl).ne f146 rfl).ne f147 rfl).ne f148 rfl).ne f149 rfl).ne f150 rfl).ne f151 rfl).ne f152 rfl).ne f153 rfl).ne f154 rfl).ne f155 rfl).ne f156 rfl).ne f157 rfl).ne f158 rfl).ne f159 rfl).ne f160 rfl).ne f161 rfl).ne f162 rfl).ne f163 rfl).ne f164 rfl).ne f165 rfl).ne f166 rfl).ne f167 rfl).ne f168 rfl).ne f169 rfl).ne f170 rfl).ne f171 rfl).ne f172 rfl).ne f173 rfl).ne f174 rfl).ne f175 rfl).ne f176 rfl).ne f177 rfl).ne f178 rfl).ne f179 rfl).ne f180 rfl).ne f181 rfl).ne f182 rfl).ne f183 rfl).ne f184 rfl).ne f185 rfl).ne f186 rfl).ne f187 rfl).ne f188 rfl).ne f189 rfl).ne f190 rfl).ne f191 rfl).ne f192 rfl).ne f193 rfl).ne f194 rfl).ne f195 rfl).ne f196 rfl).ne f197 rfl).ne f198 rfl).ne f199 rfl).ne f200 rfl).ne f201 rfl).ne f202 rfl).ne f203 rfl).nw f204).ne f205 rfl).ne f206 rfl).ne f207 rfl).ne f208 rfl).ne f209 rfl).ne f210 rfl).ne f211 rfl).ne f212 rfl).ne f213 rfl).nw f214).ne f215 rfl).nw f216).ne f217 rfl).nw f218).ne f219 rfl).nw f220)
  have e187_220 := (f220.nw (f219.ne rfl (f218.nw (f217.ne rfl (f216.nw (f215.ne rfl (f214.nw (f213.ne rfl (f212.ne rfl (f211.ne rfl (f210.ne rfl (f209.ne rfl (f208.ne rfl (f207.ne rfl (f206.ne rfl (f205.ne rfl (f204.nw (f203.ne rfl (f202.ne rfl (f201.ne rfl (f200.ne rfl (f199.ne rfl (f198.ne rfl (f197.ne rfl (f196.ne rfl (f195.ne rfl (f194.ne rfl (f193.ne rfl (f192.ne rfl (f191.ne rfl (f190.ne rfl (f189.ne rfl (f188.ne rfl (f187.ne rfl (f186.ne rfl (f185.ne rfl (f184.ne rfl (f183.ne rfl (f182.ne rfl (f181.ne rfl (f180.ne rfl (f179.ne rfl (f178.ne rfl (f177.ne rfl (f176.ne rfl (f175.ne rfl (f174.ne rfl (f173.ne rfl (f172.ne rfl (f171.ne rfl (f170.ne rfl (f169.ne rfl (f168.ne rfl (f167.ne rfl (f166.ne rfl (f165.ne rfl (f164.ne rfl (f163.ne rfl (f162.ne rfl (f161.ne rfl (f160.ne rfl (f159.ne rfl (f158.ne rfl (f157.ne rfl (f156.ne rfl (f155.ne rfl (f154.ne rfl (f153.ne rfl (f152.ne rfl (f151.ne rfl (f150.ne rfl (f149.ne rfl (f148.ne rfl (f147.ne rfl (f146.ne rfl (f145.ne rfl (f144.ne rfl (f143.ne rfl (f142.ne rfl (f141.ne rfl (f140.ne rfl (f139.ne rfl (f138.nw (f137.ne rfl (f136.nw (f135.ne rfl (f134.nw (f133.ne rfl (f132.nw (f131.ne rfl (f130.nw (f129.ne rfl (f128.nw (f127.ne rfl (f126.nw (f125.ne rfl (f124.nw (f123.ne rfl (f122.ne rfl (f121.nw (f120.ne rfl (f119.nw (f118.ne rfl (f117.nw (f116.ne rfl (f115.nw (f114.ne rfl (f113.nw (f112.ne rfl (f111.nw (f110.ne rfl (f109.nw (f108.ne rfl (f107.nw (f106.ne rfl (f105.nw (f104.ne rfl (f103.nw (f102.ne rfl (f101.nw (f100.ne rfl (f99.nw (f98.ne rfl (f97.nw (f96.ne rfl (f95.nw (f94.ne rfl (f93.nw (f92.ne rfl (f91.ne rfl (f90.nw (f89.ne rfl (f88.nw (f87.ne rfl (f86.nw (f85.ne rfl (f84.nw (f83.ne rfl (f82.nw (f81.ne rfl (f80.nw (f79.ne rfl (f78.nw (f77.ne rfl (f76.nw (f75.ne rfl (f74.nw (f73.ne rfl (f72.nw (f71.ne rfl (f70.nw (f69.ne rfl (f68.nw (f67.ne rfl (f66.nw (f65.ne rfl (f64.nw (f63.nw (f62.ne rfl (f61.ne rfl (f60.ne rfl (f59.nw (f58.nw (f57.ne rfl (f56.ne rfl (f55.ne rfl (f54.nw (f53.ne rfl o52))))))))))))))))))))))))))))))))))))))))))))))))))))))))))))))))))))))))))))))))))))))))))))))))))))))))))))))))))))))))))))))))))))))))))))))))))))))))))))))))))))))))
  have e188_220 := (f220.nw (f219.ne rfl (f218.nw (f217.ne rfl (f216.nw (f215.ne rfl (f214.nw (f213.ne rfl (f212.ne rfl (f211.ne rfl (f210.ne rfl (f209.ne rfl (f208.ne rfl (f207.ne rfl (f206.ne rfl (f205.ne rfl (f204.nw (f203.ne rfl (f202.ne rfl (f201.ne rfl (f200.ne rfl (f199.ne rfl (f198.ne rfl (f197.ne rfl (f196.ne rfl (f195.ne rfl (f194.ne rfl (f193.ne rfl (f192.ne rfl (f191.ne rfl (f190.ne rfl (f189.ne rfl (f188.ne rfl (f187.ne rfl (f186.ne rfl (f185.ne rfl (f184.ne rfl (f183.ne rfl (f182.ne rfl (f181.ne rfl (f180.ne rfl (f179.ne rfl (f178.ne rfl (f177.ne rfl (f176.ne rfl (f175.ne rfl (f174.ne rfl (f173.ne rfl (f172.ne rfl (f171.ne rfl (f170.ne rfl (f169.ne rfl (f168.ne rfl (f167.ne rfl (f166.ne rfl (f165.ne rfl (f164.ne rfl (f163.ne rfl (f162.ne rfl (f161.ne rfl (f160.ne rfl (f159.ne rfl (f158.ne rfl (f157.ne rfl (f156.ne rfl (f155.ne rfl (f154.ne rfl (f153.ne rfl (f152.ne rfl (f151.ne rfl (f150.ne rfl (f149.ne rfl (f148.ne rfl (f147.ne rfl (f146.ne rfl (f145.ne rfl (f144.ne rfl (f143.ne rfl (f142.ne rfl (f141.ne rfl (f140.ne rfl (f139.ne rfl (f138.nw (f137.ne rfl (f136.nw (f135.ne rfl (f134.nw (f133.ne rfl (f132.nw (f131.ne rfl (f130.nw (f129.ne rfl (f128.nw (f127.ne rfl (f126.nw (f125.ne rfl (f124.nw (f123.ne rfl (f122.ne rfl (f121.nw (f120.ne rfl (f119.nw (f118.ne rfl (f117.nw (f116.ne rfl (f115.nw (f114.ne rfl (f113.nw (f112.ne rfl (f111.nw (f110.ne rfl (f109.nw (f108.ne rfl (f107.nw (f106.ne rfl (f105.nw (f104.ne rfl (f103.nw (f102.ne rfl (f101.nw (f100.ne rfl (f99.nw (f98.ne rfl (f97.nw (f96.ne rfl (f95.nw (f94.ne rfl (f93.nw (f92.ne rfl (f91.ne rfl (f90.nw (f89.ne rfl (f88.nw (f87.ne rfl (f86.nw (f85.ne rfl (f84.nw (f83.ne rfl (f82.nw (f81.ne rfl (f80.nw (f79.ne rfl (f78.nw (f77.ne rfl (f76.nw (f75.ne rfl (f74.nw (f73.ne rfl (f72.nw (f71.ne rfl (f70.nw (f69.ne rfl (f68.nw (f67.ne rfl (f66.nw (f65.ne rfl (f64.nw (f63.nw (f62.ne rfl (f61.ne rfl (f60.ne rfl (f59.nw (f58.nw (f57.ne rfl (f56.ne rfl (f55.ne rfl o54))))))))))))))))))))))))))))))))))))))))))))))))))))))))))))))))))))))))))))))))))))))))))))))))))))))))))))))))))))))))))))))))))))))))))))))))))))))))))))))))))))))
  have e189_220 := (((((((((((((((((((((((((((((((((((((((((((((((((((((((((((((((((((((((((((((((((((((((((((((((((((((((((((((((((((((((((((((((((((((((((((((((((((((((((((((((o61.ne f62 rfl).nw f63).nw f64).ne f65 rfl).nw f66).ne f67 rfl).nw f68).ne f69 rfl).nw f70).ne f71 rfl).nw f72).ne f73 rfl).nw f74).ne f75 rfl).nw f76).ne f77 rfl).nw f78).ne f79 rfl).nw f80).ne f81 rfl).nw f82).ne f83 rfl).nw f84).ne f85 rfl).nw f86).ne f87 rfl).nw f88).ne f89 rfl).nw f90).ne f91 rfl).ne f92 rfl).nw f93).ne f94 rfl).nw f95).ne f96 rfl).nw f97).ne f98 rfl).nw f99).ne f100 rfl).nw f101).ne f102 rfl).nw f103).ne f104 rfl).nw f105).ne f106 rfl).nw f107).ne f108 rfl).nw f109).ne f110 rfl).nw f111).ne f112 rfl).nw f113).ne f114 rfl).nw f115).ne f116 rfl).nw f117).ne f118 rfl).nw f119).ne f120 rfl).nw f121).ne f122 rfl).ne f123 rfl).nw f124).ne f125 rfl).nw f126).ne f127 rfl).nw f128).ne f129 rfl).nw f130).ne f131 rfl).nw f132).ne f133 rfl).nw f134).ne f135 rfl).nw f136).ne f137 rfl).nw f138).ne f139 rfl).ne f140 rfl).ne f141 rfl).ne f142 rfl).ne f143 rfl).ne f144 rfl).ne f145 rfl).ne f146 rfl).ne f147 rfl).ne f148 rfl).ne f149 rfl).ne f150 rfl).ne f151 rfl).ne f152 rfl).ne f153 rfl).ne f154 rfl).ne f155 rfl).ne f156 rfl).ne f157 rfl).ne f158 rfl).ne f159 rfl).ne f160 rfl).ne f161 rfl).ne f162 rfl).ne f163 rfl).ne f164 rfl).ne f165 rfl).ne f166 rfl).ne f167 rfl).ne f168 rfl).ne f169 rfl).ne f170 rfl).ne f171 rfl).ne f172 rfl).ne f173 rfl).ne f174 rfl).ne f175 rfl).ne f176 rfl).ne f177 rfl).ne f178 rfl).ne f179 rfl).ne f180 rfl).ne f181 rfl).ne f182 rfl).ne f183 rfl).ne f184 rfl).ne f185 rfl).ne f186 rfl).ne f187 rfl).ne f188 rfl).ne f189 rfl).ne f190 rfl).ne f191 rfl).ne f192 rfl).ne f193 rfl).ne f194 rfl).ne f195 rfl).ne f196 rfl).ne f197 rfl).ne f198 rfl).ne f199 rfl).ne f200 rfl).ne f201 rfl).ne f202 rfl).ne f203 rfl).nw f204).ne f205 rfl).ne f206 rfl).ne f207 rfl).ne f208 rfl).ne f209 rfl).ne f210 rfl).ne f211 rfl).ne f212 rfl).ne f213 rfl).nw f214).ne f215 rfl).nw f216).ne f217 rfl).nw f218).ne f219 rfl).nw f220)
  have e190_220 := (f220.nw (f219.ne rfl (f218.nw (f217.ne rfl (f216.nw (f215.ne rfl (f214.nw (f213.ne rfl (f212.ne rfl (f211.ne rfl (f210.ne rfl (f209.ne rfl (f208.ne rfl (f207.ne rfl (f206.ne rfl (f205.ne rfl (f204.nw (f203.ne rfl (f202.ne rfl (f201.ne rfl (f200.ne rfl (f199.ne rfl (f198.ne rfl (f197.ne rfl (f196.ne rfl (f195.ne rfl (f194.ne rfl (f193.ne rfl (f192.ne rfl (f191.ne rfl (f190.ne rfl (f189.ne rfl (f188.ne rfl (f187.ne rfl (f186.ne rfl (f185.ne rfl (f184.ne rfl (f183.ne rfl (f182.ne rfl (f181.ne rfl (f180.ne rfl (f179.ne rfl (f178.ne rfl (f177.ne rfl (f176.ne rfl (f175.ne rfl (f174.ne rfl (f173.ne rfl (f172.ne rfl (f171.ne rfl (f170.ne rfl (f169.ne rfl (f168.ne rfl (f167.ne rfl (f166.ne rfl (f165.ne rfl (f164.ne rfl (f163.ne rfl (f162.ne rfl (f161.ne rfl (f160.ne rfl (f159.ne rfl (f158.ne rfl (f157.ne rfl (f156.ne rfl (f155.ne rfl (f154.ne rfl (f153.ne rfl (f152.ne rfl (f151.ne rfl (f150.ne rfl (f149.ne rfl (f148.ne rfl (f147.ne rfl (f146.ne rfl (f145.ne rfl (f144.ne rfl (f143.ne rfl (f142.ne rfl (f141.ne rfl (f140.ne rfl (f139.ne rfl (f138.nw (f137.ne rfl (f136.nw (f135.ne rfl (f134.nw (f133.ne rfl (f132.nw (f131.ne rfl (f130.nw (f129.ne rfl (f128.nw (f127.ne rfl (f126.nw (f125.ne rfl (f124.nw (f123.ne rfl (f122.ne rfl (f121.nw (f120.ne rfl (f119.nw (f118.ne rfl (f117.nw (f116.ne rfl (f115.nw (f114.ne rfl (f113.nw (f112.ne rfl (f111.nw (f110.ne rfl (f109.nw (f108.ne rfl (f107.nw (f106.ne rfl (f105.nw (f104.ne rfl (f103.nw (f102.ne rfl (f101.nw (f100.ne rfl (f99.nw (f98.ne rfl (f97.nw (f96.ne rfl (f95.nw (f94.ne rfl (f93.nw (f92.ne rfl (f91.ne rfl (f90.nw (f89.ne rfl (f88.nw (f87.ne rfl (f86.nw (f85.ne rfl (f84.nw (f83.ne rfl (f82.nw (f81.ne rfl (f80.nw (f79.ne rfl (f78.nw (f77.ne rfl (f76.nw (f75.ne rfl (f74.nw (f73.ne rfl (f72.nw (f71.ne rfl (f70.nw (f69.ne rfl (f68.nw (f67.ne rfl (f66.nw (f65.ne rfl (f64.nw (f63.nw (f62.ne rfl (f61.ne rfl (f60.ne rfl o59)))))))))))))))))))))))))))))))))))))))))))))))))))))))))))))))))))))))))))))))))))))))))))))))))))))))))))))))))))))))))))))))))))))))))))))))))))))))))))))))))
  have e191_220 := (o219.nw f220)
  have e192_220 := (f220.nw (f219.ne rfl (f218.nw (f217.ne rfl (f216.nw (f215.ne rfl (f214.nw (f213.ne rfl (f212.ne rfl (f211.ne rfl (f210.ne rfl (f209.ne rfl (f208.ne rfl (f207.ne rfl (f206.ne rfl (f205.ne rfl (f204.nw (f203.ne rfl (f202.ne rfl (f201.ne rfl (f200.ne rfl (f199.ne rfl (f198.ne rfl (f197.ne rfl (f196.ne rfl (f195.ne rfl (f194.ne rfl (f193.ne rfl (f192.ne rfl (f191.ne rfl (f190.ne rfl (f189.ne rfl (f188.ne rfl (f187.ne rfl (f186.ne rfl (f185.ne rfl (f184.ne rfl (f183.ne rfl (f182.ne rfl (f181.ne rfl (f180.ne rfl (f179.ne rfl (f178.ne rfl (f177.ne rfl (f176.ne rfl (f175.ne rfl (f174.ne rfl (f173.ne rfl (f172.ne rfl (f171.ne rfl (f170.ne rfl (f169.ne rfl (f168.ne rfl (f167.ne rfl (f166.ne rfl (f165.ne rfl (f164.ne rfl (f163.ne rfl (f162.ne rfl (f161.ne rfl (f160.ne rfl (f159.ne rfl (f158.ne rfl (f157.ne rfl (f156.ne rfl (f155.ne rfl (f154.ne rfl (f153.ne rfl (f152.ne rfl (f151.ne rfl (f150.ne rfl (f149.ne rfl (f148.ne rfl (f147.ne rfl (f146.ne rfl (f145.ne rfl (f144.ne rfl (f143.ne rfl (f142.ne rfl (f141.ne rfl (f140.ne rfl (f139.ne rfl (f138.nw (f137.ne rfl (f136.nw (f135.ne rfl (f134.nw (f133.ne rfl (f132.nw (f131.ne rfl (f130.nw (f129.ne rfl (f128.nw (f127.ne rfl (f126.nw (f125.ne rfl (f124.nw (f123.ne rfl (f122.ne rfl (f121.nw (f120.ne rfl (f119.nw (f118.ne rfl (f117.nw (f116.ne rfl (f115.nw (f114.ne rfl (f113.nw (f112.ne rfl (f111.nw (f110.ne rfl (f109.nw (f108.ne rfl (f107.nw (f106.ne rfl (f105.nw (f104.ne rfl (f103.nw (f102.ne rfl (f101.nw (f100.ne rfl (f99.nw (f98.ne rfl (f97.nw (f96.ne rfl (f95.nw (f94.ne rfl (f93.nw (f92.ne rfl (f91.ne rfl (f90.nw (f89.ne rfl (f88.nw (f87.ne rfl (f86.nw (f85.ne rfl (f84.nw (f83.ne rfl (f82.nw (f81.ne rfl (f80.nw (f79.ne rfl (f78.nw (f77.ne rfl (f76.nw (f75.ne rfl (f74.nw (f73.ne rfl (f72.nw (f71.ne rfl (f70.nw (f69.ne rfl (f68.nw (f67.ne rfl (f66.nw (f65.ne rfl o64))))))))))))))))))))))))))))))))))))))))))))))))))))))))))))))))))))))))))))))))))))))))))))))))))))))))))))))))))))))))))))))))))))))))))))))))))))))))))))
  have e193_220 := (f220.nw (f219.ne rfl (f218.nw (f217.ne rfl (f216.nw (f215.ne rfl (f214.nw (f213.ne rfl (f212.ne rfl (f211.ne rfl (f210.ne rfl (f209.ne rfl (f208.ne rfl (f207.ne rfl (f206.ne rfl (f205.ne rfl (f204.nw (f203.ne rfl (f202.ne rfl (f201.ne rfl (f200.ne rfl (f199.ne rfl (f198.ne rfl (f197.ne rfl (f196.ne rfl (f195.ne rfl (f194.ne rfl (f193.ne rfl (f192.ne rfl (f191.ne rfl (f190.ne rfl (f189.ne rfl (f188.ne rfl (f187.ne rfl (f186.ne rfl (f185.ne rfl (f184.ne rfl (f183.ne rfl (f182.ne rfl (f181.ne rfl (f180.ne rfl (f179.ne rfl (f178.ne rfl (f177.ne rfl (f176.ne rfl (f175.ne rfl (f174.ne rfl (f173.ne rfl (f172.ne rfl (f171.ne rfl (f170.ne rfl (f169.ne rfl (f168.ne rfl (f167.ne rfl (f166.ne rfl (f165.ne rfl (f164.ne rfl (f163.ne rfl (f162.ne rfl (f161.ne rfl (f160.ne rfl (f159.ne rfl (f158.ne rfl (f157.ne rfl (f156.ne rfl (f155.ne rfl (f154.ne rfl (f153.ne rfl (f152.ne rfl (f151.ne rfl (f150.ne rfl (f149.ne rfl (f148.ne rfl (f147.ne rfl (f146.ne rfl (f145.ne rfl (f144.ne rfl (f143.ne rfl (f142.ne rfl (f141.ne rfl (f140.ne rfl (f139.ne rfl (f138.nw (f137.ne rfl (f136.nw (f135.ne rfl (f134.nw (f133.ne rfl (f132.nw (f131.ne rfl (f130.nw (f129.ne rfl (f128.nw (f127.ne rfl (f126.nw (f125.ne rfl (f124.nw (f123.ne rfl (f122.ne rfl (f121.nw (f120.ne rfl (f119.nw (f118.ne rfl (f117.nw (f116.ne rfl (f115.nw (f114.ne rfl (f113.nw (f112.ne rfl (f111.nw (f110.ne rfl (f109.nw (f108.ne rfl (f107.nw (f106.ne rfl (f105.nw (f104.ne rfl (f103.nw (f102.ne rfl (f101.nw (f100.ne rfl (f99.nw (f98.ne rfl (f97.nw (f96.ne rfl (f95.nw (f94.ne rfl (f93.nw (f92.ne rfl (f91.ne rfl (f90.nw (f89.ne rfl (f88.nw (f87.ne rfl (f86.nw (f85.ne rfl (f84.nw (f83.ne rfl (f82.nw (f81.ne rfl (f80.nw (f79.ne rfl (f78.nw (f77.ne rfl (f76.nw (f75.ne rfl (f74.nw (f73.ne rfl (f72.nw (f71.ne rfl (f70.nw (f69.ne rfl (f68.nw (f67.ne rfl o66))))))))))))))))))))))))))))))))))))))))))))))))))))))))))))))))))))))))))))))))))))))))))))))))))))))))))))))))))))))))))))))))))))))))))))))))))))))))))
  have e194_220 := (f220.nw (f219.ne rfl (f218.nw (f217.ne rfl (f216.nw (f215.ne rfl (f214.nw (f213.ne rfl (f212.ne rfl (f211.ne rfl (f210.ne rfl (f209.ne rfl (f208.ne rfl (f207.ne rfl (f206.ne rfl (f205.ne rfl (f204.nw (f203.ne rfl (f202.ne rfl (f201.ne rfl (f200.ne rfl (f199.ne rfl (f198.ne rfl (f197.ne rfl (f196.ne rfl (f195.ne rfl (f194.ne rfl (f193.ne rfl (f192.ne rfl (f191.ne rfl (f190.ne rfl (f189.ne rfl (f188.ne rfl (f187.ne rfl (f186.ne rfl (f185.ne rfl (f184.ne rfl (f183.ne rfl (f182.ne rfl (f181.ne rfl (f180.ne rfl (f179.ne rfl (f178.ne rfl (f177.ne rfl (f176.ne rfl (f175.ne rfl (f174.ne rfl (f173.ne rfl (f172.ne rfl (f171.ne rfl (f170.ne rfl (f169.ne rfl (f168.ne rfl (f167.ne rfl (f166.ne rfl (f165.ne rfl (f164.ne rfl (f163.ne rfl (f162.ne rfl (f161.ne rfl (f160.ne rfl (f159.ne rfl (f158.ne rfl (f157.ne rfl (f156.ne rfl (f155.ne rfl (f154.ne rfl (f153.ne rfl (f152.ne rfl (f151.ne rfl (f150.ne rfl (f149.ne rfl (f148.ne rfl (f147.ne rfl (f146.ne rfl (f145.ne rfl (f144.ne rfl (f143.ne rfl (f142.ne rfl (f141.ne rfl (f140.ne rfl (f139.ne rfl (f138.nw (f137.ne rfl (f136.nw (f135.ne rfl (f134.nw (f133.ne rfl (f132.nw (f131.ne rfl (f130.nw (f129.ne rfl (f128.nw (f127.ne rfl (f126.nw (f125.ne rfl (f124.nw (f123.ne rfl (f122.ne rfl (f121.nw (f120.ne rfl (f119.nw (f118.ne rfl (f117.nw (f116.ne rfl (f115.nw (f114.ne rfl (f113.nw (f112.ne rfl (f111.nw (f110.ne rfl (f109.nw (f108.ne rfl (f107.nw (f106.ne rfl (f105.nw (f104.ne rfl (f103.nw (f102.ne rfl (f101.nw (f100.ne rfl (f99.nw (f98.ne rfl (f97.nw (f96.ne rfl (f95.nw (f94.ne rfl (f93.nw (f92.ne rfl (f91.ne rfl (f90.nw (f89.ne rfl (f88.nw (f87.ne rfl (f86.nw (f85.ne rfl (f84.nw (f83.ne rfl (f82.nw (f81.ne rfl (f80.nw (f79.ne rfl (f78.nw (f77.ne rfl (f76.nw (f75.ne rfl (f74.nw (f73.ne rfl (f72.nw (f71.ne rfl (f70.nw (f69.ne rfl o68))))))))))))))))))))))))))))))))))))))))))))))))))))))))))))))))))))))))))))))))))))))))))))))))))))))))))))))))))))))))))))))))))))))))))))))))))))))))
  have e195_220 := (f220.nw (f219.ne rfl (f218.nw (f217.ne rfl (f216.nw (f215.ne rfl (f214.nw (f213.ne rfl (f212.ne rfl (f211.ne rfl (f210.ne rfl (f209.ne rfl (f208.ne rfl (f207.ne rfl (f206.ne rfl (f205.ne rfl (f204.nw (f203.ne rfl (f202.ne rfl (f201.ne rfl (f200.ne rfl (f199.ne rfl (f198.ne rfl (f197.ne rfl (f196.ne rfl (f195.ne rfl (f194.ne rfl (f193.ne rfl (f192.ne rfl (f191.ne rfl (f190.ne rfl (f189.ne rfl (f188.ne rfl (f187.ne rfl (f186.ne rfl (f185.ne rfl (f184.ne rfl (f183.ne rfl (f182.ne rfl (f181.ne rfl (f180.ne rfl (f179.ne rfl (f178.ne rfl (f177.ne rfl (f176.ne rfl (f175.ne rfl (f174.ne rfl (f173.ne rfl (f172.ne rfl (f171.ne rfl (f170.ne rfl (f169.ne rfl (f168.ne rfl (f167.ne rfl (f166.ne rfl (f165.ne rfl (f164.ne rfl (f163.ne rfl (f162.ne rfl (f161.ne rfl (f160.ne rfl (f159.ne rfl (f158.ne rfl (f157.ne rfl (f156.ne rfl (f155.ne rfl (f154.ne rfl (f153.ne rfl (f152.ne rfl (f151.ne rfl (f150.ne rfl (f149.ne rfl (f148.ne rfl (f147.ne rfl (f146.ne rfl (f145.ne rfl (f144.ne rfl (f143.ne rfl (f142.ne rfl (f141.ne rfl (f140.ne rfl (f139.ne rfl (f138.nw (f137.ne rfl (f136.nw (f135.ne rfl (f134.nw (f133.ne rfl (f132.nw (f131.ne rfl (f130.nw (f129.ne rfl (f128.nw (f127.ne rfl (f126.nw (f125.ne rfl (f124.nw (f123.ne rfl (f122.ne rfl (f121.nw (f120.ne rfl (f119.nw (f118.ne rfl (f117.nw (f116.ne rfl (f115.nw (f114.ne rfl (f113.nw (f112.ne rfl (f111.nw (f110.ne rfl (f109.nw (f108.ne rfl (f107.nw (f106.ne rfl (f105.nw (f104.ne rfl (f103.nw (f102.ne rfl (f101.nw (f100.ne rfl (f99.nw (f98.ne rfl (f97.nw (f96.ne rfl (f95.nw (f94.ne rfl (f93.nw (f92.ne rfl (f91.ne rfl (f90.nw (f89.ne rfl (f88.nw (f87.ne rfl (f86.nw (f85.ne rfl (f84.nw (f83.ne rfl (f82.nw (f81.ne rfl (f80.nw (f79.ne rfl (f78.nw (f77.ne rfl (f76.nw (f75.ne rfl (f74.nw (f73.ne rfl (f72.nw (f71.ne rfl o70))))))))))))))))))))))))))))))))))))))))))))))))))))))))))))))))))))))))))))))))))))))))))))))))))))))))))))))))))))))))))))))))))))))))))))))))))))))
  have e196_220 := (f220.nw (f219.ne rfl (f218.nw (f217.ne rfl (f216.nw (f215.ne rfl (f214.nw (f213.ne rfl (f212.ne rfl (f211.ne rfl (f210.ne rfl (f209.ne rfl (f208.ne rfl (f207.ne rfl (f206.ne rfl (f205.ne rfl (f204.nw (f203.ne rfl (f202.ne rfl (f201.ne rfl (f200.ne rfl (f199.ne rfl (f198.ne rfl (f197.ne rfl (f196.ne rfl (f195.ne rfl (f194.ne rfl (f193.ne rfl (f192.ne rfl (f191.ne rfl (f190.ne rfl (f189.ne rfl (f188.ne rfl (f187.ne rfl (f186.ne rfl (f185.ne rfl (f184.ne rfl (f183.ne rfl (f182.ne rfl (f181.ne rfl (f180.ne rfl (f179.ne rfl (f178.ne rfl (f177.ne rfl (f176.ne rfl (f175.ne rfl (f174.ne rfl (f173.ne rfl (f172.ne rfl (f171.ne rfl (f170.ne rfl (f169.ne rfl (f168.ne rfl (f167.ne rfl (f166.ne rfl (f165.ne rfl (f164.ne rfl (f163.ne rfl (f162.ne rfl (f161.ne rfl (f160.ne rfl (f159.ne rfl (f158.ne rfl (f157.ne rfl (f156.ne rfl (f155.ne rfl (f154.ne rfl (f153.ne rfl (f152.ne rfl (f151.ne rfl (f150.ne rfl (f149.ne rfl (f148.ne rfl (f147.ne rfl (f146.ne rfl (f145.ne rfl (f144.ne rfl (f143.ne rfl (f142.ne rfl (f141.ne rfl (f140.ne rfl (f139.ne rfl (f138.nw (f137.ne rfl (f136.nw (f135.ne rfl (f134.nw (f133.ne rfl (f132.nw (f131.ne rfl (f130.nw (f129.ne rfl (f128.nw (f127.ne rfl (f126.nw (f125.ne rfl (f124.nw (f123.ne rfl (f122.ne rfl (f121.nw (f120.ne rfl (f119.nw (f118.ne rfl (f117.nw (f116.ne rfl (f115.nw (f114.ne rfl (f113.nw (f112.ne rfl (f111.nw (f110.ne rfl (f109.nw (f108.ne rfl (f107.nw (f106.ne rfl (f105.nw (f104.ne rfl (f103.nw (f102.ne rfl (f101.nw (f100.ne rfl (f99.nw (f98.ne rfl (f97.nw (f96.ne rfl (f95.nw (f94.ne rfl (f93.nw (f92.ne rfl (f91.ne rfl (f90.nw (f89.ne rfl (f88.nw (f87.ne rfl (f86.nw (f85.ne rfl (f84.nw (f83.ne rfl (f82.nw (f81.ne rfl (f80.nw (f79.ne rfl (f78.nw (f77.ne rfl (f76.nw (f75.ne rfl (f74.nw (f73.ne rfl o72))))))))))))))))))))))))))))))))))))))))))))))))))))))))))))))))))))))))))))))))))))))))))))))))))))))))))))))))))))))))))))))))))))))))))))))))))))
  have e197_220 := (f220.nw (f219.ne rfl (f218.nw (f217.ne rfl (f216.nw (f215.ne rfl (f214.nw (f213.ne rfl (f212.ne rfl (f211.ne rfl (f210.ne rfl (f209.ne rfl (f208.ne rfl (f207.ne rfl (f206.ne rfl (f205.ne rfl (f204.nw (f203.ne rfl (f202.ne rfl (f201.ne rfl (f200.ne rfl (f199.ne rfl (f198.ne rfl (f197.ne rfl (f196.ne rfl (f195.ne rfl (f194.ne rfl (f193.ne rfl (f192.ne rfl (f191.ne rfl (f190.ne rfl (f189.ne rfl (f188.ne rfl (f187.ne rfl (f186.ne rfl (f185.ne rfl (f184.ne rfl (f183.ne rfl (f182.ne rfl (f181.ne rfl (f180.ne rfl (f179.ne rfl (f178.ne rfl (f177.ne rfl (f176.ne rfl (f175.ne rfl (f174.ne rfl (f173.ne rfl (f172.ne rfl (f171.ne rfl (f170.ne rfl (f169.ne rfl (f168.ne rfl (f167.ne rfl (f166.ne rfl (f165.ne rfl (f164.ne rfl (f163.ne rfl (f162.ne rfl (f161.ne rfl (f160.ne rfl (f159.ne rfl (f158.ne rfl (f157.ne rfl (f156.ne rfl (f155.ne rfl (f154.ne rfl (f153.ne rfl (f152.ne rfl (f151.ne rfl (f150.ne rfl (f149.ne rfl (f148.ne rfl (f147.ne rfl (f146.ne rfl (f145.ne rfl (f144.ne rfl (f143.ne rfl (f142.ne rfl (f141.ne rfl (f140.ne rfl (f139.ne rfl (f138.nw (f137.ne rfl (f136.nw (f135.ne rfl (f134.nw (f133.ne rfl (f132.nw (f131.ne rfl (f130.nw (f129.ne rfl (f128.nw (f127.ne rfl (f126.nw (f125.ne rfl (f124.nw (f123.ne rfl (f122.ne rfl (f121.nw (f120.ne rfl (f119.nw (f118.ne rfl (f117.nw (f116.ne rfl (f115.nw (f114.ne rfl (f113.nw (f112.ne rfl (f111.nw (f110.ne rfl (f109.nw (f108.ne rfl (f107.nw (f106.ne rfl (f105.nw (f104.ne rfl (f103.nw (f102.ne rfl (f101.nw (f100.ne rfl (f99.nw (f98.ne rfl (f97.nw (f96.ne rfl (f95.nw (f94.ne rfl (f93.nw (f92.ne rfl (f91.ne rfl (f90.nw (f89.ne rfl (f88.nw (f87.ne rfl (f86.nw (f85.ne rfl (f84.nw (f83.ne rfl (f82.nw (f81.ne rfl (f80.nw (f79.ne rfl (f78.nw (f77.ne rfl (f76.nw (f75.ne rfl o74))))))))))))))))))))))))))))))))))))))))))))))))))))))))))))))))))))))))))))))))))))))))))))))))))))))))))))))))))))))))))))))))))))))))))))))))))
  have e198_220 := (f220.nw (f219.ne rfl (f218.nw (f217.ne rfl (f216.nw (f215.ne rfl (f214.nw (f213.ne rfl (f212.ne rfl (f211.ne rfl (f210.ne rfl (f209.ne rfl (f208.ne rfl (f207.ne rfl (f206.ne rfl (f205.ne rfl (f204.nw (f203.ne rfl (f202.ne rfl (f201.ne rfl (f200.ne rfl (f199.ne rfl (f198.ne rfl (f197.ne rfl (f196.ne rfl (f195.ne rfl (f194.ne rfl (f193.ne rfl (f192.ne rfl (f191.ne rfl (f190.ne rfl (f189.ne rfl (f188.ne rfl (f187.ne rfl (f186.ne rfl (f185.ne rfl (f184.ne rfl (f183.ne rfl (f182.ne rfl (f181.ne rfl (f180.ne rfl (f179.ne rfl (f178.ne rfl (f177.ne rfl (f176.ne rfl (f175.ne rfl (f174.ne rfl (f173.ne rfl (f172.ne rfl (f171.ne rfl (f170.ne rfl (f169.ne rfl (f168.ne rfl (f167.ne rfl (f166.ne rfl (f165.ne rfl (f164.ne rfl (f163.ne rfl (f162.ne rfl (f161.ne rfl (f160.ne rfl (f159.ne rfl (f158.ne rfl (f157.ne rfl (f156.ne rfl (f155.ne rfl (f154.ne rfl (f153.ne rfl (f152.ne rfl (f151.ne rfl (f150.ne rfl (f149.ne rfl (f148.ne rfl (f147.ne rfl (f146.ne rfl (f145.ne rfl (f144.ne rfl (f143.ne rfl (f142.ne rfl (f141.ne rfl (f140.ne rfl (f139.ne rfl (f138.nw (f137.ne rfl (f136.nw (f135.ne rfl (f134.nw (f133.ne rfl (f132.nw (f131.ne rfl (f130.nw (f129.ne rfl (f128.nw (f127.ne rfl (f126.nw (f125.ne rfl (f124.nw (f123.ne rfl (f122.ne rfl (f121.nw (f120.ne rfl (f119.nw (f118.ne rfl (f117.nw (f116.ne rfl (f115.nw (f114.ne rfl (f113.nw (f112.ne rfl (f111.nw (f110.ne rfl (f109.nw (f108.ne rfl (f107.nw (f106.ne rfl (f105.nw (f104.ne rfl (f103.nw (f102.ne rfl (f101.nw (f100.ne rfl (f99.nw (f98.ne rfl (f97.nw (f96.ne rfl (f95.nw (f94.ne rfl (f93.nw (f92.ne rfl (f91.ne rfl (f90.nw (f89.ne rfl (f88.nw (f87.ne rfl (f86.nw (f85.ne rfl (f84.nw (f83.ne rfl (f82.nw (f81.ne rfl (f80.nw (f79.ne rfl (f78.nw (f77.ne rfl o76))))))))))))))))))))))))))))))))))))))))))))))))))))))))))))))))))))))))))))))))))))))))))))))))))))))))))))))))))))))))))))))))))))))))))))))))
  have e199_220 := (f220.nw (f219.ne rfl (f218.nw (f217.ne rfl (f216.nw (f215.ne rfl (f214.nw (f213.ne rfl (f212.ne rfl (f211.ne rfl (f210.ne rfl (f209.ne rfl (f208.ne rfl (f207.ne rfl (f206.ne rfl (f205.ne rfl (f204.nw (f203.ne rfl (f202.ne rfl (f201.ne rfl (f200.ne rfl (f199.ne rfl (f198.ne rfl (f197.ne rfl (f196.ne rfl (f195.ne rfl (f194.ne rfl (f193.ne rfl (f192.ne rfl (f191.ne rfl (f190.ne rfl (f189.ne rfl (f188.ne rfl (f187.ne rfl (f186.ne rfl (f185.ne rfl (f184.ne rfl (f183.ne rfl (f182.ne rfl (f181.ne rfl (f180.ne rfl (f179.ne rfl (f178.ne rfl (f177.ne rfl (f176.ne rfl (f175.ne rfl (f174.ne rfl (f173.ne rfl (f172.ne rfl (f171.ne rfl (f170.ne rfl (f169.ne rfl (f168.ne rfl (f167.ne rfl (f166.ne rfl (f165.ne rfl (f164.ne rfl (f163.ne rfl (f162.ne rfl (f161.ne rfl (f160.ne rfl (f159.ne rfl (f158.ne rfl (f157.ne rfl (f156.ne rfl (f155.ne rfl (f154.ne rfl (f153.ne rfl (f152.ne rfl (f151.ne rfl (f150.ne rfl (f149.ne rfl (f148.ne rfl (f147.ne rfl (f146.ne rfl (f145.ne rfl (f144.ne rfl (f143.ne rfl (f142.ne rfl (f141.ne rfl (f140.ne rfl (f139.ne rfl (f138.nw (f137.ne rfl (f136.nw (f135.ne rfl (f134.nw (f133.ne rfl (f132.nw (f131.ne rfl (f130.nw (f129.ne rfl (f128.nw (f127.ne rfl (f126.nw (f125.ne rfl (f124.nw (f123.ne rfl (f122.ne rfl (f121.nw (f120.ne rfl (f119.nw (f118.ne rfl (f117.nw (f116.ne rfl (f115.nw (f114.ne rfl (f113.nw (f112.ne rfl (f111.nw (f110.ne rfl (f109.nw (f108.ne rfl (f107.nw (f106.ne rfl (f105.nw (f104.ne rfl (f103.nw (f102.ne rfl (f101.nw (f100.ne rfl (f99.nw (f98.ne rfl (f97.nw (f96.ne rfl (f95.nw (f94.ne rfl (f93.nw (f92.ne rfl (f91.ne rfl (f90.nw (f89.ne rfl (f88.nw (f87.ne rfl (f86.nw (f85.ne rfl (f84.nw (f83.ne rfl (f82.nw (f81.ne rfl (f80.nw (f79.ne rfl o78))))))))))))))))))))))))))))))))))))))))))))))))))))))))))))))))))))))))))))))))))))))))))))))))))))))))))))))))))))))))))))))))))))))))))))))
  have e200_220 := (f220.nw (f219.ne rfl (f218.nw (f217.ne rfl (f216.nw (f215.ne rfl (f214.nw (f213.ne rfl (f212.ne rfl (f211.ne rfl (f210.ne rfl (f209.ne rfl (f208.ne rfl (f207.ne rfl (f206.ne rfl (f205.ne rfl (f204.nw (f203.ne rfl (f202.ne rfl (f201.ne rfl (f200.ne rfl (f199.ne rfl (f198.ne rfl (f197.ne rfl (f196.ne rfl (f195.ne rfl (f194.ne rfl (f193.ne rfl (f192.ne rfl (f191.ne rfl (f190.ne rfl (f189.ne rfl (f188.ne rfl (f187.ne rfl (f186.ne rfl (f185.ne rfl (f184.ne rfl (f183.ne rfl (f182.ne rfl (f181.ne rfl (f180.ne rfl (f179.ne rfl (f178.ne rfl (f177.ne rfl (f176.ne rfl (f175.ne rfl (f174.ne rfl (f173.ne rfl (f172.ne rfl (f171.ne rfl (f170.ne rfl (f169.ne rfl (f168.ne rfl (f167.ne rfl (f166.ne rfl (f165.ne rfl (f164.ne rfl (f163.ne rfl (f162.ne rfl (f161.ne rfl (f160.ne rfl (f159.ne rfl (f158.ne rfl (f157.ne rfl (f156.ne rfl (f155.ne rfl (f154.ne rfl (f153.ne rfl (f152.ne rfl (f151.ne rfl (f150.ne rfl (f149.ne rfl (f148.ne rfl (f147.ne rfl (f146.ne rfl (f145.ne rfl (f144.ne rfl (f143.ne rfl (f142.ne rfl (f141.ne rfl (f140.ne rfl (f139.ne rfl (f138.nw (f137.ne rfl (f136.nw (f135.ne rfl (f134.nw (f133.ne rfl (f132.nw (f131.ne rfl (f130.nw (f129.ne rfl (f128.nw (f127.ne rfl (f126.nw (f125.ne rfl (f124.nw (f123.ne rfl (f122.ne rfl (f121.nw (f120.ne rfl (f119.nw (f118.ne rfl (f117.nw (f116.ne rfl (f115.nw (f114.ne rfl (f113.nw (f112.ne rfl (f111.nw (f110.ne rfl (f109.nw (f108.ne rfl (f107.nw (f106.ne rfl (f105.nw (f104.ne rfl (f103.nw (f102.ne rfl (f101.nw (f100.ne rfl (f99.nw (f98.ne rfl (f97.nw (f96.ne rfl (f95.nw (f94.ne rfl (f93.nw (f92.ne rfl (f91.ne rfl (f90.nw (f89.ne rfl (f88.nw (f87.ne rfl (f86.nw (f85.ne rfl (f84.nw (f83.ne rfl (f82.nw (f81.ne rfl o80))))))))))))))))))))))))))))))))))))))))))))))))))))))))))))))))))))))))))))))))))))))))))))))))))))))))))))))))))))))))))))))))))))))))))))
  have e201_220 := (f220.nw (f219.ne rfl (f218.nw (f217.ne rfl (f216.nw (f215.ne rfl (f214.nw (f213.ne rfl (f212.ne rfl (f211.ne rfl (f210.ne rfl (f209.ne rfl (f208.ne rfl (f207.ne rfl (f206.ne rfl (f205.ne rfl (f204.nw (f203.ne rfl (f202.ne rfl (f201.ne rfl (f200.ne rfl (f199.ne rfl (f198.ne rfl (f197.ne rfl (f196.ne rfl (f195.ne rfl (f194.ne rfl (f193.ne rfl (f192.ne rfl (f191.ne rfl (f190.ne rfl (f189.ne rfl (f188.ne rfl (f187.ne rfl (f186.ne rfl (f185.ne rfl (f184.ne rfl (f183.ne rfl (f182.ne rfl (f181.ne rfl (f180.ne rfl (f179.ne rfl (f178.ne rfl (f177.ne rfl (f176.ne rfl (f175.ne rfl (f174.ne rfl (f173.ne rfl (f172.ne rfl (f171.ne rfl (f170.ne rfl (f169.ne rfl (f168.ne rfl (f167.ne rfl (f166.ne rfl (f165.ne rfl (f164.ne rfl (f163.ne rfl (f162.ne rfl (f161.ne rfl (f160.ne rfl (f159.ne rfl (f158.ne rfl (f157.ne rfl (f156.ne rfl (f155.ne rfl (f154.ne rfl (f153.ne rfl (f152.ne rfl (f151.ne rfl (f150.ne rfl (f149.ne rfl (f148.ne rfl (f147.ne rfl (f146.ne rfl (f145.ne rfl (f144.ne rfl (f143.ne rfl (f142.ne rfl (f141.ne rfl (f140.ne rfl (f139.ne rfl (f138.nw (f137.ne rfl (f136.nw (f135.ne rfl (f134.nw (f133.ne rfl (f132.nw (f131.ne rfl (f130.nw (f129.ne rfl (f128.nw (f127.ne rfl (f126.nw (f125.ne rfl (f124.nw (f123.ne rfl (f122.ne rfl (f121.nw (f120.ne rfl (f119.nw (f118.ne rfl (f117.nw (f116.ne rfl (f115.nw (f114.ne rfl (f113.nw (f112.ne rfl (f111.nw (f110.ne rfl (f109.nw (f108.ne rfl (f107.nw (f106.ne rfl (f105.nw (f104.ne rfl (f103.nw (f102.ne rfl (f101.nw (f100.ne rfl (f99.nw (f98.ne rfl (f97.nw (f96.ne rfl (f95.nw (f94.ne rfl (f93.nw (f92.ne rfl (f91.ne rfl (f90.nw (f89.ne rfl (f88.nw (f87.ne rfl (f86.nw (f85.ne rfl (f84.nw (f83.ne rfl o82))))))))))))))))))))))))))))))))))))))))))))))))))))))))))))))))))))))))))))))))))))))))))))))))))))))))))))))))))))))))))))))))))))))))))
  have e202_220 := (f220.nw (f219.ne rfl (f218.nw (f217.ne rfl (f216.nw (f215.ne rfl (f214.nw (f213.ne rfl (f212.ne rfl (f211.ne rfl (f210.ne rfl (f209.ne rfl (f208.ne rfl (f207.ne rfl (f206.ne rfl (f205.ne rfl (f204.nw (f203.ne rfl (f202.ne rfl (f201.ne rfl (f200.ne rfl (f199.ne rfl (f198.ne rfl (f197.ne rfl (f196.ne rfl (f195.ne rfl (f194.ne rfl (f193.ne rfl (f192.ne rfl (f191.ne rfl (f190.ne rfl (f189.ne rfl (f188.ne rfl (f187.ne rfl (f186.ne rfl (f185.ne rfl (f184.ne rfl (f183.ne rfl (f182.ne rfl (f181.ne rfl (f180.ne rfl (f179.ne rfl (f178.ne rfl (f177.ne rfl (f176.ne rfl (f175.ne rfl (f174.ne rfl (f173.ne rfl (f172.ne rfl (f171.ne rfl (f170.ne rfl (f169.ne rfl (f168.ne rfl (f167.ne rfl (f166.ne rfl (f165.ne rfl (f164.ne rfl (f163.ne rfl (f162.ne rfl (f161.ne rfl (f160.ne rfl (f159.ne rfl (f158.ne rfl (f157.ne rfl (f156.ne rfl (f155.ne rfl (f154.ne rfl (f153.ne rfl (f152.ne rfl (f151.ne rfl (f150.ne rfl (f149.ne rfl (f148.ne rfl (f147.ne rfl (f146.ne rfl (f145.ne rfl (f144.ne rfl (f143.ne rfl (f142.ne rfl (f141.ne rfl (f140.ne rfl (f139.ne rfl (f138.nw (f137.ne rfl (f136.nw (f135.ne rfl (f134.nw (f133.ne rfl (f132.nw (f131.ne rfl (f130.nw (f129.ne rfl (f128.nw (f127.ne rfl (f126.nw (f125.ne rfl (f124.nw (f123.ne rfl (f122.ne rfl (f121.nw (f120.ne rfl (f119.nw (f118.ne rfl (f117.nw (f116.ne rfl (f115.nw (f114.ne rfl (f113.nw (f112.ne rfl (f111.nw (f110.ne rfl (f109.nw (f108.ne rfl (f107.nw (f106.ne rfl (f105.nw (f104.ne rfl (f103.nw (f102.ne rfl (f101.nw (f100.ne rfl (f99.nw (f98.ne rfl (f97.nw (f96.ne rfl (f95.nw (f94.ne rfl (f93.nw (f92.ne rfl (f91.ne rfl (f90.nw (f89.ne rfl (f88.nw (f87.ne rfl (f86.nw (f85.ne rfl o84))))))))))))))))))))))))))))))))))))))))))))))))))))))))))))))))))))))))))))))))))))))))))))))))))))))))))))))))))))))))))))))))))))))))
  have e203_220 := (f220.nw (f219.ne rfl (f218.nw (f217.ne rfl (f216.nw (f215.ne rfl (f214.nw (f213.ne rfl (f212.ne rfl (f211.ne rfl (f210.ne rfl (f209.ne rfl (f208.ne rfl (f207.ne rfl (f206.ne rfl (f205.ne rfl (f204.nw (f203.ne rfl (f202.ne rfl (f201.ne rfl (f200.ne rfl (f199.ne rfl (f198.ne rfl (f197.ne rfl (f196.ne rfl (f195.ne rfl (f194.ne rfl (f193.ne rfl (f192.ne rfl (f191.ne rfl (f190.ne rfl (f189.ne rfl (f188.ne rfl (f187.ne rfl (f186.ne rfl (f185.ne rfl (f184.ne rfl (f183.ne rfl (f182.ne rfl (f181.ne rfl (f180.ne rfl (f179.ne rfl (f178.ne rfl (f177.ne rfl (f176.ne rfl (f175.ne rfl (f174.ne rfl (f173.ne rfl (f172.ne rfl (f171.ne rfl (f170.ne rfl (f169.ne rfl (f168.ne rfl (f167.ne rfl (f166.ne rfl (f165.ne rfl (f164.ne rfl (f163.ne rfl (f162.ne rfl (f161.ne rfl (f160.ne rfl (f159.ne rfl (f158.ne rfl (f157.ne rfl (f156.ne rfl (f155.ne rfl (f154.ne rfl (f153.ne rfl (f152.ne rfl (f151.ne rfl (f150.ne rfl (f149.ne rfl (f148.ne rfl (f147.ne rfl (f146.ne rfl (f145.ne rfl (f144.ne rfl (f143.ne rfl (f142.ne rfl (f141.ne rfl (f140.ne rfl (f139.ne rfl (f138.nw (f137.ne rfl (f136.nw (f135.ne rfl (f134.nw (f133.ne rfl (f132.nw (f131.ne rfl (f130.nw (f129.ne rfl (f128.nw (f127.ne rfl (f126.nw (f125.ne rfl (f124.nw (f123.ne rfl (f122.ne rfl (f121.nw (f120.ne rfl (f119.nw (f118.ne rfl (f117.nw (f116.ne rfl (f115.nw (f114.ne rfl (f113.nw (f112.ne rfl (f111.nw (f110.ne rfl (f109.nw (f108.ne rfl (f107.nw (f106.ne rfl (f105.nw (f104.ne rfl (f103.nw (f102.ne rfl (f101.nw (f100.ne rfl (f99.nw (f98.ne rfl (f97.nw (f96.ne rfl (f95.nw (f94.ne rfl (f93.nw (f92.ne rfl (f91.ne rfl (f90.nw (f89.ne rfl (f88.nw (f87.ne rfl o86))))))))))))))))))))))))))))))))))))))))))))))))))))))))))))))))))))))))))))))))))))))))))))))))))))))))))))))))))))))))))))))))))))))
  have e204_220 := (f220.nw (f219.ne rfl (f218.nw (f217.ne rfl (f216.nw (f215.ne rfl (f214.nw (f213.ne rfl (f212.ne rfl (f211.ne rfl (f210.ne rfl (f209.ne rfl (f208.ne rfl (f207.ne rfl (f206.ne rfl (f205.ne rfl (f204.nw (f203.ne rfl (f202.ne rfl (f201.ne rfl (f200.ne rfl (f199.ne rfl (f198.ne rfl (f197.ne rfl (f196.ne rfl (f195.ne rfl (f194.ne rfl (f193.ne rfl (f192.ne rfl (f191.ne rfl (f190.ne rfl (f189.ne rfl (f188.ne rfl (f187.ne rfl (f186.ne rfl (f185.ne rfl (f184.ne rfl (f183.ne rfl (f182.ne rfl (f181.ne rfl (f180.ne rfl (f179.ne rfl (f178.ne rfl (f177.ne rfl (f176.ne rfl (f175.ne rfl (f174.ne rfl (f173.ne rfl (f172.ne rfl (f171.ne rfl (f170.ne rfl (f169.ne rfl (f168.ne rfl (f167.ne rfl (f166.ne rfl (f165.ne rfl (f164.ne rfl (f163.ne rfl (f162.ne rfl (f161.ne rfl (f160.ne rfl (f159.ne rfl (f158.ne rfl (f157.ne rfl (f156.ne rfl (f155.ne rfl (f154.ne rfl (f153.ne rfl (f152.ne rfl (f151.ne rfl (f150.ne rfl (f149.ne rfl (f148.ne rfl (f147.ne rfl (f146.ne rfl (f145.ne rfl (f144.ne rfl (f143.ne rfl (f142.ne rfl (f141.ne rfl (f140.ne rfl (f139.ne rfl (f138.nw (f137.ne rfl (f136.nw (f135.ne rfl (f134.nw (f133.ne rfl (f132.nw (f131.ne rfl (f130.nw (f129.ne rfl (f128.nw (f127.ne rfl (f126.nw (f125.ne rfl (f124.nw (f123.ne rfl (f122.ne rfl (f121.nw (f120.ne rfl (f119.nw (f118.ne rfl (f117.nw (f116.ne rfl (f115.nw (f114.ne rfl (f113.nw (f112.ne rfl (f111.nw (f110.ne rfl (f109.nw (f108.ne rfl (f107.nw (f106.ne rfl (f105.nw (f104.ne rfl (f103.nw (f102.ne rfl (f101.nw (f100.ne rfl (f99.nw (f98.ne rfl (f97.nw (f96.ne rfl (f95.nw (f94.ne rfl (f93.nw (f92.ne rfl (f91.ne rfl (f90.nw (f89.ne rfl o88))))))))))))))))))))))))))))))))))))))))))))))))))))))))))))))))))))))))))))))))))))))))))))))))))))))))))))))))))))))))))))))))))))
  have e205_220 := (f220.nw (f219.ne rfl (f218.nw (f217.ne rfl (f216.nw (f215.ne rfl (f214.nw (f213.ne rfl (f212.ne rfl (f211.ne rfl (f210.ne rfl (f209.ne rfl (f208.ne rfl (f207.ne rfl (f206.ne rfl (f205.ne rfl (f204.nw (f203.ne rfl (f202.ne rfl (f201.ne rfl (f200.ne rfl (f199.ne rfl (f198.ne rfl (f197.ne rfl (f196.ne rfl (f195.ne rfl (f194.ne rfl (f193.ne rfl (f192.ne rfl (f191.ne rfl (f190.ne rfl (f189.ne rfl (f188.ne rfl (f187.ne rfl (f186.ne rfl (f185.ne rfl (f184.ne rfl (f183.ne rfl (f182.ne rfl (f181.ne rfl (f180.ne rfl (f179.ne rfl (f178.ne rfl (f177.ne rfl (f176.ne rfl (f175.ne rfl (f174.ne rfl (f173.ne rfl (f172.ne rfl (f171.ne rfl (f170.ne rfl (f169.ne rfl (f168.ne rfl (f167.ne rfl (f166.ne rfl (f165.ne rfl (f164.ne rfl (f163.ne rfl (f162.ne rfl (f161.ne rfl (f160.ne rfl (f159.ne rfl (f158.ne rfl (f157.ne rfl (f156.ne rfl (f155.ne rfl (f154.ne rfl (f153.ne rfl (f152.ne rfl (f151.ne rfl (f150.ne rfl (f149.ne rfl (f148.ne rfl (f147.ne rfl (f146.ne rfl (f145.ne rfl (f144.ne rfl (f143.ne rfl (f142.ne rfl (f141.ne rfl (f140.ne rfl (f139.ne rfl (f138.nw (f137.ne rfl (f136.nw (f135.ne rfl (f134.nw (f133.ne rfl (f132.nw (f131.ne rfl (f130.nw (f129.ne rfl (f128.nw (f127.ne rfl (f126.nw (f125.ne rfl (f124.nw (f123.ne rfl (f122.ne rfl (f121.nw (f120.ne rfl (f119.nw (f118.ne rfl (f117.nw (f116.ne rfl (f115.nw (f114.ne rfl (f113.nw (f112.ne rfl (f111.nw (f110.ne rfl (f109.nw (f108.ne rfl (f107.nw (f106.ne rfl (f105.nw (f104.ne rfl (f103.nw (f102.ne rfl (f101.nw (f100.ne rfl (f99.nw (f98.ne rfl (f97.nw (f96.ne rfl (f95.nw (f94.ne rfl (f93.nw (f92.ne rfl (f91.ne rfl o90))))))))))))))))))))))))))))))))))))))))))))))))))))))))))))))))))))))))))))))))))))))))))))))))))))))))))))))))))))))))))))))))))
  have e206_220 := (f220.nw (f219.ne rfl (f218.nw (f217.ne rfl (f216.nw (f215.ne rfl (f214.nw (f213.ne rfl (f212.ne rfl (f211.ne rfl (f210.ne rfl (f209.ne rfl (f208.ne rfl (f207.ne rfl (f206.ne rfl (f205.ne rfl (f204.nw (f203.ne rfl (f202.ne rfl (f201.ne rfl (f200.ne rfl (f199.ne rfl (f198.ne rfl (f197.ne rfl (f196.ne rfl (f195.ne rfl (f194.ne rfl (f193.ne rfl (f192.ne rfl (f191.ne rfl (f190.ne rfl (f189.ne rfl (f188.ne rfl (f187.ne rfl (f186.ne rfl (f185.ne rfl (f184.ne rfl (f183.ne rfl (f182.ne rfl (f181.ne rfl (f180.ne rfl (f179.ne rfl (f178.ne rfl (f177.ne rfl (f176.ne rfl (f175.ne rfl (f174.ne rfl (f173.ne rfl (f172.ne rfl (f171.ne rfl (f170.ne rfl (f169.ne rfl (f168.ne rfl (f167.ne rfl (f166.ne rfl (f165.ne rfl (f164.ne rfl (f163.ne rfl (f162.ne rfl (f161.ne rfl (f160.ne rfl (f159.ne rfl (f158.ne rfl (f157.ne rfl (f156.ne rfl (f155.ne rfl (f154.ne rfl (f153.ne rfl (f152.ne rfl (f151.ne rfl (f150.ne rfl (f149.ne rfl (f148.ne rfl (f147.ne rfl (f146.ne rfl (f145.ne rfl (f144.ne rfl (f143.ne rfl (f142.ne rfl (f141.ne rfl (f140.ne rfl (f139.ne rfl (f138.nw (f137.ne rfl (f136.nw (f135.ne rfl (f134.nw (f133.ne rfl (f132.nw (f131.ne rfl (f130.nw (f129.ne rfl (f128.nw (f127.ne rfl (f126.nw (f125.ne rfl (f124.nw (f123.ne rfl (f122.ne rfl (f121.nw (f120.ne rfl (f119.nw (f118.ne rfl (f117.nw (f116.ne rfl (f115.nw (f114.ne rfl (f113.nw (f112.ne rfl (f111.nw (f110.ne rfl (f109.nw (f108.ne rfl (f107.nw (f106.ne rfl (f105.nw (f104.ne rfl (f103.nw (f102.ne rfl (f101.nw (f100.ne rfl (f99.nw (f98.ne rfl (f97.nw (f96.ne rfl (f95.nw (f94.ne rfl o93)))))))))))))))))))))))))))))))))))))))))))))))))))))))))))))))))))))))))))))))))))))))))))))))))))))))))))))))))))))))))))))))
  have e207_220 := (f220.nw (f219.ne rfl (f218.nw (f217.ne rfl (f216.nw (f215.ne rfl (f214.nw (f213.ne rfl (f212.ne rfl (f211.ne rfl (f210.ne rfl (f209.ne rfl (f208.ne rfl (f207.ne rfl (f206.ne rfl (f205.ne rfl (f204.nw (f203.ne rfl (f202.ne rfl (f201.ne rfl (f200.ne rfl (f199.ne rfl (f198.ne rfl (f197.ne rfl (f196.ne rfl (f195.ne rfl (f194.ne rfl (f193.ne rfl (f192.ne rfl (f191.ne rfl (f190.ne rfl (f189.ne rfl (f188.ne rfl (f187.ne rfl (f186.ne rfl (f185.ne rfl (f184.ne rfl (f183.ne rfl (f182.ne rfl (f181.ne rfl (f180.ne rfl (f179.ne rfl (f178.ne rfl (f177.ne rfl (f176.ne rfl (f175.ne rfl (f174.ne rfl (f173.ne rfl (f172.ne rfl (f171.ne rfl (f170.ne rfl (f169.ne rfl (f168.ne rfl (f167.ne rfl (f166.ne rfl (f165.ne rfl (f164.ne rfl (f163.ne rfl (f162.ne rfl (f161.ne rfl (f160.ne rfl (f159.ne rfl (f158.ne rfl (f157.ne rfl (f156.ne rfl (f155.ne rfl (f154.ne rfl (f153.ne rfl (f152.ne rfl (f151.ne rfl (f150.ne rfl (f149.ne rfl (f148.ne rfl (f147.ne rfl (f146.ne rfl (f145.ne rfl (f144.ne rfl (f143.ne rfl (f142.ne rfl (f141.ne rfl (f140.ne rfl (f139.ne rfl (f138.nw (f137.ne rfl (f136.nw (f135.ne rfl (f134.nw (f133.ne rfl (f132.nw (f131.ne rfl (f130.nw (f129.ne rfl (f128.nw (f127.ne rfl (f126.nw (f125.ne rfl (f124.nw (f123.ne rfl (f122.ne rfl (f121.nw (f120.ne rfl (f119.nw (f118.ne rfl (f117.nw (f116.ne rfl (f115.nw (f114.ne rfl (f113.nw (f112.ne rfl (f111.nw (f110.ne rfl (f109.nw (f108.ne rfl (f107.nw (f106.ne rfl (f105.nw (f104.ne rfl (f103.nw (f102.ne rfl (f101.nw (f100.ne rfl (f99.nw (f98.ne rfl (f97.nw (f96.ne rfl o95)))))))))))))))))))))))))))))))))))))))))))))))))))))))))))))))))))))))))))))))))))))))))))))))))))))))))))))))))))))))))))))
  have e208_220 := (f220.nw (f219.ne rfl (f218.nw (f217.ne rfl (f216.nw (f215.ne rfl (f214.nw (f213.ne rfl (f212.ne rfl (f211.ne rfl (f210.ne rfl (f209.ne rfl (f208.ne rfl (f207.ne rfl (f206.ne rfl (f205.ne rfl (f204.nw (f203.ne rfl (f202.ne rfl (f201.ne rfl (f200.ne rfl (f199.ne rfl (f198.ne rfl (f197.ne rfl (f196.ne rfl (f195.ne rfl (f194.ne rfl (f193.ne rfl (f192.ne rfl (f191.ne rfl (f190.ne rfl (f189.ne rfl (f188.ne rfl (f187.ne rfl (f186.ne rfl (f185.ne rfl (f184.ne rfl (f183.ne rfl (f182.ne rfl (f181.ne rfl (f180.ne rfl (f179.ne rfl (f178.ne rfl (f177.ne rfl (f176.ne rfl (f175.ne rfl (f174.ne rfl (f173.ne rfl (f172.ne rfl (f171.ne rfl (f170.ne rfl (f169.ne rfl (f168.ne rfl (f167.ne rfl (f166.ne rfl (f165.ne rfl (f164.ne rfl (f163.ne rfl (f162.ne rfl (f161.ne rfl (f160.ne rfl (f159.ne rfl (f158.ne rfl (f157.ne rfl (f156.ne rfl (f155.ne rfl (f154.ne rfl (f153.ne rfl (f152.ne rfl (f151.ne rfl (f150.ne rfl (f149.ne rfl (f148.ne rfl (f147.ne rfl (f146.ne rfl (f145.ne rfl (f144.ne rfl (f143.ne rfl (f142.ne rfl (f141.ne rfl (f140.ne rfl (f139.ne rfl (f138.nw (f137.ne rfl (f136.nw (f135.ne rfl (f134.nw (f133.ne rfl (f132.nw (f131.ne rfl (f130.nw (f129.ne rfl (f128.nw (f127.ne rfl (f126.nw (f125.ne rfl (f124.nw (f123.ne rfl (f122.ne rfl (f121.nw (f120.ne rfl (f119.nw (f118.ne rfl (f117.nw (f116.ne rfl (f115.nw (f114.ne rfl (f113.nw (f112.ne rfl (f111.nw (f110.ne rfl (f109.nw (f108.ne rfl (f107.nw (f106.ne rfl (f105.nw (f104.ne rfl (f103.nw (f102.ne rfl (f101.nw (f100.ne rfl (f99.nw (f98.ne rfl o97)))))))))))))))))))))))))))))))))))))))))))))))))))))))))))))))))))))))))))))))))))))))))))))))))))))))))))))))))))))))))))
  have e209_220 := (f220.nw (f219.ne rfl (f218.nw (f217.ne rfl (f216.nw (f215.ne rfl (f214.nw (f213.ne rfl (f212.ne rfl (f211.ne rfl (f210.ne rfl (f209.ne rfl (f208.ne rfl (f207.ne rfl (f206.ne rfl (f205.ne rfl (f204.nw (f203.ne rfl (f202.ne rfl (f201.ne rfl (f200.ne rfl (f199.ne rfl (f198.ne rfl (f197.ne rfl (f196.ne rfl (f195.ne rfl (f194.ne rfl (f193.ne rfl (f192.ne rfl (f191.ne rfl (f190.ne rfl (f189.ne rfl (f188.ne rfl (f187.ne rfl (f186.ne rfl (f185.ne rfl (f184.ne rfl (f183.ne rfl (f182.ne rfl (f181.ne rfl (f180.ne rfl (f179.ne rfl (f178.ne rfl (f177.ne rfl (f176.ne rfl (f175.ne rfl (f174.ne rfl (f173.ne rfl (f172.ne rfl (f171.ne rfl (f170.ne rfl (f169.ne rfl (f168.ne rfl (f167.ne rfl (f166.ne rfl (f165.ne rfl (f164.ne rfl (f163.ne rfl (f162.ne rfl (f161.ne rfl (f160.ne rfl (f159.ne rfl (f158.ne rfl (f157.ne rfl (f156.ne rfl (f155.ne rfl (f154.ne rfl (f153.ne rfl (f152.ne rfl (f151.ne rfl (f150.ne rfl (f149.ne rfl (f148.ne rfl (f147.ne rfl (f146.ne rfl (f145.ne rfl (f144.ne rfl (f143.ne rfl (f142.ne rfl (f141.ne rfl (f140.ne rfl (f139.ne rfl (f138.nw (f137.ne rfl (f136.nw (f135.ne rfl (f134.nw (f133.ne rfl (f132.nw (f131.ne rfl (f130.nw (f129.ne rfl (f128.nw (f127.ne rfl (f126.nw (f125.ne rfl (f124.nw (f123.ne rfl (f122.ne rfl (f121.nw (f120.ne rfl (f119.nw (f118.ne rfl (f117.nw (f116.ne rfl (f115.nw (f114.ne rfl (f113.nw (f112.ne rfl (f111.nw (f110.ne rfl (f109.nw (f108.ne rfl (f107.nw (f106.ne rfl (f105.nw (f104.ne rfl (f103.nw (f102.ne rfl (f101.nw (f100.ne rfl o99)))))))))))))))))))))))))))))))))))))))))))))))))))))))))))))))))))))))))))))))))))))))))))))))))))))))))))))))))))))))))
  have e210_220 := (f220.nw (f219.ne rfl (f218.nw (f217.ne rfl (f216.nw (f215.ne rfl (f214.nw (f213.ne rfl (f212.ne rfl (f211.ne rfl (f210.ne rfl (f209.ne rfl (f208.ne rfl (f207.ne rfl (f206.ne rfl (f205.ne rfl (f204.nw (f203.ne rfl (f202.ne rfl (f201.ne rfl (f200.ne rfl (f199.ne rfl (f198.ne rfl (f197.ne rfl (f196.ne rfl (f195.ne rfl (f194.ne rfl (f193.ne rfl (f192.ne rfl (f191.ne rfl (f190.ne rfl (f189.ne rfl (f188.ne rfl (f187.ne rfl (f186.ne rfl (f185.ne rfl (f184.ne rfl (f183.ne rfl (f182.ne rfl (f181.ne rfl (f180.ne rfl (f179.ne rfl (f178.ne rfl (f177.ne rfl (f176.ne rfl (f175.ne rfl (f174.ne rfl (f173.ne rfl (f172.ne rfl (f171.ne rfl (f170.ne rfl (f169.ne rfl (f168.ne rfl (f167.ne rfl (f166.ne rfl (f165.ne rfl (f164.ne rfl (f163.ne rfl (f162.ne rfl (f161.ne rfl (f160.ne rfl (f159.ne rfl (f158.ne rfl (f157.ne rfl (f156.ne rfl (f155.ne rfl (f154.ne rfl (f153.ne rfl (f152.ne rfl (f151.ne rfl (f150.ne rfl (f149.ne rfl (f148.ne rfl (f147.ne rfl (f146.ne rfl (f145.ne rfl (f144.ne rfl (f143.ne rfl (f142.ne rfl (f141.ne rfl (f140.ne rfl (f139.ne rfl (f138.nw (f137.ne rfl (f136.nw (f135.ne rfl (f134.nw (f133.ne rfl (f132.nw (f131.ne rfl (f130.nw (f129.ne rfl (f128.nw (f127.ne rfl (f126.nw (f125.ne rfl (f124.nw (f123.ne rfl (f122.ne rfl (f121.nw (f120.ne rfl (f119.nw (f118.ne rfl (f117.nw (f116.ne rfl (f115.nw (f114.ne rfl (f113.nw (f112.ne rfl (f111.nw (f110.ne rfl (f109.nw (f108.ne rfl (f107.nw (f106.ne rfl (f105.nw (f104.ne rfl (f103.nw (f102.ne rfl o101)))))))))))))))))))))))))))))))))))))))))))))))))))))))))))))))))))))))))))))))))))))))))))))))))))))))))))))))))))))))
  have e211_220 := (f220.nw (f219.ne rfl (f218.nw (f217.ne rfl (f216.nw (f215.ne rfl (f214.nw (f213.ne rfl (f212.ne rfl (f211.ne rfl (f210.ne rfl (f209.ne rfl (f208.ne rfl (f207.ne rfl (f206.ne rfl (f205.ne rfl (f204.nw (f203.ne rfl (f202.ne rfl (f201.ne rfl (f200.ne rfl (f199.ne rfl (f198.ne rfl (f197.ne rfl (f196.ne rfl (f195.ne rfl (f194.ne rfl (f193.ne rfl (f192.ne rfl (f191.ne rfl (f190.ne rfl (f189.ne rfl (f188.ne rfl (f187.ne rfl (f186.ne rfl (f185.ne rfl (f184.ne rfl (f183.ne rfl (f182.ne rfl (f181.ne rfl (f180.ne rfl (f179.ne rfl (f178.ne rfl (f177.ne rfl (f176.ne rfl (f175.ne rfl (f174.ne rfl (f173.ne rfl (f172.ne rfl (f171.ne rfl (f170.ne rfl (f169.ne rfl (f168.ne rfl (f167.ne rfl (f166.ne rfl (f165.ne rfl (f164.ne rfl (f163.ne rfl (f162.ne rfl (f161.ne rfl (f160.ne rfl (f159.ne rfl (f158.ne rfl (f157.ne rfl (f156.ne rfl (f155.ne rfl (f154.ne rfl (f153.ne rfl (f152.ne rfl (f151.ne rfl (f150.ne rfl (f149.ne rfl (f148.ne rfl (f147.ne rfl (f146.ne rfl (f145.ne rfl (f144.ne rfl (f143.ne rfl (f142.ne rfl (f141.ne rfl (f140.ne rfl (f139.ne rfl (f138.nw (f137.ne rfl (f136.nw (f135.ne rfl (f134.nw (f133.ne rfl (f132.nw (f131.ne rfl (f130.nw (f129.ne rfl (f128.nw (f127.ne rfl (f126.nw (f125.ne rfl (f124.nw (f123.ne rfl (f122.ne rfl (f121.nw (f120.ne rfl (f119.nw (f118.ne rfl (f117.nw (f116.ne rfl (f115.nw (f114.ne rfl (f113.nw (f112.ne rfl (f111.nw (f110.ne rfl (f109.nw (f108.ne rfl (f107.nw (f106.ne rfl (f105.nw (f104.ne rfl o103)))))))))))))))))))))))))))))))))))))))))))))))))))))))))))))))))))))))))))))))))))))))))))))))))))))))))))))))))))))
  have e212_220 := (f220.nw (f219.ne rfl (f218.nw (f217.ne rfl (f216.nw (f215.ne rfl (f214.nw (f213.ne rfl (f212.ne rfl (f211.ne rfl (f210.ne rfl (f209.ne rfl (f208.ne rfl (f207.ne rfl (f206.ne rfl (f205.ne rfl (f204.nw (f203.ne rfl (f202.ne rfl (f201.ne rfl (f200.ne rfl (f199.ne rfl (f198.ne rfl (f197.ne rfl (f196.ne rfl (f195.ne rfl (f194.ne rfl (f193.ne rfl (f192.ne rfl (f191.ne rfl (f190.ne rfl (f189.ne rfl (f188.ne rfl (f187.ne rfl (f186.ne rfl (f185.ne rfl (f184.ne rfl (f183.ne rfl (f182.ne rfl (f181.ne rfl (f180.ne rfl (f179.ne rfl (f178.ne rfl (f177.ne rfl (f176.ne rfl (f175.ne rfl (f174.ne rfl (f173.ne rfl (f172.ne rfl (f171.ne rfl (f170.ne rfl (f169.ne rfl (f168.ne rfl (f167.ne rfl (f166.ne rfl (f165.ne rfl (f164.ne rfl (f163.ne rfl (f162.ne rfl (f161.ne rfl (f160.ne rfl (f159.ne rfl (f158.ne rfl (f157.ne rfl (f156.ne rfl (f155.ne rfl (f154.ne rfl (f153.ne rfl (f152.ne rfl (f151.ne rfl (f150.ne rfl (f149.ne rfl (f148.ne rfl (f147.ne rfl (f146.ne rfl (f145.ne rfl (f144.ne rfl (f143.ne rfl (f142.ne rfl (f141.ne rfl (f140.ne rfl (f139.ne rfl (f138.nw (f137.ne rfl (f136.nw (f135.ne rfl (f134.nw (f133.ne rfl (f132.nw (f131.ne rfl (f130.nw (f129.ne rfl (f128.nw (f127.ne rfl (f126.nw (f125.ne rfl (f124.nw (f123.ne rfl (f122.ne rfl (f121.nw (f120.ne rfl (f119.nw (f118.ne rfl (f117.nw (f116.ne rfl (f115.nw (f114.ne rfl (f113.nw (f112.ne rfl (f111.nw (f110.ne rfl (f109.nw (f108.ne rfl (f107.nw (f106.ne rfl o105)))))))))))))))))))))))))))))))))))))))))))))))))))))))))))))))))))))))))))))))))))))))))))))))))))))))))))))))))))
  have e213_220 := (f220.nw (f219.ne rfl (f218.nw (f217.ne rfl (f216.nw (f215.ne rfl (f214.nw (f213.ne rfl (f212.ne rfl (f211.ne rfl (f210.ne rfl (f209.ne rfl (f208.ne rfl (f207.ne rfl (f206.ne rfl (f205.ne rfl (f204.nw (f203.ne rfl (f202.ne rfl (f201.ne rfl (f200.ne rfl (f199.ne rfl (f198.ne rfl (f197.ne rfl (f196.ne rfl (f195.ne rfl (f194.ne rfl (f193.ne rfl (f192.ne rfl (f191.ne rfl (f190.ne rfl (f189.ne rfl (f188.ne rfl (f187.ne rfl (f186.ne rfl (f185.ne rfl (f184.ne rfl (f183.ne rfl (f182.ne rfl (f181.ne rfl (f180.ne rfl (f179.ne rfl (f178.ne rfl (f177.ne rfl (f176.ne rfl (f175.ne rfl (f174.ne rfl (f173.ne rfl (f172.ne rfl (f171.ne rfl (f170.ne rfl (f169.ne rfl (f168.ne rfl (f167.ne rfl (f166.ne rfl (f165.ne rfl (f164.ne rfl (f163.ne rfl (f162.ne rfl (f161.ne rfl (f160.ne rfl (f159.ne rfl (f158.ne rfl (f157.ne rfl (f156.ne rfl (f155.ne rfl (f154.ne rfl (f153.ne rfl (f152.ne rfl (f151.ne rfl (f150.ne rfl (f149.ne rfl (f148.ne rfl (f147.ne rfl (f146.ne rfl (f145.ne rfl (f144.ne rfl (f143.ne rfl (f142.ne rfl (f141.ne rfl (f140.ne rfl (f139.ne rfl (f138.nw (f137.ne rfl (f136.nw (f135.ne rfl (f134.nw (f133.ne rfl (f132.nw (f131.ne rfl (f130.nw (f129.ne rfl (f128.nw (f127.ne rfl (f126.nw (f125.ne rfl (f124.nw (f123.ne rfl (f122.ne rfl (f121.nw (f120.ne rfl (f119.nw (f118.ne rfl (f117.nw (f116.ne rfl (f115.nw (f114.ne rfl (f113.nw (f112.ne rfl (f111.nw (f110.ne rfl (f109.nw (f108.ne rfl o107)))))))))))))))))))))))))))))))))))))))))))))))))))))))))))))))))))))))))))))))))))))))))))))))))))))))))))))))))
  have e214_220 := (f220.nw (f219.ne rfl (f218.nw (f217.ne rfl (f216.nw (f215.ne rfl (f214.nw (f213.ne rfl (f212.ne rfl (f211.ne rfl (f210.ne rfl (f209.ne rfl (f208.ne rfl (f207.ne rfl (f206.ne rfl (f205.ne rfl (f204.nw (f203.ne rfl (f202.ne rfl (f201.ne rfl (f200.ne rfl (f199.ne rfl (f198.ne rfl (f197.ne rfl (f196.ne rfl (f195.ne rfl (f194.ne rfl (f193.ne rfl (f192.ne rfl (f191.ne rfl (f190.ne rfl (f189.ne rfl (f188.ne rfl (f187.ne rfl (f186.ne rfl (f185.ne rfl (f184.ne rfl (f183.ne rfl (f182.ne rfl (f181.ne rfl (f180.ne rfl (f179.ne rfl (f178.ne rfl (f177.ne rfl (f176.ne rfl (f175.ne rfl (f174.ne rfl (f173.ne rfl (f172.ne rfl (f171.ne rfl (f170.ne rfl (f169.ne rfl (f168.ne rfl (f167.ne rfl (f166.ne rfl (f165.ne rfl (f164.ne rfl (f163.ne rfl (f162.ne rfl (f161.ne rfl (f160.ne rfl (f159.ne rfl (f158.ne rfl (f157.ne rfl (f156.ne rfl (f155.ne rfl (f154.ne rfl (f153.ne rfl (f152.ne rfl (f151.ne rfl (f150.ne rfl (f149.ne rfl (f148.ne rfl (f147.ne rfl (f146.ne rfl (f145.ne rfl (f144.ne rfl (f143.ne rfl (f142.ne rfl (f141.ne rfl (f140.ne rfl (f139.ne rfl (f138.nw (f137.ne rfl (f136.nw (f135.ne rfl (f134.nw (f133.ne rfl (f132.nw (f131.ne rfl (f130.nw (f129.ne rfl (f128.nw (f127.ne rfl (f126.nw (f125.ne rfl (f124.nw (f123.ne rfl (f122.ne rfl (f121.nw (f120.ne rfl (f119.nw (f118.ne rfl (f117.nw (f116.ne rfl (f115.nw (f114.ne rfl (f113.nw (f112.ne rfl (f111.nw (f110.ne rfl o109)))))))))))))))))))))))))))))))))))))))))))))))))))))))))))))))))))))))))))))))))))))))))))))))))))))))))))))))
  have e215_220 := (f220.nw (f219.ne rfl (f218.nw (f217.ne rfl (f216.nw (f215.ne rfl (f214.nw (f213.ne rfl (f212.ne rfl (f211.ne rfl (f210.ne rfl (f209.ne rfl (f208.ne rfl (f207.ne rfl (f206.ne rfl (f205.ne rfl (f204.nw (f203.ne rfl (f202.ne rfl (f201.ne rfl (f200.ne rfl (f199.ne rfl (f198.ne rfl (f197.ne rfl (f196.ne rfl (f195.ne rfl (f194.ne rfl (f193.ne rfl (f192.ne rfl (f191.ne rfl (f190.ne rfl (f189.ne rfl (f188.ne rfl (f187.ne rfl (f186.ne rfl (f185.ne rfl (f184.ne rfl (f183.ne rfl (f182.ne rfl (f181.ne rfl (f180.ne rfl (f179.ne rfl (f178.ne rfl (f177.ne rfl (f176.ne rfl (f175.ne rfl (f174.ne rfl (f173.ne rfl (f172.ne rfl (f171.ne rfl (f170.ne rfl (f169.ne rfl (f168.ne rfl (f167.ne rfl (f166.ne rfl (f165.ne rfl (f164.ne rfl (f163.ne rfl (f162.ne rfl (f161.ne rfl (f160.ne rfl (f159.ne rfl (f158.ne rfl (f157.ne rfl (f156.ne rfl (f155.ne rfl (f154.ne rfl (f153.ne rfl (f152.ne rfl (f151.ne rfl (f150.ne rfl (f149.ne rfl (f148.ne rfl (f147.ne rfl (f146.ne rfl (f145.ne rfl (f144.ne rfl (f143.ne rfl (f142.ne rfl (f141.ne rfl (f140.ne rfl (f139.ne rfl (f138.nw (f137.ne rfl (f136.nw (f135.ne rfl (f134.nw (f133.ne rfl (f132.nw (f131.ne rfl (f130.nw (f129.ne rfl (f128.nw (f127.ne rfl (f126.nw (f125.ne rfl (f124.nw (f123.ne rfl (f122.ne rfl (f121.nw (f120.ne rfl (f119.nw (f118.ne rfl (f117.nw (f116.ne rfl (f115.nw (f114.ne rfl (f113.nw (f112.ne rfl o111)))))))))))))))))))))))))))))))))))))))))))))))))))))))))))))))))))))))))))))))))))))))))))))))))))))))))))))
  have e216_220 := (f220.nw (f219.ne rfl (f218.nw (f217.ne rfl (f216.nw (f215.ne rfl (f214.nw (f213.ne rfl (f212.ne rfl (f211.ne rfl (f210.ne rfl (f209.ne rfl (f208.ne rfl (f207.ne rfl (f206.ne rfl (f205.ne rfl (f204.nw (f203.ne rfl (f202.ne rfl (f201.ne rfl (f200.ne rfl (f199.ne rfl (f198.ne rfl (f197.ne rfl (f196.ne rfl (f195.ne rfl (f194.ne rfl (f193.ne rfl (f192.ne rfl (f191.ne rfl (f190.ne rfl (f189.ne rfl (f188.ne rfl (f187.ne rfl (f186.ne rfl (f185.ne rfl (f184.ne rfl (f183.ne rfl (f182.ne rfl (f181.ne rfl (f180.ne rfl (f179.ne rfl (f178.ne rfl (f177.ne rfl (f176.ne rfl (f175.ne rfl (f174.ne rfl (f173.ne rfl (f172.ne rfl (f171.ne rfl (f170.ne rfl (f169.ne rfl (f168.ne rfl (f167.ne rfl (f166.ne rfl (f165.ne rfl (f164.ne rfl (f163.ne rfl (f162.ne rfl (f161.ne rfl (f160.ne rfl (f159.ne rfl (f158.ne rfl (f157.ne rfl (f156.ne rfl (f155.ne rfl (f154.ne rfl (f153.ne rfl (f152.ne rfl (f151.ne rfl (f150.ne rfl (f149.ne rfl (f148.ne rfl (f147.ne rfl (f146.ne rfl (f145.ne rfl (f144.ne rfl (f143.ne rfl (f142.ne rfl (f141.ne rfl (f140.ne rfl (f139.ne rfl (f138.nw (f137.ne rfl (f136.nw (f135.ne rfl (f134.nw (f133.ne rfl (f132.nw (f131.ne rfl (f130.nw (f129.ne rfl (f128.nw (f127.ne rfl (f126.nw (f125.ne rfl (f124.nw (f123.ne rfl (f122.ne rfl (f121.nw (f120.ne rfl (f119.nw (f118.ne rfl (f117.nw (f116.ne rfl (f115.nw (f114.ne rfl o113)))))))))))))))))))))))))))))))))))))))))))))))))))))))))))))))))))))))))))))))))))))))))))))))))))))))))))
  have e217_220 := (f220.nw (f219.ne rfl (f218.nw (f217.ne rfl (f216.nw (f215.ne rfl (f214.nw (f213.ne rfl (f212.ne rfl (f211.ne rfl (f210.ne rfl (f209.ne rfl (f208.ne rfl (f207.ne rfl (f206.ne rfl (f205.ne rfl (f204.nw (f203.ne rfl (f202.ne rfl (f201.ne rfl (f200.ne rfl (f199.ne rfl (f198.ne rfl (f197.ne rfl (f196.ne rfl (f195.ne rfl (f194.ne rfl (f193.ne rfl (f192.ne rfl (f191.ne rfl (f190.ne rfl (f189.ne rfl (f188.ne rfl (f187.ne rfl (f186.ne rfl (f185.ne rfl (f184.ne rfl (f183.ne rfl (f182.ne rfl (f181.ne rfl (f180.ne rfl (f179.ne rfl (f178.ne rfl (f177.ne rfl (f176.ne rfl (f175.ne rfl (f174.ne rfl (f173.ne rfl (f172.ne rfl (f171.ne rfl (f170.ne rfl (f169.ne rfl (f168.ne rfl (f167.ne rfl (f166.ne rfl (f165.ne rfl (f164.ne rfl (f163.ne rfl (f162.ne rfl (f161.ne rfl (f160.ne rfl (f159.ne rfl (f158.ne rfl (f157.ne rfl (f156.ne rfl (f155.ne rfl (f154.ne rfl (f153.ne rfl (f152.ne rfl (f151.ne rfl (f150.ne rfl (f149.ne rfl (f148.ne rfl (f147.ne rfl (f146.ne rfl (f145.ne rfl (f144.ne rfl (f143.ne rfl (f142.ne rfl (f141.ne rfl (f140.ne rfl (f139.ne rfl (f138.nw (f137.ne rfl (f136.nw (f135.ne rfl (f134.nw (f133.ne rfl (f132.nw (f131.ne rfl (f130.nw (f129.ne rfl (f128.nw (f127.ne rfl (f126.nw (f125.ne rfl (f124.nw (f123.ne rfl (f122.ne rfl (f121.nw (f120.ne rfl (f119.nw (f118.ne rfl (f117.nw (f116.ne rfl o115)))))))))))))))))))))))))))))))))))))))))))))))))))))))))))))))))))))))))))))))))))))))))))))))))))))))))
  have e218_220 := (f220.nw (f219.ne rfl (f218.nw (f217.ne rfl (f216.nw (f215.ne rfl (f214.nw (f213.ne rfl (f212.ne rfl (f211.ne rfl (f210.ne rfl (f209.ne rfl (f208.ne rfl (f207.ne rfl (f206.ne rfl (f205.ne rfl (f204.nw (f203.ne rfl (f202.ne rfl (f201.ne rfl (f200.ne rfl (f199.ne rfl (f198.ne rfl (f197.ne rfl (f196.ne rfl (f195.ne rfl (f194.ne rfl (f193.ne rfl (f192.ne rfl (f191.ne rfl (f190.ne rfl (f189.ne rfl (f188.ne rfl (f187.ne rfl (f186.ne rfl (f185.ne rfl (f184.ne rfl (f183.ne rfl (f182.ne rfl (f181.ne rfl (f180.ne rfl (f179.ne rfl (f178.ne rfl (f177.ne rfl (f176.ne rfl (f175.ne rfl (f174.ne rfl (f173.ne rfl (f172.ne rfl (f171.ne rfl (f170.ne rfl (f169.ne rfl (f168.ne rfl (f167.ne rfl (f166.ne rfl (f165.ne rfl (f164.ne rfl (f163.ne rfl (f162.ne rfl (f161.ne rfl (f160.ne rfl (f159.ne rfl (f158.ne rfl (f157.ne rfl (f156.ne rfl (f155.ne rfl (f154.ne rfl (f153.ne rfl (f152.ne rfl (f151.ne rfl (f150.ne rfl (f149.ne rfl (f148.ne rfl (f147.ne rfl (f146.ne rfl (f145.ne rfl (f144.ne rfl (f143.ne rfl (f142.ne rfl (f141.ne rfl (f140.ne rfl (f139.ne rfl (f138.nw (f137.ne rfl (f136.nw (f135.ne rfl (f134.nw (f133.ne rfl (f132.nw (f131.ne rfl (f130.nw (f129.ne rfl (f128.nw (f127.ne rfl (f126.nw (f125.ne rfl (f124.nw (f123.ne rfl (f122.ne rfl (f121.nw (f120.ne rfl (f119.nw (f118.ne rfl o117)))))))))))))))))))))))))))))))))))))))))))))))))))))))))))))))))))))))))))))))))))))))))))))))))))))))
  have e219_220 := (f220.nw (f219.ne rfl (f218.nw (f217.ne rfl (f216.nw (f215.ne rfl (f214.nw (f213.ne rfl (f212.ne rfl (f211.ne rfl (f210.ne rfl (f209.ne rfl (f208.ne rfl (f207.ne rfl (f206.ne rfl (f205.ne rfl (f204.nw (f203.ne rfl (f202.ne rfl (f201.ne rfl (f200.ne rfl (f199.ne rfl (f198.ne rfl (f197.ne rfl (f196.ne rfl (f195.ne rfl (f194.ne rfl (f193.ne rfl (f192.ne rfl (f191.ne rfl (f190.ne rfl (f189.ne rfl (f188.ne rfl (f187.ne rfl (f186.ne rfl (f185.ne rfl (f184.ne rfl (f183.ne rfl (f182.ne rfl (f181.ne rfl (f180.ne rfl (f179.ne rfl (f178.ne rfl (f177.ne rfl (f176.ne rfl (f175.ne rfl (f174.ne rfl (f173.ne rfl (f172.ne rfl (f171.ne rfl (f170.ne rfl (f169.ne rfl (f168.ne rfl (f167.ne rfl (f166.ne rfl (f165.ne rfl (f164.ne rfl (f163.ne rfl (f162.ne rfl (f161.ne rfl (f160.ne rfl (f159.ne rfl (f158.ne rfl (f157.ne rfl (f156.ne rfl (f155.ne rfl (f154.ne rfl (f153.ne rfl (f152.ne rfl (f151.ne rfl (f150.ne rfl (f149.ne rfl (f148.ne rfl (f147.ne rfl (f146.ne rfl (f145.ne rfl (f144.ne rfl (f143.ne rfl (f142.ne rfl (f141.ne rfl (f140.ne rfl (f139.ne rfl (f138.nw (f137.ne rfl (f136.nw (f135.ne rfl (f134.nw (f133.ne rfl (f132.nw (f131.ne rfl (f130.nw (f129.ne rfl (f128.nw (f127.ne rfl (f126.nw (f125.ne rfl (f124.nw (f123.ne rfl (f122.ne rfl (f121.nw (f120.ne rfl o119)))))))))))))))))))))))))))))))))))))))))))))))))))))))))))))))))))))))))))))))))))))))))))))))))))))
  have e220_220 := (f220.nw (f219.ne rfl (f218.nw (f217.ne rfl (f216.nw (f215.ne rfl (f214.nw (f213.ne rfl (f212.ne rfl (f211.ne rfl (f210.ne rfl (f209.ne rfl (f208.ne rfl (f207.ne rfl (f206.ne rfl (f205.ne rfl (f204.nw (f203.ne rfl (f202.ne rfl (f201.ne rfl (f200.ne rfl (f199.ne rfl (f198.ne rfl (f197.ne rfl (f196.ne rfl (f195.ne rfl (f194.ne rfl (f193.ne rfl (f192.ne rfl (f191.ne rfl (f190.ne rfl (f189.ne rfl (f188.ne rfl (f187.ne rfl (f186.ne rfl (f185.ne rfl (f184.ne rfl (f183.ne rfl (f182.ne rfl (f181.ne rfl (f180.ne rfl (f179.ne rfl (f178.ne rfl (f177.ne rfl (f176.ne rfl (f175.ne rfl (f174.ne rfl (f173.ne rfl (f172.ne rfl (f171.ne rfl (f170.ne rfl (f169.ne rfl (f168.ne rfl (f167.ne rfl (f166.ne rfl (f165.ne rfl (f164.ne rfl (f163.ne rfl (f162.ne rfl (f161.ne rfl (f160.ne rfl (f159.ne rfl (f158.ne rfl (f157.ne rfl (f156.ne rfl (f155.ne rfl (f154.ne rfl (f153.ne rfl (f152.ne rfl (f151.ne rfl (f150.ne rfl (f149.ne rfl (f148.ne rfl (f147.ne rfl (f146.ne rfl (f145.ne rfl (f144.ne rfl (f143.ne rfl (f142.ne rfl (f141.ne rfl (f140.ne rfl (f139.ne rfl (f138.nw (f137.ne rfl (f136.nw (f135.ne rfl (f134.nw (f133.ne rfl (f132.nw (f131.ne rfl (f130.nw (f129.ne rfl (f128.nw (f127.ne rfl (f126.nw (f125.ne rfl (f124.nw (f123.ne rfl (f122.ne rfl o121)))))))))))))))))))))))))))))))))))))))))))))))))))))))))))))))))))))))))))))))))))))))))))))))))))
  have e221_220 := (f220.nw (f219.ne rfl (f218.nw (f217.ne rfl (f216.nw (f215.ne rfl (f214.nw (f213.ne rfl (f212.ne rfl (f211.ne rfl (f210.ne rfl (f209.ne rfl (f208.ne rfl (f207.ne rfl (f206.ne rfl (f205.ne rfl (f204.nw (f203.ne rfl (f202.ne rfl (f201.ne rfl (f200.ne rfl (f199.ne rfl (f198.ne rfl (f197.ne rfl (f196.ne rfl (f195.ne rfl (f194.ne rfl (f193.ne rfl (f192.ne rfl (f191.ne rfl (f190.ne rfl (f189.ne rfl (f188.ne rfl (f187.ne rfl (f186.ne rfl (f185.ne rfl (f184.ne rfl (f183.ne rfl (f182.ne rfl (f181.ne rfl (f180.ne rfl (f179.ne rfl (f178.ne rfl (f177.ne rfl (f176.ne rfl (f175.ne rfl (f174.ne rfl (f173.ne rfl (f172.ne rfl (f171.ne rfl (f170.ne rfl (f169.ne rfl (f168.ne rfl (f167.ne rfl (f166.ne rfl (f165.ne rfl (f164.ne rfl (f163.ne rfl (f162.ne rfl (f161.ne rfl (f160.ne rfl (f159.ne rfl (f158.ne rfl (f157.ne rfl (f156.ne rfl (f155.ne rfl (f154.ne rfl (f153.ne rfl (f152.ne rfl (f151.ne rfl (f150.ne rfl (f149.ne rfl (f148.ne rfl (f147.ne rfl (f146.ne rfl (f145.ne rfl (f144.ne rfl (f143.ne rfl (f142.ne rfl (f141.ne rfl (f140.ne rfl (f139.ne rfl (f138.nw (f137.ne rfl (f136.nw (f135.ne rfl (f134.nw (f133.ne rfl (f132.nw (f131.ne rfl (f130.nw (f129.ne rfl (f128.nw (f127.ne rfl (f126.nw (f125.ne rfl o124))))))))))))))))))))))))))))))))))))))))))))))))))))))))))))))))))))))))))))))))))))))))))))))))
  have e222_220 := (f220.nw (f219.ne rfl (f218.nw (f217.ne rfl (f216.nw (f215.ne rfl (f214.nw (f213.ne rfl (f212.ne rfl (f211.ne rfl (f210.ne rfl (f209.ne rfl (f208.ne rfl (f207.ne rfl (f206.ne rfl (f205.ne rfl (f204.nw (f203.ne rfl (f202.ne rfl (f201.ne rfl (f200.ne rfl (f199.ne rfl (f198.ne rfl (f197.ne rfl (f196.ne rfl (f195.ne rfl (f194.ne rfl (f193.ne rfl (f192.ne rfl (f191.ne rfl (f190.ne rfl (f189.ne rfl (f188.ne rfl (f187.ne rfl (f186.ne rfl (f185.ne rfl (f184.ne rfl (f183.ne rfl (f182.ne rfl (f181.ne rfl (f180.ne rfl (f179.ne rfl (f178.ne rfl (f177.ne rfl (f176.ne rfl (f175.ne rfl (f174.ne rfl (f173.ne rfl (f172.ne rfl (f171.ne rfl (f170.ne rfl (f169.ne rfl (f168.ne rfl (f167.ne rfl (f166.ne rfl (f165.ne rfl (f164.ne rfl (f163.ne rfl (f162.ne rfl (f161.ne rfl (f160.ne rfl (f159.ne rfl (f158.ne rfl (f157.ne rfl (f156.ne rfl (f155.ne rfl (f154.ne rfl (f153.ne rfl (f152.ne rfl (f151.ne rfl (f150.ne rfl (f149.ne rfl (f148.ne rfl (f147.ne rfl (f146.ne rfl (f145.ne rfl (f144.ne rfl (f143.ne rfl (f142.ne rfl (f141.ne rfl (f140.ne rfl (f139.ne rfl (f138.nw (f137.ne rfl (f136.nw (f135.ne rfl (f134.nw (f133.ne rfl (f132.nw (f131.ne rfl (f130.nw (f129.ne rfl (f128.nw (f127.ne rfl o126))))))))))))))))))))))))))))))))))))))))))))))))))))))))))))))))))))))))))))))))))))))))))))))
  have e223_220 := (f220.nw (f219.ne rfl (f218.nw (f217.ne rfl (f216.nw (f215.ne rfl (f214.nw (f213.ne rfl (f212.ne rfl (f211.ne rfl (f210.ne rfl (f209.ne rfl (f208.ne rfl (f207.ne rfl (f206.ne rfl (f205.ne rfl (f204.nw (f203.ne rfl (f202.ne rfl (f201.ne rfl (f200.ne rfl (f199.ne rfl (f198.ne rfl (f197.ne rfl (f196.ne rfl (f195.ne rfl (f194.ne rfl (f193.ne rfl (f192.ne rfl (f191.ne rfl (f190.ne rfl (f189.ne rfl (f188.ne rfl (f187.ne rfl (f186.ne rfl (f185.ne rfl (f184.ne rfl (f183.ne rfl (f182.ne rfl (f181.ne rfl (f180.ne rfl (f179.ne rfl (f178.ne rfl (f177.ne rfl (f176.ne rfl (f175.ne rfl (f174.ne rfl (f173.ne rfl (f172.ne rfl (f171.ne rfl (f170.ne rfl (f169.ne rfl (f168.ne rfl (f167.ne rfl (f166.ne rfl (f165.ne rfl (f164.ne rfl (f163.ne rfl (f162.ne rfl (f161.ne rfl (f160.ne rfl (f159.ne rfl (f158.ne rfl (f157.ne rfl (f156.ne rfl (f155.ne rfl (f154.ne rfl (f153.ne rfl (f152.ne rfl (f151.ne rfl (f150.ne rfl (f149.ne rfl (f148.ne rfl (f147.ne rfl (f146.ne rfl (f145.ne rfl (f144.ne rfl (f143.ne rfl (f142.ne rfl (f141.ne rfl (f140.ne rfl (f139.ne rfl (f138.nw (f137.ne rfl (f136.nw (f135.ne rfl (f134.nw (f133.ne rfl (f132.nw (f131.ne rfl (f130.nw (f129.ne rfl o128))))))))))))))))))))))))))))))))))))))))))))))))))))))))))))))))))))))))))))))))))))))))))))
  have e224_220 := (f220.nw (f219.ne rfl (f218.nw (f217.ne rfl (f216.nw (f215.ne rfl (f214.nw (f213.ne rfl (f212.ne rfl (f211.ne rfl (f210.ne rfl (f209.ne rfl (f208.ne rfl (f207.ne rfl (f206.ne rfl (f205.ne rfl (f204.nw (f203.ne rfl (f202.ne rfl (f201.ne rfl (f200.ne rfl (f199.ne rfl (f198.ne rfl (f197.ne rfl (f196.ne rfl (f195.ne rfl (f194.ne rfl (f193.ne rfl (f192.ne rfl (f191.ne rfl (f190.ne rfl (f189.ne rfl (f188.ne rfl (f187.ne rfl (f186.ne rfl (f185.ne rfl (f184.ne rfl (f183.ne rfl (f182.ne rfl (f181.ne rfl (f180.ne rfl (f179.ne rfl (f178.ne rfl (f177.ne rfl (f176.ne rfl (f175.ne rfl (f174.ne rfl (f173.ne rfl (f172.ne rfl (f171.ne rfl (f170.ne rfl (f169.ne rfl (f168.ne rfl (f167.ne rfl (f166.ne rfl (f165.ne rfl (f164.ne rfl (f163.ne rfl (f162.ne rfl (f161.ne rfl (f160.ne rfl (f159.ne rfl (f158.ne rfl (f157.ne rfl (f156.ne rfl (f155.ne rfl (f154.ne rfl (f153.ne rfl (f152.ne rfl (f151.ne rfl (f150.ne rfl (f149.ne rfl (f148.ne rfl (f147.ne rfl (f146.ne rfl (f145.ne rfl (f144.ne rfl (f143.ne rfl (f142.ne rfl (f141.ne rfl (f140.ne rfl (f139.ne rfl (f138.nw (f137.ne rfl (f136.nw (f135.ne rfl (f134.nw (f133.ne rfl (f132.nw (f131.ne rfl o130))))))))))))))))))))))))))))))))))))))))))))))))))))))))))))))))))))))))))))))))))))))))))
  have e225_220 := (f220.nw (f219.ne rfl (f218.nw (f217.ne rfl (f216.nw (f215.ne rfl (f214.nw (f213.ne rfl (f212.ne rfl (f211.ne rfl (f210.ne rfl (f209.ne rfl (f208.ne rfl (f207.ne rfl (f206.ne rfl (f205.ne rfl (f204.nw (f203.ne rfl (f202.ne rfl (f201.ne rfl (f200.ne rfl (f199.ne rfl (f198.ne rfl (f197.ne rfl (f196.ne rfl (f195.ne rfl (f194.ne rfl (f193.ne rfl (f192.ne rfl (f191.ne rfl (f190.ne rfl (f189.ne rfl (f188.ne rfl (f187.ne rfl (f186.ne rfl (f185.ne rfl (f184.ne rfl (f183.ne rfl (f182.ne rfl (f181.ne rfl (f180.ne rfl (f179.ne rfl (f178.ne rfl (f177.ne rfl (f176.ne rfl (f175.ne rfl (f174.ne rfl (f173.ne rfl (f172.ne rfl (f171.ne rfl (f170.ne rfl (f169.ne rfl (f168.ne rfl (f167.ne rfl (f166.ne rfl (f165.ne rfl (f164.ne rfl (f163.ne rfl (f162.ne rfl (f161.ne rfl (f160.ne rfl (f159.ne rfl (f158.ne rfl (f157.ne rfl (f156.ne rfl (f155.ne rfl (f154.ne rfl (f153.ne rfl (f152.ne rfl (f151.ne rfl (f150.ne rfl (f149.ne rfl (f148.ne rfl (f147.ne rfl (f146.ne rfl (f145.ne rfl (f144.ne rfl (f143.ne rfl (f142.ne rfl (f141.ne rfl (f140.ne rfl (f139.ne rfl (f138.nw (f137.ne rfl (f136.nw (f135.ne rfl (f134.nw (f133.ne rfl o132))))))))))))))))))))))))))))))))))))))))))))))))))))))))))))))))))))))))))))))))))))))))
  have e226_220 := (f220.nw (f219.ne rfl (f218.nw (f217.ne rfl (f216.nw (f215.ne rfl (f214.nw (f213.ne rfl (f212.ne rfl (f211.ne rfl (f210.ne rfl (f209.ne rfl (f208.ne rfl (f207.ne rfl (f206.ne rfl (f205.ne rfl (f204.nw (f203.ne rfl (f202.ne rfl (f201.ne rfl (f200.ne rfl (f199.ne rfl (f198.ne rfl (f197.ne rfl (f196.ne rfl (f195.ne rfl (f194.ne rfl (f193.ne rfl (f192.ne rfl (f191.ne rfl (f190.ne rfl (f189.ne rfl (f188.ne rfl (f187.ne rfl (f186.ne rfl (f185.ne rfl (f184.ne rfl (f183.ne rfl (f182.ne rfl (f181.ne rfl (f180.ne rfl (f179.ne rfl (f178.ne rfl (f177.ne rfl (f176.ne rfl (f175.ne rfl (f174.ne rfl (f173.ne rfl (f172.ne rfl (f171.ne rfl (f170.ne rfl (f169.ne rfl (f168.ne rfl (f167.ne rfl (f166.ne rfl (f165.ne rfl (f164.ne rfl (f163.ne rfl (f162.ne rfl (f161.ne rfl (f160.ne rfl (f159.ne rfl (f158.ne rfl (f157.ne rfl (f156.ne rfl (f155.ne rfl (f154.ne rfl (f153.ne rfl (f152.ne rfl (f151.ne rfl (f150.ne rfl (f149.ne rfl (f148.ne rfl (f147.ne rfl (f146.ne rfl (f145.ne rfl (f144.ne rfl (f143.ne rfl (f142.ne rfl (f141.ne rfl (f140.ne rfl (f139.ne rfl (f138.nw (f137.ne rfl (f136.nw (f135.ne rfl o134))))))))))))))))))))))))))))))))))))))))))))))))))))))))))))))))))))))))))))))))))))))
  have e227_220 := (f220.nw (f219.ne rfl (f218.nw (f217.ne rfl (f216.nw (f215.ne rfl (f214.nw (f213.ne rfl (f212.ne rfl (f211.ne rfl (f210.ne rfl (f209.ne rfl (f208.ne rfl (f207.ne rfl (f206.ne rfl (f205.ne rfl (f204.nw (f203.ne rfl (f202.ne rfl (f201.ne rfl (f200.ne rfl (f199.ne rfl (f198.ne rfl (f197.ne rfl (f196.ne rfl (f195.ne rfl (f194.ne rfl (f193.ne rfl (f192.ne rfl (f191.ne rfl (f190.ne rfl (f189.ne rfl (f188.ne rfl (f187.ne rfl (f186.ne rfl (f185.ne rfl (f184.ne rfl (f183.ne rfl (f182.ne rfl (f181.ne rfl (f180.ne rfl (f179.ne rfl (f178.ne rfl (f177.ne rfl (f176.ne rfl (f175.ne rfl (f174.ne rfl (f173.ne rfl (f172.ne rfl (f171.ne rfl (f170.ne rfl (f169.ne rfl (f168.ne rfl (f167.ne rfl (f166.ne rfl (f165.ne rfl (f164.ne rfl (f163.ne rfl (f162.ne rfl (f161.ne rfl (f160.ne rfl (f159.ne rfl (f158.ne rfl (f157.ne rfl (f156.ne rfl (f155.ne rfl (f154.ne rfl (f153.ne rfl (f152.ne rfl (f151.ne rfl (f150.ne rfl (f149.ne rfl (f148.ne rfl (f147.ne rfl (f146.ne rfl (f145.ne rfl (f144.ne rfl (f143.ne rfl (f142.ne rfl (f141.ne rfl (f140.ne rfl (f139.ne rfl (f138.nw (f137.ne rfl o136))))))))))))))))))))))))))))))))))))))))))))))))))))))))))))))))))))))))))))))))))))
  have e228_220 := (f220.nw (f219.ne rfl (f218.nw (f217.ne rfl (f216.nw (f215.ne rfl (f214.nw (f213.ne rfl (f212.ne rfl (f211.ne rfl (f210.ne rfl (f209.ne rfl (f208.ne rfl (f207.ne rfl (f206.ne rfl (f205.ne rfl (f204.nw (f203.ne rfl o202))))))))))))))))))
  have e229_220 := (f220.nw (f219.ne rfl (f218.nw (f217.ne rfl (f216.nw (f215.ne rfl (f214.nw (f213.ne rfl o212))))))))
  have e230_220 := (f220.nw (f219.ne rfl (f218.nw (f217.ne rfl (f216.nw (f215.ne rfl o214))))))
  have e231_220 := (f220.nw (f219.ne rfl (f218.nw (f217.ne rfl o216))))
  have e232_220 := (f220.nw (f219.ne rfl o218))
  exact K h220 ⟨e0_220, e1_220, ⟨_, e2_220⟩, ⟨_, e3_220⟩, ⟨_, e4_220⟩, e5_220, e6_220, e7_220, e8_220, e9_220, e51_220, e93_220, e135_220, e177_220, e178_220, e179_220, e180_220, e181_220, e182_220, e183_220, e184_220, e185_220, e186_220, e187_220, e188_220, e189_220, e190_220, e191_220, e192_220, e193_220, e194_220, e195_220, e196_220, e197_220, e198_220, e199_220, e200_220, e201_220, e202_220, e203_220, e204_220, e205_220, e206_220, e207_220, e208_220, e209_220, e210_220, e211_220, e212_220, e213_220, e214_220, e215_220, e216_220, e217_220, e218_220, e219_220, e220_220, e221_220, e222_220, e223_220, e224_220, e225_220, e226_220, e227_220, ⟨_, e228_220⟩, ⟨_, e229_220⟩, e230_220, e231_220, e232_220, o220, s220⟩
