/-! case 1 of the law; made by wip/tools/p1.py -/
set_option maxRecDepth 20000 in
set_option maxHeartbeats 4000000 in
theorem p_case1n {xs : Nat → Int32} {h : ai_H} (F : Fresh 6 xs h) (hk : xs 0 &&& 31 = 1) (hw : xs 1 < 0) : aW aiP 0 17 658 33 [(4, .int 0), (3, .ref 233), (2, .ref 191), (1, .ref 6), (0, .ref 0)] [] h p_Q := by
  obtain ⟨e0, e1, ⟨g2, e2⟩, ⟨g3, e3⟩, ⟨g4, e4⟩, e5, e6, e7, e8, e9, e51, e93, e135, e177, e178, e179, e180, e181, e182, e183, e184, e185, e186, e187, e188, e189, e190, e191, e192, e193, e194, e195, e196, e197, e198, e199, e200, e201, e202, e203, e204, e205, e206, e207, e208, e209, e210, e211, e212, e213, e214, e215, e216, e217, e218, e219, e220, e221, e222, e223, e224, e225, e226, e227, ⟨g228, e228⟩, ⟨g229, e229⟩, e230, e231, e232, e233, s0⟩ := F
  refine q_aload_n rfl rfl ?_
  refine q_iload rfl rfl ?_
  refine s_iaload (j := 0) (v := .int (xs 0)) rfl e0 (by decide) rfl (by first | rfl | decide) ?_
  refine q_bipush rfl ?_
  refine s_iand (k := ((xs 0) &&& (31 : Int32))) rfl rfl ?_
  rw [hk]
  show aW aiP 0 17 658 40 [(4, .int 0), (3, .ref 233), (2, .ref 191), (1, .ref 6), (0, .ref 0)] [.int 1] h _
  refine s_sw (tg := 223) rfl rfl ?_
  refine q_aload_n rfl rfl ?_
  refine q_aload_n rfl rfl ?_
  refine q_iload rfl rfl ?_
  refine q_iconst rfl ?_
  refine s_iadd (k := 1) rfl (by decide) ?_
  refine s_iaload (j := 1) (v := .int (xs 1)) rfl e0 (by decide) rfl (by first | rfl | decide) ?_
  refine s_callV (as := [.int (xs 1)]) (rest := []) (d' := 16) (w' := 637) (lv' := [(0, .ref 6), (1, .int (xs 1))]) rfl e6 rfl rfl rfl rfl rfl rfl ?_
  refine q_iload_n rfl rfl ?_
  refine q_if_lt rfl (fun _ => ?_) (fun c => absurd hw c)
  refine q_iconst rfl ?_
  refine q_ireturn rfl rfl ?_
  show aW aiP 0 17 658 233 [(4, .int 0), (3, .ref 233), (2, .ref 191), (1, .ref 6), (0, .ref 0)] [.int (-1)] h _
  refine q_aload_n rfl rfl ?_
  refine q_aload_n rfl rfl ?_
  refine q_iload rfl rfl ?_
  refine q_iconst rfl ?_
  refine s_iadd (k := 1) rfl (by decide) ?_
  refine s_iaload (j := 1) (v := .int (xs 1)) rfl e0 (by decide) rfl (by first | rfl | decide) ?_
  refine s_callV (as := [.int (xs 1)]) (rest := [.int (-1)]) (d' := 16) (w' := 636) (lv' := [(0, .ref 191), (1, .int (xs 1))]) rfl e191 rfl rfl rfl rfl rfl rfl ?_
  refine q_aload_n rfl rfl ?_
  refine q_iconst rfl ?_
  refine s_put (vs' := [.int 0, .ref 192, .ref 193, .int 0, .ref 194, .ref 195, .ref 196, .ref 197, .ref 198, .ref 199, .ref 200, .ref 201, .ref 202, .ref 203, .ref 204, .ref 205, .int (-1), .int 0, .ref 206, .ref 207, .ref 208, .ref 209, .ref 210, .ref 211, .ref 212, .ref 213, .ref 214, .ref 215, .int 0, .int 0, .int 0, .int 0, .ref 216, .ref 217, .ref 218, .ref 219, .ref 220, .int (-1), .int 0, .int 0, .int 0, .int 0, .int 0, .int 0, .ref 221, .ref 222, .ref 223, .ref 224, .int 0, .ref 225, .int 0, .ref 226, .ref 227, .int 0, .ref 228, .ref 229, .ref 230, .ref 231, .ref 232]) rfl e191 rfl rfl rfl rfl (fun h1 o1 f1 => ?_)
  have s1 := s0.put f1
  refine q_iload_n rfl rfl ?_
  refine q_if_lt rfl (fun _ => ?_) (fun c => absurd hw c)
  refine q_iconst rfl ?_
  refine q_ireturn rfl rfl ?_
  show aW aiP 0 17 658 243 [(4, .int 0), (3, .ref 233), (2, .ref 191), (1, .ref 6), (0, .ref 0)] [.int (-1), .int (-1)] h1 _
  refine q_icmp_eq rfl (fun _ => ?_) (fun c => absurd (by decide) c)
  refine s_iinc (y := 6) (lv' := [(4, .int 6), (3, .ref 233), (2, .ref 191), (1, .ref 6), (0, .ref 0)]) rfl rfl (by decide) (by decide) rfl ?_
  refine q_goto rfl ?_
  refine q_iload rfl rfl ?_
  refine q_aload_n rfl rfl ?_
  have e0_1 := (f1.ne rfl e0)
  refine s_alen (x := 6) rfl e0_1 rfl (by decide) ?_
  refine q_bipush rfl ?_
  refine s_isub (k := 0) rfl (by decide) ?_
  refine q_icmp_gt rfl (fun _ => ?_) (fun c => absurd (by decide) c)
  refine q_iconst rfl ?_
  refine q_ireturn rfl rfl ?_
  exact ⟨rfl, s1.bd rfl⟩
set_option maxRecDepth 20000 in
set_option maxHeartbeats 4000000 in
theorem p_case1b {xs : Nat → Int32} {h : ai_H} (F : Fresh 6 xs h) (hk : xs 0 &&& 31 = 1) (hw : 20 < xs 1) : aW aiP 0 17 658 33 [(4, .int 0), (3, .ref 233), (2, .ref 191), (1, .ref 6), (0, .ref 0)] [] h p_Q := by
  obtain ⟨e0, e1, ⟨g2, e2⟩, ⟨g3, e3⟩, ⟨g4, e4⟩, e5, e6, e7, e8, e9, e51, e93, e135, e177, e178, e179, e180, e181, e182, e183, e184, e185, e186, e187, e188, e189, e190, e191, e192, e193, e194, e195, e196, e197, e198, e199, e200, e201, e202, e203, e204, e205, e206, e207, e208, e209, e210, e211, e212, e213, e214, e215, e216, e217, e218, e219, e220, e221, e222, e223, e224, e225, e226, e227, ⟨g228, e228⟩, ⟨g229, e229⟩, e230, e231, e232, e233, s0⟩ := F
  refine q_aload_n rfl rfl ?_
  refine q_iload rfl rfl ?_
  refine s_iaload (j := 0) (v := .int (xs 0)) rfl e0 (by decide) rfl (by first | rfl | decide) ?_
  refine q_bipush rfl ?_
  refine s_iand (k := ((xs 0) &&& (31 : Int32))) rfl rfl ?_
  rw [hk]
  show aW aiP 0 17 658 40 [(4, .int 0), (3, .ref 233), (2, .ref 191), (1, .ref 6), (0, .ref 0)] [.int 1] h _
  refine s_sw (tg := 223) rfl rfl ?_
  refine q_aload_n rfl rfl ?_
  refine q_aload_n rfl rfl ?_
  refine q_iload rfl rfl ?_
  refine q_iconst rfl ?_
  refine s_iadd (k := 1) rfl (by decide) ?_
  refine s_iaload (j := 1) (v := .int (xs 1)) rfl e0 (by decide) rfl (by first | rfl | decide) ?_
  refine s_callV (as := [.int (xs 1)]) (rest := []) (d' := 16) (w' := 637) (lv' := [(0, .ref 6), (1, .int (xs 1))]) rfl e6 rfl rfl rfl rfl rfl rfl ?_
  refine q_iload_n rfl rfl ?_
  refine q_if_lt rfl (fun c => absurd c (nl20 hw)) (fun _ => ?_)
  refine q_iload_n rfl rfl ?_
  refine q_bipush rfl ?_
  refine q_icmp_gt rfl (fun _ => ?_) (fun c => absurd hw c)
  refine q_iconst rfl ?_
  refine q_ireturn rfl rfl ?_
  show aW aiP 0 17 658 233 [(4, .int 0), (3, .ref 233), (2, .ref 191), (1, .ref 6), (0, .ref 0)] [.int (-1)] h _
  refine q_aload_n rfl rfl ?_
  refine q_aload_n rfl rfl ?_
  refine q_iload rfl rfl ?_
  refine q_iconst rfl ?_
  refine s_iadd (k := 1) rfl (by decide) ?_
  refine s_iaload (j := 1) (v := .int (xs 1)) rfl e0 (by decide) rfl (by first | rfl | decide) ?_
  refine s_callV (as := [.int (xs 1)]) (rest := [.int (-1)]) (d' := 16) (w' := 636) (lv' := [(0, .ref 191), (1, .int (xs 1))]) rfl e191 rfl rfl rfl rfl rfl rfl ?_
  refine q_aload_n rfl rfl ?_
  refine q_iconst rfl ?_
  refine s_put (vs' := [.int 0, .ref 192, .ref 193, .int 0, .ref 194, .ref 195, .ref 196, .ref 197, .ref 198, .ref 199, .ref 200, .ref 201, .ref 202, .ref 203, .ref 204, .ref 205, .int (-1), .int 0, .ref 206, .ref 207, .ref 208, .ref 209, .ref 210, .ref 211, .ref 212, .ref 213, .ref 214, .ref 215, .int 0, .int 0, .int 0, .int 0, .ref 216, .ref 217, .ref 218, .ref 219, .ref 220, .int (-1), .int 0, .int 0, .int 0, .int 0, .int 0, .int 0, .ref 221, .ref 222, .ref 223, .ref 224, .int 0, .ref 225, .int 0, .ref 226, .ref 227, .int 0, .ref 228, .ref 229, .ref 230, .ref 231, .ref 232]) rfl e191 rfl rfl rfl rfl (fun h1 o1 f1 => ?_)
  have s1 := s0.put f1
  refine q_iload_n rfl rfl ?_
  refine q_if_lt rfl (fun c => absurd c (nl20 hw)) (fun _ => ?_)
  refine q_iload_n rfl rfl ?_
  refine q_bipush rfl ?_
  refine q_icmp_gt rfl (fun _ => ?_) (fun c => absurd hw c)
  refine q_iconst rfl ?_
  refine q_ireturn rfl rfl ?_
  show aW aiP 0 17 658 243 [(4, .int 0), (3, .ref 233), (2, .ref 191), (1, .ref 6), (0, .ref 0)] [.int (-1), .int (-1)] h1 _
  refine q_icmp_eq rfl (fun _ => ?_) (fun c => absurd (by decide) c)
  refine s_iinc (y := 6) (lv' := [(4, .int 6), (3, .ref 233), (2, .ref 191), (1, .ref 6), (0, .ref 0)]) rfl rfl (by decide) (by decide) rfl ?_
  refine q_goto rfl ?_
  refine q_iload rfl rfl ?_
  refine q_aload_n rfl rfl ?_
  have e0_1 := (f1.ne rfl e0)
  refine s_alen (x := 6) rfl e0_1 rfl (by decide) ?_
  refine q_bipush rfl ?_
  refine s_isub (k := 0) rfl (by decide) ?_
  refine q_icmp_gt rfl (fun _ => ?_) (fun c => absurd (by decide) c)
  refine q_iconst rfl ?_
  refine q_ireturn rfl rfl ?_
  exact ⟨rfl, s1.bd rfl⟩
set_option maxRecDepth 20000 in
set_option maxHeartbeats 4000000 in
theorem p_case1_0 {xs : Nat → Int32} {h : ai_H} (F : Fresh 6 xs h) (hk : xs 0 &&& 31 = 1) (hw : xs 1 = 0) : aW aiP 0 17 658 33 [(4, .int 0), (3, .ref 233), (2, .ref 191), (1, .ref 6), (0, .ref 0)] [] h p_Q := by
  obtain ⟨e0, e1, ⟨g2, e2⟩, ⟨g3, e3⟩, ⟨g4, e4⟩, e5, e6, e7, e8, e9, e51, e93, e135, e177, e178, e179, e180, e181, e182, e183, e184, e185, e186, e187, e188, e189, e190, e191, e192, e193, e194, e195, e196, e197, e198, e199, e200, e201, e202, e203, e204, e205, e206, e207, e208, e209, e210, e211, e212, e213, e214, e215, e216, e217, e218, e219, e220, e221, e222, e223, e224, e225, e226, e227, ⟨g228, e228⟩, ⟨g229, e229⟩, e230, e231, e232, e233, s0⟩ := F
  refine q_aload_n rfl rfl ?_
  refine q_iload rfl rfl ?_
  refine s_iaload (j := 0) (v := .int (xs 0)) rfl e0 (by decide) rfl (by first | rfl | decide) ?_
  refine q_bipush rfl ?_
  refine s_iand (k := ((xs 0) &&& (31 : Int32))) rfl rfl ?_
  rw [hk]
  show aW aiP 0 17 658 40 [(4, .int 0), (3, .ref 233), (2, .ref 191), (1, .ref 6), (0, .ref 0)] [.int 1] h _
  refine s_sw (tg := 223) rfl rfl ?_
  refine q_aload_n rfl rfl ?_
  refine q_aload_n rfl rfl ?_
  refine q_iload rfl rfl ?_
  refine q_iconst rfl ?_
  refine s_iadd (k := 1) rfl (by decide) ?_
  refine s_iaload (j := 1) (v := .int (xs 1)) rfl e0 (by decide) rfl (by first | rfl | decide) ?_
  rw [hw]
  refine s_callV (as := [.int 0]) (rest := []) (d' := 16) (w' := 637) (lv' := [(0, .ref 6), (1, .int 0)]) rfl e6 rfl rfl rfl rfl rfl rfl ?_
  refine q_iload_n rfl rfl ?_
  refine q_if_lt rfl (fun c => absurd c (by decide)) (fun _ => ?_)
  refine q_iload_n rfl rfl ?_
  refine q_bipush rfl ?_
  refine q_icmp_gt rfl (fun c => absurd c (by decide)) (fun _ => ?_)
  refine q_aload_n rfl rfl ?_
  refine s_get (v := .int 0) rfl e6 rfl rfl ?_
  refine q_iload_n rfl rfl ?_
  refine s_iadd (k := 0) rfl (by decide) ?_
  refine q_sipush rfl ?_
  refine q_icmp_le rfl (fun _ => ?_) (fun c => absurd (by decide) c)
  refine q_aload_n rfl rfl ?_
  refine s_get (v := .ref 7) rfl e6 rfl rfl ?_
  refine q_iconst rfl ?_
  refine q_aload_n rfl rfl ?_
  refine s_get (v := .ref 8) rfl e6 rfl rfl ?_
  refine q_aload_n rfl rfl ?_
  refine s_get (v := .int 0) rfl e6 rfl rfl ?_
  refine q_iload_n rfl rfl ?_
  refine s_copy (sp := 0) (dp := 0) (k := 0) rfl e7 e8 (by decide) (by decide) (by decide) rfl (by decide) (by decide) (by decide) (fun i hi => absurd hi (Nat.not_lt_zero i)) (fun h1 o1 f1 => ?_)
  have s1 := s0.put f1
  refine q_aload_n rfl rfl ?_
  refine q_dup rfl rfl ?_
  have e6_1 := (e6.ne f1 rfl)
  refine s_get (v := .int 0) rfl e6_1 rfl rfl ?_
  refine q_iload_n rfl rfl ?_
  refine s_iadd (k := 0) rfl (by decide) ?_
  refine s_put (vs' := [.ref 7, .ref 8, .int 0, .ref 9, .int (-1), .ref 51, .ref 93, .ref 135, .ref 177, .ref 180, .int 0, .ref 183, .ref 186, .ref 189]) rfl e6_1 rfl rfl rfl rfl (fun h2 o2 f2 => ?_)
  have s2 := s1.put f2
  refine q_aload_n rfl rfl ?_
  refine s_get (v := .ref 7) rfl o2 rfl rfl ?_
  refine q_iconst rfl ?_
  refine s_callS (as := [.ref 7, .int 0]) (rest := []) (d' := 15) (w' := 614) (lv' := [(0, .ref 7), (1, .int 0)]) rfl rfl rfl rfl rfl rfl rfl rfl ?_
  refine q_iconst rfl ?_
  refine s_istore_n (lv' := [(2, .int 0), (0, .ref 7), (1, .int 0)]) rfl (by decide) rfl ?_
  refine q_aload_n rfl rfl ?_
  have e7_2 := (f2.ne rfl (f1.ne rfl e7))
  refine s_alen (x := 20) rfl e7_2 rfl (by decide) ?_
  refine s_istore_n (lv' := [(3, .int 20), (2, .int 0), (0, .ref 7), (1, .int 0)]) rfl (by decide) rfl ?_
  refine q_iload_n rfl rfl ?_
  refine q_iload_n rfl rfl ?_
  refine q_icmp_ge rfl (fun c => absurd c (by decide)) (fun _ => ?_)
  refine q_aload_n rfl rfl ?_
  refine q_iload_n rfl rfl ?_
  refine q_iload_n rfl rfl ?_
  refine s_bastore (j := 0) rfl e7_2 (by decide) rfl (fun h3 o3 f3 => ?_)
  have s3 := s2.put f3
  refine s_iinc (y := 1) (lv' := [(2, .int 1), (3, .int 20), (0, .ref 7), (1, .int 0)]) rfl rfl (by decide) (by decide) rfl ?_
  refine q_goto rfl ?_
  refine q_iload_n rfl rfl ?_
  refine q_iload_n rfl rfl ?_
  refine q_icmp_ge rfl (fun c => absurd c (by decide)) (fun _ => ?_)
  refine q_aload_n rfl rfl ?_
  refine q_iload_n rfl rfl ?_
  refine q_iload_n rfl rfl ?_
  refine s_bastore (j := 1) rfl o3 (by decide) rfl (fun h4 o4 f4 => ?_)
  have s4 := s3.put f4
  refine s_iinc (y := 2) (lv' := [(2, .int 2), (3, .int 20), (0, .ref 7), (1, .int 0)]) rfl rfl (by decide) (by decide) rfl ?_
  refine q_goto rfl ?_
  refine q_iload_n rfl rfl ?_
  refine q_iload_n rfl rfl ?_
  refine q_icmp_ge rfl (fun c => absurd c (by decide)) (fun _ => ?_)
  refine q_aload_n rfl rfl ?_
  refine q_iload_n rfl rfl ?_
  refine q_iload_n rfl rfl ?_
  refine s_bastore (j := 2) rfl o4 (by decide) rfl (fun h5 o5 f5 => ?_)
  have s5 := s4.put f5
  refine s_iinc (y := 3) (lv' := [(2, .int 3), (3, .int 20), (0, .ref 7), (1, .int 0)]) rfl rfl (by decide) (by decide) rfl ?_
  refine q_goto rfl ?_
  refine q_iload_n rfl rfl ?_
  refine q_iload_n rfl rfl ?_
  refine q_icmp_ge rfl (fun c => absurd c (by decide)) (fun _ => ?_)
  refine q_aload_n rfl rfl ?_
  refine q_iload_n rfl rfl ?_
  refine q_iload_n rfl rfl ?_
  refine s_bastore (j := 3) rfl o5 (by decide) rfl (fun h6 o6 f6 => ?_)
  have s6 := s5.put f6
  refine s_iinc (y := 4) (lv' := [(2, .int 4), (3, .int 20), (0, .ref 7), (1, .int 0)]) rfl rfl (by decide) (by decide) rfl ?_
  refine q_goto rfl ?_
  refine q_iload_n rfl rfl ?_
  refine q_iload_n rfl rfl ?_
  refine q_icmp_ge rfl (fun c => absurd c (by decide)) (fun _ => ?_)
  refine q_aload_n rfl rfl ?_
  refine q_iload_n rfl rfl ?_
  refine q_iload_n rfl rfl ?_
  refine s_bastore (j := 4) rfl o6 (by decide) rfl (fun h7 o7 f7 => ?_)
  have s7 := s6.put f7
  refine s_iinc (y := 5) (lv' := [(2, .int 5), (3, .int 20), (0, .ref 7), (1, .int 0)]) rfl rfl (by decide) (by decide) rfl ?_
  refine q_goto rfl ?_
  refine q_iload_n rfl rfl ?_
  refine q_iload_n rfl rfl ?_
  refine q_icmp_ge rfl (fun c => absurd c (by decide)) (fun _ => ?_)
  refine q_aload_n rfl rfl ?_
  refine q_iload_n rfl rfl ?_
  refine q_iload_n rfl rfl ?_
  refine s_bastore (j := 5) rfl o7 (by decide) rfl (fun h8 o8 f8 => ?_)
  have s8 := s7.put f8
  refine s_iinc (y := 6) (lv' := [(2, .int 6), (3, .int 20), (0, .ref 7), (1, .int 0)]) rfl rfl (by decide) (by decide) rfl ?_
  refine q_goto rfl ?_
  refine q_iload_n rfl rfl ?_
  refine q_iload_n rfl rfl ?_
  refine q_icmp_ge rfl (fun c => absurd c (by decide)) (fun _ => ?_)
  refine q_aload_n rfl rfl ?_
  refine q_iload_n rfl rfl ?_
  refine q_iload_n rfl rfl ?_
  refine s_bastore (j := 6) rfl o8 (by decide) rfl (fun h9 o9 f9 => ?_)
  have s9 := s8.put f9
  refine s_iinc (y := 7) (lv' := [(2, .int 7), (3, .int 20), (0, .ref 7), (1, .int 0)]) rfl rfl (by decide) (by decide) rfl ?_
  refine q_goto rfl ?_
  refine q_iload_n rfl rfl ?_
  refine q_iload_n rfl rfl ?_
  refine q_icmp_ge rfl (fun c => absurd c (by decide)) (fun _ => ?_)
  refine q_aload_n rfl rfl ?_
  refine q_iload_n rfl rfl ?_
  refine q_iload_n rfl rfl ?_
  refine s_bastore (j := 7) rfl o9 (by decide) rfl (fun h10 o10 f10 => ?_)
  have s10 := s9.put f10
  refine s_iinc (y := 8) (lv' := [(2, .int 8), (3, .int 20), (0, .ref 7), (1, .int 0)]) rfl rfl (by decide) (by decide) rfl ?_
  refine q_goto rfl ?_
  refine q_iload_n rfl rfl ?_
  refine q_iload_n rfl rfl ?_
  refine q_icmp_ge rfl (fun c => absurd c (by decide)) (fun _ => ?_)
  refine q_aload_n rfl rfl ?_
  refine q_iload_n rfl rfl ?_
  refine q_iload_n rfl rfl ?_
  refine s_bastore (j := 8) rfl o10 (by decide) rfl (fun h11 o11 f11 => ?_)
  have s11 := s10.put f11
  refine s_iinc (y := 9) (lv' := [(2, .int 9), (3, .int 20), (0, .ref 7), (1, .int 0)]) rfl rfl (by decide) (by decide) rfl ?_
  refine q_goto rfl ?_
  refine q_iload_n rfl rfl ?_
  refine q_iload_n rfl rfl ?_
  refine q_icmp_ge rfl (fun c => absurd c (by decide)) (fun _ => ?_)
  refine q_aload_n rfl rfl ?_
  refine q_iload_n rfl rfl ?_
  refine q_iload_n rfl rfl ?_
  refine s_bastore (j := 9) rfl o11 (by decide) rfl (fun h12 o12 f12 => ?_)
  have s12 := s11.put f12
  refine s_iinc (y := 10) (lv' := [(2, .int 10), (3, .int 20), (0, .ref 7), (1, .int 0)]) rfl rfl (by decide) (by decide) rfl ?_
  refine q_goto rfl ?_
  refine q_iload_n rfl rfl ?_
  refine q_iload_n rfl rfl ?_
  refine q_icmp_ge rfl (fun c => absurd c (by decide)) (fun _ => ?_)
  refine q_aload_n rfl rfl ?_
  refine q_iload_n rfl rfl ?_
  refine q_iload_n rfl rfl ?_
  refine s_bastore (j := 10) rfl o12 (by decide) rfl (fun h13 o13 f13 => ?_)
  have s13 := s12.put f13
  refine s_iinc (y := 11) (lv' := [(2, .int 11), (3, .int 20), (0, .ref 7), (1, .int 0)]) rfl rfl (by decide) (by decide) rfl ?_
  refine q_goto rfl ?_
  refine q_iload_n rfl rfl ?_
  refine q_iload_n rfl rfl ?_
  refine q_icmp_ge rfl (fun c => absurd c (by decide)) (fun _ => ?_)
  refine q_aload_n rfl rfl ?_
  refine q_iload_n rfl rfl ?_
  refine q_iload_n rfl rfl ?_
  refine s_bastore (j := 11) rfl o13 (by decide) rfl (fun h14 o14 f14 => ?_)
  have s14 := s13.put f14
  refine s_iinc (y := 12) (lv' := [(2, .int 12), (3, .int 20), (0, .ref 7), (1, .int 0)]) rfl rfl (by decide) (by decide) rfl ?_
  refine q_goto rfl ?_
  refine q_iload_n rfl rfl ?_
  refine q_iload_n rfl rfl ?_
  refine q_icmp_ge rfl (fun c => absurd c (by decide)) (fun _ => ?_)
  refine q_aload_n rfl rfl ?_
  refine q_iload_n rfl rfl ?_
  refine q_iload_n rfl rfl ?_
  refine s_bastore (j := 12) rfl o14 (by decide) rfl (fun h15 o15 f15 => ?_)
  have s15 := s14.put f15
  refine s_iinc (y := 13) (lv' := [(2, .int 13), (3, .int 20), (0, .ref 7), (1, .int 0)]) rfl rfl (by decide) (by decide) rfl ?_
  refine q_goto rfl ?_
  refine q_iload_n rfl rfl ?_
  refine q_iload_n rfl rfl ?_
  refine q_icmp_ge rfl (fun c => absurd c (by decide)) (fun _ => ?_)
  refine q_aload_n rfl rfl ?_
  refine q_iload_n rfl rfl ?_
  refine q_iload_n rfl rfl ?_
  refine s_bastore (j := 13) rfl o15 (by decide) rfl (fun h16 o16 f16 => ?_)
  have s16 := s15.put f16
  refine s_iinc (y := 14) (lv' := [(2, .int 14), (3, .int 20), (0, .ref 7), (1, .int 0)]) rfl rfl (by decide) (by decide) rfl ?_
  refine q_goto rfl ?_
  refine q_iload_n rfl rfl ?_
  refine q_iload_n rfl rfl ?_
  refine q_icmp_ge rfl (fun c => absurd c (by decide)) (fun _ => ?_)
  refine q_aload_n rfl rfl ?_
  refine q_iload_n rfl rfl ?_
  refine q_iload_n rfl rfl ?_
  refine s_bastore (j := 14) rfl o16 (by decide) rfl (fun h17 o17 f17 => ?_)
  have s17 := s16.put f17
  refine s_iinc (y := 15) (lv' := [(2, .int 15), (3, .int 20), (0, .ref 7), (1, .int 0)]) rfl rfl (by decide) (by decide) rfl ?_
  refine q_goto rfl ?_
  refine q_iload_n rfl rfl ?_
  refine q_iload_n rfl rfl ?_
  refine q_icmp_ge rfl (fun c => absurd c (by decide)) (fun _ => ?_)
  refine q_aload_n rfl rfl ?_
  refine q_iload_n rfl rfl ?_
  refine q_iload_n rfl rfl ?_
  refine s_bastore (j := 15) rfl o17 (by decide) rfl (fun h18 o18 f18 => ?_)
  have s18 := s17.put f18
  refine s_iinc (y := 16) (lv' := [(2, .int 16), (3, .int 20), (0, .ref 7), (1, .int 0)]) rfl rfl (by decide) (by decide) rfl ?_
  refine q_goto rfl ?_
  refine q_iload_n rfl rfl ?_
  refine q_iload_n rfl rfl ?_
  refine q_icmp_ge rfl (fun c => absurd c (by decide)) (fun _ => ?_)
  refine q_aload_n rfl rfl ?_
  refine q_iload_n rfl rfl ?_
  refine q_iload_n rfl rfl ?_
  refine s_bastore (j := 16) rfl o18 (by decide) rfl (fun h19 o19 f19 => ?_)
  have s19 := s18.put f19
  refine s_iinc (y := 17) (lv' := [(2, .int 17), (3, .int 20), (0, .ref 7), (1, .int 0)]) rfl rfl (by decide) (by decide) rfl ?_
  refine q_goto rfl ?_
  refine q_iload_n rfl rfl ?_
  refine q_iload_n rfl rfl ?_
  refine q_icmp_ge rfl (fun c => absurd c (by decide)) (fun _ => ?_)
  refine q_aload_n rfl rfl ?_
  refine q_iload_n rfl rfl ?_
  refine q_iload_n rfl rfl ?_
  refine s_bastore (j := 17) rfl o19 (by decide) rfl (fun h20 o20 f20 => ?_)
  have s20 := s19.put f20
  refine s_iinc (y := 18) (lv' := [(2, .int 18), (3, .int 20), (0, .ref 7), (1, .int 0)]) rfl rfl (by decide) (by decide) rfl ?_
  refine q_goto rfl ?_
  refine q_iload_n rfl rfl ?_
  refine q_iload_n rfl rfl ?_
  refine q_icmp_ge rfl (fun c => absurd c (by decide)) (fun _ => ?_)
  refine q_aload_n rfl rfl ?_
  refine q_iload_n rfl rfl ?_
  refine q_iload_n rfl rfl ?_
  refine s_bastore (j := 18) rfl o20 (by decide) rfl (fun h21 o21 f21 => ?_)
  have s21 := s20.put f21
  refine s_iinc (y := 19) (lv' := [(2, .int 19), (3, .int 20), (0, .ref 7), (1, .int 0)]) rfl rfl (by decide) (by decide) rfl ?_
  refine q_goto rfl ?_
  refine q_iload_n rfl rfl ?_
  refine q_iload_n rfl rfl ?_
  refine q_icmp_ge rfl (fun c => absurd c (by decide)) (fun _ => ?_)
  refine q_aload_n rfl rfl ?_
  refine q_iload_n rfl rfl ?_
  refine q_iload_n rfl rfl ?_
  refine s_bastore (j := 19) rfl o21 (by decide) rfl (fun h22 o22 f22 => ?_)
  have s22 := s21.put f22
  refine s_iinc (y := 20) (lv' := [(2, .int 20), (3, .int 20), (0, .ref 7), (1, .int 0)]) rfl rfl (by decide) (by decide) rfl ?_
  refine q_goto rfl ?_
  refine q_iload_n rfl rfl ?_
  refine q_iload_n rfl rfl ?_
  refine q_icmp_ge rfl (fun _ => ?_) (fun c => absurd (by decide) c)
  refine q_return rfl rfl ?_
  show aW aiP 15 16 637 59 [(0, .ref 6), (1, .int 0)] [] h22 _
  refine q_aload_n rfl rfl ?_
  have e6_22 := ((((((((((((((((((((o2.ne f3 rfl).ne f4 rfl).ne f5 rfl).ne f6 rfl).ne f7 rfl).ne f8 rfl).ne f9 rfl).ne f10 rfl).ne f11 rfl).ne f12 rfl).ne f13 rfl).ne f14 rfl).ne f15 rfl).ne f16 rfl).ne f17 rfl).ne f18 rfl).ne f19 rfl).ne f20 rfl).ne f21 rfl).ne f22 rfl)
  refine s_get (v := .int 0) rfl e6_22 rfl rfl ?_
  refine q_ireturn rfl rfl ?_
  show aW aiP 0 17 658 233 [(4, .int 0), (3, .ref 233), (2, .ref 191), (1, .ref 6), (0, .ref 0)] [.int 0] h22 _
  refine q_aload_n rfl rfl ?_
  refine q_aload_n rfl rfl ?_
  refine q_iload rfl rfl ?_
  refine q_iconst rfl ?_
  refine s_iadd (k := 1) rfl (by decide) ?_
  have e0_22 := (f22.ne rfl (f21.ne rfl (f20.ne rfl (f19.ne rfl (f18.ne rfl (f17.ne rfl (f16.ne rfl (f15.ne rfl (f14.ne rfl (f13.ne rfl (f12.ne rfl (f11.ne rfl (f10.ne rfl (f9.ne rfl (f8.ne rfl (f7.ne rfl (f6.ne rfl (f5.ne rfl (f4.ne rfl (f3.ne rfl (f2.ne rfl (f1.ne rfl e0))))))))))))))))))))))
  refine s_iaload (j := 1) (v := .int (xs 1)) rfl e0_22 (by decide) rfl (by first | rfl | decide) ?_
  rw [hw]
  have e191_22 := ((((((((((((((((((((((e191.ne f1 rfl).ne f2 rfl).ne f3 rfl).ne f4 rfl).ne f5 rfl).ne f6 rfl).ne f7 rfl).ne f8 rfl).ne f9 rfl).ne f10 rfl).ne f11 rfl).ne f12 rfl).ne f13 rfl).ne f14 rfl).ne f15 rfl).ne f16 rfl).ne f17 rfl).ne f18 rfl).ne f19 rfl).ne f20 rfl).ne f21 rfl).ne f22 rfl)
  refine s_callV (as := [.int 0]) (rest := [.int 0]) (d' := 16) (w' := 636) (lv' := [(0, .ref 191), (1, .int 0)]) rfl e191_22 rfl rfl rfl rfl rfl rfl ?_
  refine q_aload_n rfl rfl ?_
  refine q_iconst rfl ?_
  refine s_put (vs' := [.int 0, .ref 192, .ref 193, .int 0, .ref 194, .ref 195, .ref 196, .ref 197, .ref 198, .ref 199, .ref 200, .ref 201, .ref 202, .ref 203, .ref 204, .ref 205, .int (-1), .int 0, .ref 206, .ref 207, .ref 208, .ref 209, .ref 210, .ref 211, .ref 212, .ref 213, .ref 214, .ref 215, .int 0, .int 0, .int 0, .int 0, .ref 216, .ref 217, .ref 218, .ref 219, .ref 220, .int (-1), .int 0, .int 0, .int 0, .int 0, .int 0, .int 0, .ref 221, .ref 222, .ref 223, .ref 224, .int 0, .ref 225, .int 0, .ref 226, .ref 227, .int 0, .ref 228, .ref 229, .ref 230, .ref 231, .ref 232]) rfl e191_22 rfl rfl rfl rfl (fun h23 o23 f23 => ?_)
  have s23 := s22.put f23
  refine q_iload_n rfl rfl ?_
  refine q_if_lt rfl (fun c => absurd c (by decide)) (fun _ => ?_)
  refine q_iload_n rfl rfl ?_
  refine q_bipush rfl ?_
  refine q_icmp_gt rfl (fun c => absurd c (by decide)) (fun _ => ?_)
  refine q_aload_n rfl rfl ?_
  refine s_get (v := .int 0) rfl o23 rfl rfl ?_
  refine q_iload_n rfl rfl ?_
  refine s_iadd (k := 0) rfl (by decide) ?_
  refine q_sipush rfl ?_
  refine q_icmp_le rfl (fun _ => ?_) (fun c => absurd (by decide) c)
  refine q_iconst rfl ?_
  refine s_istore_n (lv' := [(2, .int 0), (0, .ref 191), (1, .int 0)]) rfl (by decide) rfl ?_
  refine q_iload_n rfl rfl ?_
  refine q_iload_n rfl rfl ?_
  refine q_icmp_ge rfl (fun _ => ?_) (fun c => absurd (by decide) c)
  refine q_iconst rfl ?_
  refine s_istore_n (lv' := [(2, .int 0), (0, .ref 191), (1, .int 0)]) rfl (by decide) rfl ?_
  refine q_iload_n rfl rfl ?_
  refine q_bipush rfl ?_
  refine q_icmp_ge rfl (fun c => absurd c (by decide)) (fun _ => ?_)
  refine q_aload_n rfl rfl ?_
  refine s_get (v := .ref 192) rfl o23 rfl rfl ?_
  refine q_iload_n rfl rfl ?_
  refine q_iconst rfl ?_
  have e192_23 := (f23.ne rfl (f22.ne rfl (f21.ne rfl (f20.ne rfl (f19.ne rfl (f18.ne rfl (f17.ne rfl (f16.ne rfl (f15.ne rfl (f14.ne rfl (f13.ne rfl (f12.ne rfl (f11.ne rfl (f10.ne rfl (f9.ne rfl (f8.ne rfl (f7.ne rfl (f6.ne rfl (f5.ne rfl (f4.ne rfl (f3.ne rfl (f2.ne rfl (f1.ne rfl e192)))))))))))))))))))))))
  refine s_iastore (j := 0) rfl e192_23 (by decide) rfl (fun h24 o24 f24 => ?_)
  have s24 := s23.put f24
  refine s_iinc (y := 1) (lv' := [(2, .int 1), (0, .ref 191), (1, .int 0)]) rfl rfl (by decide) (by decide) rfl ?_
  refine q_goto rfl ?_
  refine q_iload_n rfl rfl ?_
  refine q_bipush rfl ?_
  refine q_icmp_ge rfl (fun c => absurd c (by decide)) (fun _ => ?_)
  refine q_aload_n rfl rfl ?_
  have e191_24 := (o23.ne f24 rfl)
  refine s_get (v := .ref 192) rfl e191_24 rfl rfl ?_
  refine q_iload_n rfl rfl ?_
  refine q_iconst rfl ?_
  refine s_iastore (j := 1) rfl o24 (by decide) rfl (fun h25 o25 f25 => ?_)
  have s25 := s24.put f25
  refine s_iinc (y := 2) (lv' := [(2, .int 2), (0, .ref 191), (1, .int 0)]) rfl rfl (by decide) (by decide) rfl ?_
  refine q_goto rfl ?_
  refine q_iload_n rfl rfl ?_
  refine q_bipush rfl ?_
  refine q_icmp_ge rfl (fun c => absurd c (by decide)) (fun _ => ?_)
  refine q_aload_n rfl rfl ?_
  have e191_25 := (e191_24.ne f25 rfl)
  refine s_get (v := .ref 192) rfl e191_25 rfl rfl ?_
  refine q_iload_n rfl rfl ?_
  refine q_iconst rfl ?_
  refine s_iastore (j := 2) rfl o25 (by decide) rfl (fun h26 o26 f26 => ?_)
  have s26 := s25.put f26
  refine s_iinc (y := 3) (lv' := [(2, .int 3), (0, .ref 191), (1, .int 0)]) rfl rfl (by decide) (by decide) rfl ?_
  refine q_goto rfl ?_
  refine q_iload_n rfl rfl ?_
  refine q_bipush rfl ?_
  refine q_icmp_ge rfl (fun c => absurd c (by decide)) (fun _ => ?_)
  refine q_aload_n rfl rfl ?_
  have e191_26 := (e191_25.ne f26 rfl)
  refine s_get (v := .ref 192) rfl e191_26 rfl rfl ?_
  refine q_iload_n rfl rfl ?_
  refine q_iconst rfl ?_
  refine s_iastore (j := 3) rfl o26 (by decide) rfl (fun h27 o27 f27 => ?_)
  have s27 := s26.put f27
  refine s_iinc (y := 4) (lv' := [(2, .int 4), (0, .ref 191), (1, .int 0)]) rfl rfl (by decide) (by decide) rfl ?_
  refine q_goto rfl ?_
  refine q_iload_n rfl rfl ?_
  refine q_bipush rfl ?_
  refine q_icmp_ge rfl (fun c => absurd c (by decide)) (fun _ => ?_)
  refine q_aload_n rfl rfl ?_
  have e191_27 := (e191_26.ne f27 rfl)
  refine s_get (v := .ref 192) rfl e191_27 rfl rfl ?_
  refine q_iload_n rfl rfl ?_
  refine q_iconst rfl ?_
  refine s_iastore (j := 4) rfl o27 (by decide) rfl (fun h28 o28 f28 => ?_)
  have s28 := s27.put f28
  refine s_iinc (y := 5) (lv' := [(2, .int 5), (0, .ref 191), (1, .int 0)]) rfl rfl (by decide) (by decide) rfl ?_
  refine q_goto rfl ?_
  refine q_iload_n rfl rfl ?_
  refine q_bipush rfl ?_
  refine q_icmp_ge rfl (fun c => absurd c (by decide)) (fun _ => ?_)
  refine q_aload_n rfl rfl ?_
  have e191_28 := (e191_27.ne f28 rfl)
  refine s_get (v := .ref 192) rfl e191_28 rfl rfl ?_
  refine q_iload_n rfl rfl ?_
  refine q_iconst rfl ?_
  refine s_iastore (j := 5) rfl o28 (by decide) rfl (fun h29 o29 f29 => ?_)
  have s29 := s28.put f29
  refine s_iinc (y := 6) (lv' := [(2, .int 6), (0, .ref 191), (1, .int 0)]) rfl rfl (by decide) (by decide) rfl ?_
  refine q_goto rfl ?_
  refine q_iload_n rfl rfl ?_
  refine q_bipush rfl ?_
  refine q_icmp_ge rfl (fun c => absurd c (by decide)) (fun _ => ?_)
  refine q_aload_n rfl rfl ?_
  have e191_29 := (e191_28.ne f29 rfl)
  refine s_get (v := .ref 192) rfl e191_29 rfl rfl ?_
  refine q_iload_n rfl rfl ?_
  refine q_iconst rfl ?_
  refine s_iastore (j := 6) rfl o29 (by decide) rfl (fun h30 o30 f30 => ?_)
  have s30 := s29.put f30
  refine s_iinc (y := 7) (lv' := [(2, .int 7), (0, .ref 191), (1, .int 0)]) rfl rfl (by decide) (by decide) rfl ?_
  refine q_goto rfl ?_
  refine q_iload_n rfl rfl ?_
  refine q_bipush rfl ?_
  refine q_icmp_ge rfl (fun c => absurd c (by decide)) (fun _ => ?_)
  refine q_aload_n rfl rfl ?_
  have e191_30 := (e191_29.ne f30 rfl)
  refine s_get (v := .ref 192) rfl e191_30 rfl rfl ?_
  refine q_iload_n rfl rfl ?_
  refine q_iconst rfl ?_
  refine s_iastore (j := 7) rfl o30 (by decide) rfl (fun h31 o31 f31 => ?_)
  have s31 := s30.put f31
  refine s_iinc (y := 8) (lv' := [(2, .int 8), (0, .ref 191), (1, .int 0)]) rfl rfl (by decide) (by decide) rfl ?_
  refine q_goto rfl ?_
  refine q_iload_n rfl rfl ?_
  refine q_bipush rfl ?_
  refine q_icmp_ge rfl (fun c => absurd c (by decide)) (fun _ => ?_)
  refine q_aload_n rfl rfl ?_
  have e191_31 := (e191_30.ne f31 rfl)
  refine s_get (v := .ref 192) rfl e191_31 rfl rfl ?_
  refine q_iload_n rfl rfl ?_
  refine q_iconst rfl ?_
  refine s_iastore (j := 8) rfl o31 (by decide) rfl (fun h32 o32 f32 => ?_)
  have s32 := s31.put f32
  refine s_iinc (y := 9) (lv' := [(2, .int 9), (0, .ref 191), (1, .int 0)]) rfl rfl (by decide) (by decide) rfl ?_
  refine q_goto rfl ?_
  refine q_iload_n rfl rfl ?_
  refine q_bipush rfl ?_
  refine q_icmp_ge rfl (fun c => absurd c (by decide)) (fun _ => ?_)
  refine q_aload_n rfl rfl ?_
  have e191_32 := (e191_31.ne f32 rfl)
  refine s_get (v := .ref 192) rfl e191_32 rfl rfl ?_
  refine q_iload_n rfl rfl ?_
  refine q_iconst rfl ?_
  refine s_iastore (j := 9) rfl o32 (by decide) rfl (fun h33 o33 f33 => ?_)
  have s33 := s32.put f33
  refine s_iinc (y := 10) (lv' := [(2, .int 10), (0, .ref 191), (1, .int 0)]) rfl rfl (by decide) (by decide) rfl ?_
  refine q_goto rfl ?_
  refine q_iload_n rfl rfl ?_
  refine q_bipush rfl ?_
  refine q_icmp_ge rfl (fun c => absurd c (by decide)) (fun _ => ?_)
  refine q_aload_n rfl rfl ?_
  have e191_33 := (e191_32.ne f33 rfl)
  refine s_get (v := .ref 192) rfl e191_33 rfl rfl ?_
  refine q_iload_n rfl rfl ?_
  refine q_iconst rfl ?_
  refine s_iastore (j := 10) rfl o33 (by decide) rfl (fun h34 o34 f34 => ?_)
  have s34 := s33.put f34
  refine s_iinc (y := 11) (lv' := [(2, .int 11), (0, .ref 191), (1, .int 0)]) rfl rfl (by decide) (by decide) rfl ?_
  refine q_goto rfl ?_
  refine q_iload_n rfl rfl ?_
  refine q_bipush rfl ?_
  refine q_icmp_ge rfl (fun c => absurd c (by decide)) (fun _ => ?_)
  refine q_aload_n rfl rfl ?_
  have e191_34 := (e191_33.ne f34 rfl)
  refine s_get (v := .ref 192) rfl e191_34 rfl rfl ?_
  refine q_iload_n rfl rfl ?_
  refine q_iconst rfl ?_
  refine s_iastore (j := 11) rfl o34 (by decide) rfl (fun h35 o35 f35 => ?_)
  have s35 := s34.put f35
  refine s_iinc (y := 12) (lv' := [(2, .int 12), (0, .ref 191), (1, .int 0)]) rfl rfl (by decide) (by decide) rfl ?_
  refine q_goto rfl ?_
  refine q_iload_n rfl rfl ?_
  refine q_bipush rfl ?_
  refine q_icmp_ge rfl (fun c => absurd c (by decide)) (fun _ => ?_)
  refine q_aload_n rfl rfl ?_
  have e191_35 := (e191_34.ne f35 rfl)
  refine s_get (v := .ref 192) rfl e191_35 rfl rfl ?_
  refine q_iload_n rfl rfl ?_
  refine q_iconst rfl ?_
  refine s_iastore (j := 12) rfl o35 (by decide) rfl (fun h36 o36 f36 => ?_)
  have s36 := s35.put f36
  refine s_iinc (y := 13) (lv' := [(2, .int 13), (0, .ref 191), (1, .int 0)]) rfl rfl (by decide) (by decide) rfl ?_
  refine q_goto rfl ?_
  refine q_iload_n rfl rfl ?_
  refine q_bipush rfl ?_
  refine q_icmp_ge rfl (fun c => absurd c (by decide)) (fun _ => ?_)
  refine q_aload_n rfl rfl ?_
  have e191_36 := (e191_35.ne f36 rfl)
  refine s_get (v := .ref 192) rfl e191_36 rfl rfl ?_
  refine q_iload_n rfl rfl ?_
  refine q_iconst rfl ?_
  refine s_iastore (j := 13) rfl o36 (by decide) rfl (fun h37 o37 f37 => ?_)
  have s37 := s36.put f37
  refine s_iinc (y := 14) (lv' := [(2, .int 14), (0, .ref 191), (1, .int 0)]) rfl rfl (by decide) (by decide) rfl ?_
  refine q_goto rfl ?_
  refine q_iload_n rfl rfl ?_
  refine q_bipush rfl ?_
  refine q_icmp_ge rfl (fun c => absurd c (by decide)) (fun _ => ?_)
  refine q_aload_n rfl rfl ?_
  have e191_37 := (e191_36.ne f37 rfl)
  refine s_get (v := .ref 192) rfl e191_37 rfl rfl ?_
  refine q_iload_n rfl rfl ?_
  refine q_iconst rfl ?_
  refine s_iastore (j := 14) rfl o37 (by decide) rfl (fun h38 o38 f38 => ?_)
  have s38 := s37.put f38
  refine s_iinc (y := 15) (lv' := [(2, .int 15), (0, .ref 191), (1, .int 0)]) rfl rfl (by decide) (by decide) rfl ?_
  refine q_goto rfl ?_
  refine q_iload_n rfl rfl ?_
  refine q_bipush rfl ?_
  refine q_icmp_ge rfl (fun c => absurd c (by decide)) (fun _ => ?_)
  refine q_aload_n rfl rfl ?_
  have e191_38 := (e191_37.ne f38 rfl)
  refine s_get (v := .ref 192) rfl e191_38 rfl rfl ?_
  refine q_iload_n rfl rfl ?_
  refine q_iconst rfl ?_
  refine s_iastore (j := 15) rfl o38 (by decide) rfl (fun h39 o39 f39 => ?_)
  have s39 := s38.put f39
  refine s_iinc (y := 16) (lv' := [(2, .int 16), (0, .ref 191), (1, .int 0)]) rfl rfl (by decide) (by decide) rfl ?_
  refine q_goto rfl ?_
  refine q_iload_n rfl rfl ?_
  refine q_bipush rfl ?_
  refine q_icmp_ge rfl (fun c => absurd c (by decide)) (fun _ => ?_)
  refine q_aload_n rfl rfl ?_
  have e191_39 := (e191_38.ne f39 rfl)
  refine s_get (v := .ref 192) rfl e191_39 rfl rfl ?_
  refine q_iload_n rfl rfl ?_
  refine q_iconst rfl ?_
  refine s_iastore (j := 16) rfl o39 (by decide) rfl (fun h40 o40 f40 => ?_)
  have s40 := s39.put f40
  refine s_iinc (y := 17) (lv' := [(2, .int 17), (0, .ref 191), (1, .int 0)]) rfl rfl (by decide) (by decide) rfl ?_
  refine q_goto rfl ?_
  refine q_iload_n rfl rfl ?_
  refine q_bipush rfl ?_
  refine q_icmp_ge rfl (fun c => absurd c (by decide)) (fun _ => ?_)
  refine q_aload_n rfl rfl ?_
  have e191_40 := (e191_39.ne f40 rfl)
  refine s_get (v := .ref 192) rfl e191_40 rfl rfl ?_
  refine q_iload_n rfl rfl ?_
  refine q_iconst rfl ?_
  refine s_iastore (j := 17) rfl o40 (by decide) rfl (fun h41 o41 f41 => ?_)
  have s41 := s40.put f41
  refine s_iinc (y := 18) (lv' := [(2, .int 18), (0, .ref 191), (1, .int 0)]) rfl rfl (by decide) (by decide) rfl ?_
  refine q_goto rfl ?_
  refine q_iload_n rfl rfl ?_
  refine q_bipush rfl ?_
  refine q_icmp_ge rfl (fun c => absurd c (by decide)) (fun _ => ?_)
  refine q_aload_n rfl rfl ?_
  have e191_41 := (e191_40.ne f41 rfl)
  refine s_get (v := .ref 192) rfl e191_41 rfl rfl ?_
  refine q_iload_n rfl rfl ?_
  refine q_iconst rfl ?_
  refine s_iastore (j := 18) rfl o41 (by decide) rfl (fun h42 o42 f42 => ?_)
  have s42 := s41.put f42
  refine s_iinc (y := 19) (lv' := [(2, .int 19), (0, .ref 191), (1, .int 0)]) rfl rfl (by decide) (by decide) rfl ?_
  refine q_goto rfl ?_
  refine q_iload_n rfl rfl ?_
  refine q_bipush rfl ?_
  refine q_icmp_ge rfl (fun c => absurd c (by decide)) (fun _ => ?_)
  refine q_aload_n rfl rfl ?_
  have e191_42 := (e191_41.ne f42 rfl)
  refine s_get (v := .ref 192) rfl e191_42 rfl rfl ?_
  refine q_iload_n rfl rfl ?_
  refine q_iconst rfl ?_
  refine s_iastore (j := 19) rfl o42 (by decide) rfl (fun h43 o43 f43 => ?_)
  have s43 := s42.put f43
  refine s_iinc (y := 20) (lv' := [(2, .int 20), (0, .ref 191), (1, .int 0)]) rfl rfl (by decide) (by decide) rfl ?_
  refine q_goto rfl ?_
  refine q_iload_n rfl rfl ?_
  refine q_bipush rfl ?_
  refine q_icmp_ge rfl (fun _ => ?_) (fun c => absurd (by decide) c)
  refine q_aload_n rfl rfl ?_
  have e191_43 := (e191_42.ne f43 rfl)
  refine s_get (v := .int 0) rfl e191_43 rfl rfl ?_
  refine q_ireturn rfl rfl ?_
  show aW aiP 0 17 658 243 [(4, .int 0), (3, .ref 233), (2, .ref 191), (1, .ref 6), (0, .ref 0)] [.int 0, .int 0] h43 _
  refine q_icmp_eq rfl (fun _ => ?_) (fun c => absurd (by decide) c)
  refine s_iinc (y := 6) (lv' := [(4, .int 6), (3, .ref 233), (2, .ref 191), (1, .ref 6), (0, .ref 0)]) rfl rfl (by decide) (by decide) rfl ?_
  refine q_goto rfl ?_
  refine q_iload rfl rfl ?_
  refine q_aload_n rfl rfl ?_
  have e0_43 := (f43.ne rfl (f42.ne rfl (f41.ne rfl (f40.ne rfl (f39.ne rfl (f38.ne rfl (f37.ne rfl (f36.ne rfl (f35.ne rfl (f34.ne rfl (f33.ne rfl (f32.ne rfl (f31.ne rfl (f30.ne rfl (f29.ne rfl (f28.ne rfl (f27.ne rfl (f26.ne rfl (f25.ne rfl (f24.ne rfl (f23.ne rfl e0_22)))))))))))))))))))))
  refine s_alen (x := 6) rfl e0_43 rfl (by decide) ?_
  refine q_bipush rfl ?_
  refine s_isub (k := 0) rfl (by decide) ?_
  refine q_icmp_gt rfl (fun _ => ?_) (fun c => absurd (by decide) c)
  refine q_iconst rfl ?_
  refine q_ireturn rfl rfl ?_
  exact ⟨rfl, s43.bd rfl⟩
set_option maxRecDepth 20000 in
set_option maxHeartbeats 4000000 in
theorem p_case1_1 {xs : Nat → Int32} {h : ai_H} (F : Fresh 6 xs h) (hk : xs 0 &&& 31 = 1) (hw : xs 1 = 1) : aW aiP 0 17 658 33 [(4, .int 0), (3, .ref 233), (2, .ref 191), (1, .ref 6), (0, .ref 0)] [] h p_Q := by
  obtain ⟨e0, e1, ⟨g2, e2⟩, ⟨g3, e3⟩, ⟨g4, e4⟩, e5, e6, e7, e8, e9, e51, e93, e135, e177, e178, e179, e180, e181, e182, e183, e184, e185, e186, e187, e188, e189, e190, e191, e192, e193, e194, e195, e196, e197, e198, e199, e200, e201, e202, e203, e204, e205, e206, e207, e208, e209, e210, e211, e212, e213, e214, e215, e216, e217, e218, e219, e220, e221, e222, e223, e224, e225, e226, e227, ⟨g228, e228⟩, ⟨g229, e229⟩, e230, e231, e232, e233, s0⟩ := F
  refine q_aload_n rfl rfl ?_
  refine q_iload rfl rfl ?_
  refine s_iaload (j := 0) (v := .int (xs 0)) rfl e0 (by decide) rfl (by first | rfl | decide) ?_
  refine q_bipush rfl ?_
  refine s_iand (k := ((xs 0) &&& (31 : Int32))) rfl rfl ?_
  rw [hk]
  show aW aiP 0 17 658 40 [(4, .int 0), (3, .ref 233), (2, .ref 191), (1, .ref 6), (0, .ref 0)] [.int 1] h _
  refine s_sw (tg := 223) rfl rfl ?_
  refine q_aload_n rfl rfl ?_
  refine q_aload_n rfl rfl ?_
  refine q_iload rfl rfl ?_
  refine q_iconst rfl ?_
  refine s_iadd (k := 1) rfl (by decide) ?_
  refine s_iaload (j := 1) (v := .int (xs 1)) rfl e0 (by decide) rfl (by first | rfl | decide) ?_
  rw [hw]
  refine s_callV (as := [.int 1]) (rest := []) (d' := 16) (w' := 637) (lv' := [(0, .ref 6), (1, .int 1)]) rfl e6 rfl rfl rfl rfl rfl rfl ?_
  refine q_iload_n rfl rfl ?_
  refine q_if_lt rfl (fun c => absurd c (by decide)) (fun _ => ?_)
  refine q_iload_n rfl rfl ?_
  refine q_bipush rfl ?_
  refine q_icmp_gt rfl (fun c => absurd c (by decide)) (fun _ => ?_)
  refine q_aload_n rfl rfl ?_
  refine s_get (v := .int 0) rfl e6 rfl rfl ?_
  refine q_iload_n rfl rfl ?_
  refine s_iadd (k := 1) rfl (by decide) ?_
  refine q_sipush rfl ?_
  refine q_icmp_le rfl (fun _ => ?_) (fun c => absurd (by decide) c)
  refine q_aload_n rfl rfl ?_
  refine s_get (v := .ref 7) rfl e6 rfl rfl ?_
  refine q_iconst rfl ?_
  refine q_aload_n rfl rfl ?_
  refine s_get (v := .ref 8) rfl e6 rfl rfl ?_
  refine q_aload_n rfl rfl ?_
  refine s_get (v := .int 0) rfl e6 rfl rfl ?_
  refine q_iload_n rfl rfl ?_
  refine s_copy (sp := 0) (dp := 0) (k := 1) rfl e7 e8 (by decide) (by decide) (by decide) rfl (by decide) (by decide) (by decide) (fun i _ => rfl) (fun h1 o1 f1 => ?_)
  have s1 := s0.put f1
  refine q_aload_n rfl rfl ?_
  refine q_dup rfl rfl ?_
  have e6_1 := (e6.ne f1 rfl)
  refine s_get (v := .int 0) rfl e6_1 rfl rfl ?_
  refine q_iload_n rfl rfl ?_
  refine s_iadd (k := 1) rfl (by decide) ?_
  refine s_put (vs' := [.ref 7, .ref 8, .int 1, .ref 9, .int (-1), .ref 51, .ref 93, .ref 135, .ref 177, .ref 180, .int 0, .ref 183, .ref 186, .ref 189]) rfl e6_1 rfl rfl rfl rfl (fun h2 o2 f2 => ?_)
  have s2 := s1.put f2
  refine q_aload_n rfl rfl ?_
  refine s_get (v := .ref 7) rfl o2 rfl rfl ?_
  refine q_iconst rfl ?_
  refine s_callS (as := [.ref 7, .int 0]) (rest := []) (d' := 15) (w' := 614) (lv' := [(0, .ref 7), (1, .int 0)]) rfl rfl rfl rfl rfl rfl rfl rfl ?_
  refine q_iconst rfl ?_
  refine s_istore_n (lv' := [(2, .int 0), (0, .ref 7), (1, .int 0)]) rfl (by decide) rfl ?_
  refine q_aload_n rfl rfl ?_
  have e7_2 := (f2.ne rfl (f1.ne rfl e7))
  refine s_alen (x := 20) rfl e7_2 rfl (by decide) ?_
  refine s_istore_n (lv' := [(3, .int 20), (2, .int 0), (0, .ref 7), (1, .int 0)]) rfl (by decide) rfl ?_
  refine q_iload_n rfl rfl ?_
  refine q_iload_n rfl rfl ?_
  refine q_icmp_ge rfl (fun c => absurd c (by decide)) (fun _ => ?_)
  refine q_aload_n rfl rfl ?_
  refine q_iload_n rfl rfl ?_
  refine q_iload_n rfl rfl ?_
  refine s_bastore (j := 0) rfl e7_2 (by decide) rfl (fun h3 o3 f3 => ?_)
  have s3 := s2.put f3
  refine s_iinc (y := 1) (lv' := [(2, .int 1), (3, .int 20), (0, .ref 7), (1, .int 0)]) rfl rfl (by decide) (by decide) rfl ?_
  refine q_goto rfl ?_
  refine q_iload_n rfl rfl ?_
  refine q_iload_n rfl rfl ?_
  refine q_icmp_ge rfl (fun c => absurd c (by decide)) (fun _ => ?_)
  refine q_aload_n rfl rfl ?_
  refine q_iload_n rfl rfl ?_
  refine q_iload_n rfl rfl ?_
  refine s_bastore (j := 1) rfl o3 (by decide) rfl (fun h4 o4 f4 => ?_)
  have s4 := s3.put f4
  refine s_iinc (y := 2) (lv' := [(2, .int 2), (3, .int 20), (0, .ref 7), (1, .int 0)]) rfl rfl (by decide) (by decide) rfl ?_
  refine q_goto rfl ?_
  refine q_iload_n rfl rfl ?_
  refine q_iload_n rfl rfl ?_
  refine q_icmp_ge rfl (fun c => absurd c (by decide)) (fun _ => ?_)
  refine q_aload_n rfl rfl ?_
  refine q_iload_n rfl rfl ?_
  refine q_iload_n rfl rfl ?_
  refine s_bastore (j := 2) rfl o4 (by decide) rfl (fun h5 o5 f5 => ?_)
  have s5 := s4.put f5
  refine s_iinc (y := 3) (lv' := [(2, .int 3), (3, .int 20), (0, .ref 7), (1, .int 0)]) rfl rfl (by decide) (by decide) rfl ?_
  refine q_goto rfl ?_
  refine q_iload_n rfl rfl ?_
  refine q_iload_n rfl rfl ?_
  refine q_icmp_ge rfl (fun c => absurd c (by decide)) (fun _ => ?_)
  refine q_aload_n rfl rfl ?_
  refine q_iload_n rfl rfl ?_
  refine q_iload_n rfl rfl ?_
  refine s_bastore (j := 3) rfl o5 (by decide) rfl (fun h6 o6 f6 => ?_)
  have s6 := s5.put f6
  refine s_iinc (y := 4) (lv' := [(2, .int 4), (3, .int 20), (0, .ref 7), (1, .int 0)]) rfl rfl (by decide) (by decide) rfl ?_
  refine q_goto rfl ?_
  refine q_iload_n rfl rfl ?_
  refine q_iload_n rfl rfl ?_
  refine q_icmp_ge rfl (fun c => absurd c (by decide)) (fun _ => ?_)
  refine q_aload_n rfl rfl ?_
  refine q_iload_n rfl rfl ?_
  refine q_iload_n rfl rfl ?_
  refine s_bastore (j := 4) rfl o6 (by decide) rfl (fun h7 o7 f7 => ?_)
  have s7 := s6.put f7
  refine s_iinc (y := 5) (lv' := [(2, .int 5), (3, .int 20), (0, .ref 7), (1, .int 0)]) rfl rfl (by decide) (by decide) rfl ?_
  refine q_goto rfl ?_
  refine q_iload_n rfl rfl ?_
  refine q_iload_n rfl rfl ?_
  refine q_icmp_ge rfl (fun c => absurd c (by decide)) (fun _ => ?_)
  refine q_aload_n rfl rfl ?_
  refine q_iload_n rfl rfl ?_
  refine q_iload_n rfl rfl ?_
  refine s_bastore (j := 5) rfl o7 (by decide) rfl (fun h8 o8 f8 => ?_)
  have s8 := s7.put f8
  refine s_iinc (y := 6) (lv' := [(2, .int 6), (3, .int 20), (0, .ref 7), (1, .int 0)]) rfl rfl (by decide) (by decide) rfl ?_
  refine q_goto rfl ?_
  refine q_iload_n rfl rfl ?_
  refine q_iload_n rfl rfl ?_
  refine q_icmp_ge rfl (fun c => absurd c (by decide)) (fun _ => ?_)
  refine q_aload_n rfl rfl ?_
  refine q_iload_n rfl rfl ?_
  refine q_iload_n rfl rfl ?_
  refine s_bastore (j := 6) rfl o8 (by decide) rfl (fun h9 o9 f9 => ?_)
  have s9 := s8.put f9
  refine s_iinc (y := 7) (lv' := [(2, .int 7), (3, .int 20), (0, .ref 7), (1, .int 0)]) rfl rfl (by decide) (by decide) rfl ?_
  refine q_goto rfl ?_
  refine q_iload_n rfl rfl ?_
  refine q_iload_n rfl rfl ?_
  refine q_icmp_ge rfl (fun c => absurd c (by decide)) (fun _ => ?_)
  refine q_aload_n rfl rfl ?_
  refine q_iload_n rfl rfl ?_
  refine q_iload_n rfl rfl ?_
  refine s_bastore (j := 7) rfl o9 (by decide) rfl (fun h10 o10 f10 => ?_)
  have s10 := s9.put f10
  refine s_iinc (y := 8) (lv' := [(2, .int 8), (3, .int 20), (0, .ref 7), (1, .int 0)]) rfl rfl (by decide) (by decide) rfl ?_
  refine q_goto rfl ?_
  refine q_iload_n rfl rfl ?_
  refine q_iload_n rfl rfl ?_
  refine q_icmp_ge rfl (fun c => absurd c (by decide)) (fun _ => ?_)
  refine q_aload_n rfl rfl ?_
  refine q_iload_n rfl rfl ?_
  refine q_iload_n rfl rfl ?_
  refine s_bastore (j := 8) rfl o10 (by decide) rfl (fun h11 o11 f11 => ?_)
  have s11 := s10.put f11
  refine s_iinc (y := 9) (lv' := [(2, .int 9), (3, .int 20), (0, .ref 7), (1, .int 0)]) rfl rfl (by decide) (by decide) rfl ?_
  refine q_goto rfl ?_
  refine q_iload_n rfl rfl ?_
  refine q_iload_n rfl rfl ?_
  refine q_icmp_ge rfl (fun c => absurd c (by decide)) (fun _ => ?_)
  refine q_aload_n rfl rfl ?_
  refine q_iload_n rfl rfl ?_
  refine q_iload_n rfl rfl ?_
  refine s_bastore (j := 9) rfl o11 (by decide) rfl (fun h12 o12 f12 => ?_)
  have s12 := s11.put f12
  refine s_iinc (y := 10) (lv' := [(2, .int 10), (3, .int 20), (0, .ref 7), (1, .int 0)]) rfl rfl (by decide) (by decide) rfl ?_
  refine q_goto rfl ?_
  refine q_iload_n rfl rfl ?_
  refine q_iload_n rfl rfl ?_
  refine q_icmp_ge rfl (fun c => absurd c (by decide)) (fun _ => ?_)
  refine q_aload_n rfl rfl ?_
  refine q_iload_n rfl rfl ?_
  refine q_iload_n rfl rfl ?_
  refine s_bastore (j := 10) rfl o12 (by decide) rfl (fun h13 o13 f13 => ?_)
  have s13 := s12.put f13
  refine s_iinc (y := 11) (lv' := [(2, .int 11), (3, .int 20), (0, .ref 7), (1, .int 0)]) rfl rfl (by decide) (by decide) rfl ?_
  refine q_goto rfl ?_
  refine q_iload_n rfl rfl ?_
  refine q_iload_n rfl rfl ?_
  refine q_icmp_ge rfl (fun c => absurd c (by decide)) (fun _ => ?_)
  refine q_aload_n rfl rfl ?_
  refine q_iload_n rfl rfl ?_
  refine q_iload_n rfl rfl ?_
  refine s_bastore (j := 11) rfl o13 (by decide) rfl (fun h14 o14 f14 => ?_)
  have s14 := s13.put f14
  refine s_iinc (y := 12) (lv' := [(2, .int 12), (3, .int 20), (0, .ref 7), (1, .int 0)]) rfl rfl (by decide) (by decide) rfl ?_
  refine q_goto rfl ?_
  refine q_iload_n rfl rfl ?_
  refine q_iload_n rfl rfl ?_
  refine q_icmp_ge rfl (fun c => absurd c (by decide)) (fun _ => ?_)
  refine q_aload_n rfl rfl ?_
  refine q_iload_n rfl rfl ?_
  refine q_iload_n rfl rfl ?_
  refine s_bastore (j := 12) rfl o14 (by decide) rfl (fun h15 o15 f15 => ?_)
  have s15 := s14.put f15
  refine s_iinc (y := 13) (lv' := [(2, .int 13), (3, .int 20), (0, .ref 7), (1, .int 0)]) rfl rfl (by decide) (by decide) rfl ?_
  refine q_goto rfl ?_
  refine q_iload_n rfl rfl ?_
  refine q_iload_n rfl rfl ?_
  refine q_icmp_ge rfl (fun c => absurd c (by decide)) (fun _ => ?_)
  refine q_aload_n rfl rfl ?_
  refine q_iload_n rfl rfl ?_
  refine q_iload_n rfl rfl ?_
  refine s_bastore (j := 13) rfl o15 (by decide) rfl (fun h16 o16 f16 => ?_)
  have s16 := s15.put f16
  refine s_iinc (y := 14) (lv' := [(2, .int 14), (3, .int 20), (0, .ref 7), (1, .int 0)]) rfl rfl (by decide) (by decide) rfl ?_
  refine q_goto rfl ?_
  refine q_iload_n rfl rfl ?_
  refine q_iload_n rfl rfl ?_
  refine q_icmp_ge rfl (fun c => absurd c (by decide)) (fun _ => ?_)
  refine q_aload_n rfl rfl ?_
  refine q_iload_n rfl rfl ?_
  refine q_iload_n rfl rfl ?_
  refine s_bastore (j := 14) rfl o16 (by decide) rfl (fun h17 o17 f17 => ?_)
  have s17 := s16.put f17
  refine s_iinc (y := 15) (lv' := [(2, .int 15), (3, .int 20), (0, .ref 7), (1, .int 0)]) rfl rfl (by decide) (by decide) rfl ?_
  refine q_goto rfl ?_
  refine q_iload_n rfl rfl ?_
  refine q_iload_n rfl rfl ?_
  refine q_icmp_ge rfl (fun c => absurd c (by decide)) (fun _ => ?_)
  refine q_aload_n rfl rfl ?_
  refine q_iload_n rfl rfl ?_
  refine q_iload_n rfl rfl ?_
  refine s_bastore (j := 15) rfl o17 (by decide) rfl (fun h18 o18 f18 => ?_)
  have s18 := s17.put f18
  refine s_iinc (y := 16) (lv' := [(2, .int 16), (3, .int 20), (0, .ref 7), (1, .int 0)]) rfl rfl (by decide) (by decide) rfl ?_
  refine q_goto rfl ?_
  refine q_iload_n rfl rfl ?_
  refine q_iload_n rfl rfl ?_
  refine q_icmp_ge rfl (fun c => absurd c (by decide)) (fun _ => ?_)
  refine q_aload_n rfl rfl ?_
  refine q_iload_n rfl rfl ?_
  refine q_iload_n rfl rfl ?_
  refine s_bastore (j := 16) rfl o18 (by decide) rfl (fun h19 o19 f19 => ?_)
  have s19 := s18.put f19
  refine s_iinc (y := 17) (lv' := [(2, .int 17), (3, .int 20), (0, .ref 7), (1, .int 0)]) rfl rfl (by decide) (by decide) rfl ?_
  refine q_goto rfl ?_
  refine q_iload_n rfl rfl ?_
  refine q_iload_n rfl rfl ?_
  refine q_icmp_ge rfl (fun c => absurd c (by decide)) (fun _ => ?_)
  refine q_aload_n rfl rfl ?_
  refine q_iload_n rfl rfl ?_
  refine q_iload_n rfl rfl ?_
  refine s_bastore (j := 17) rfl o19 (by decide) rfl (fun h20 o20 f20 => ?_)
  have s20 := s19.put f20
  refine s_iinc (y := 18) (lv' := [(2, .int 18), (3, .int 20), (0, .ref 7), (1, .int 0)]) rfl rfl (by decide) (by decide) rfl ?_
  refine q_goto rfl ?_
  refine q_iload_n rfl rfl ?_
  refine q_iload_n rfl rfl ?_
  refine q_icmp_ge rfl (fun c => absurd c (by decide)) (fun _ => ?_)
  refine q_aload_n rfl rfl ?_
  refine q_iload_n rfl rfl ?_
  refine q_iload_n rfl rfl ?_
  refine s_bastore (j := 18) rfl o20 (by decide) rfl (fun h21 o21 f21 => ?_)
  have s21 := s20.put f21
  refine s_iinc (y := 19) (lv' := [(2, .int 19), (3, .int 20), (0, .ref 7), (1, .int 0)]) rfl rfl (by decide) (by decide) rfl ?_
  refine q_goto rfl ?_
  refine q_iload_n rfl rfl ?_
  refine q_iload_n rfl rfl ?_
  refine q_icmp_ge rfl (fun c => absurd c (by decide)) (fun _ => ?_)
  refine q_aload_n rfl rfl ?_
  refine q_iload_n rfl rfl ?_
  refine q_iload_n rfl rfl ?_
  refine s_bastore (j := 19) rfl o21 (by decide) rfl (fun h22 o22 f22 => ?_)
  have s22 := s21.put f22
  refine s_iinc (y := 20) (lv' := [(2, .int 20), (3, .int 20), (0, .ref 7), (1, .int 0)]) rfl rfl (by decide) (by decide) rfl ?_
  refine q_goto rfl ?_
  refine q_iload_n rfl rfl ?_
  refine q_iload_n rfl rfl ?_
  refine q_icmp_ge rfl (fun _ => ?_) (fun c => absurd (by decide) c)
  refine q_return rfl rfl ?_
  show aW aiP 15 16 637 59 [(0, .ref 6), (1, .int 1)] [] h22 _
  refine q_aload_n rfl rfl ?_
  have e6_22 := ((((((((((((((((((((o2.ne f3 rfl).ne f4 rfl).ne f5 rfl).ne f6 rfl).ne f7 rfl).ne f8 rfl).ne f9 rfl).ne f10 rfl).ne f11 rfl).ne f12 rfl).ne f13 rfl).ne f14 rfl).ne f15 rfl).ne f16 rfl).ne f17 rfl).ne f18 rfl).ne f19 rfl).ne f20 rfl).ne f21 rfl).ne f22 rfl)
  refine s_get (v := .int 1) rfl e6_22 rfl rfl ?_
  refine q_ireturn rfl rfl ?_
  show aW aiP 0 17 658 233 [(4, .int 0), (3, .ref 233), (2, .ref 191), (1, .ref 6), (0, .ref 0)] [.int 1] h22 _
  refine q_aload_n rfl rfl ?_
  refine q_aload_n rfl rfl ?_
  refine q_iload rfl rfl ?_
  refine q_iconst rfl ?_
  refine s_iadd (k := 1) rfl (by decide) ?_
  have e0_22 := (f22.ne rfl (f21.ne rfl (f20.ne rfl (f19.ne rfl (f18.ne rfl (f17.ne rfl (f16.ne rfl (f15.ne rfl (f14.ne rfl (f13.ne rfl (f12.ne rfl (f11.ne rfl (f10.ne rfl (f9.ne rfl (f8.ne rfl (f7.ne rfl (f6.ne rfl (f5.ne rfl (f4.ne rfl (f3.ne rfl (f2.ne rfl (f1.ne rfl e0))))))))))))))))))))))
  refine s_iaload (j := 1) (v := .int (xs 1)) rfl e0_22 (by decide) rfl (by first | rfl | decide) ?_
  rw [hw]
  have e191_22 := ((((((((((((((((((((((e191.ne f1 rfl).ne f2 rfl).ne f3 rfl).ne f4 rfl).ne f5 rfl).ne f6 rfl).ne f7 rfl).ne f8 rfl).ne f9 rfl).ne f10 rfl).ne f11 rfl).ne f12 rfl).ne f13 rfl).ne f14 rfl).ne f15 rfl).ne f16 rfl).ne f17 rfl).ne f18 rfl).ne f19 rfl).ne f20 rfl).ne f21 rfl).ne f22 rfl)
  refine s_callV (as := [.int 1]) (rest := [.int 1]) (d' := 16) (w' := 636) (lv' := [(0, .ref 191), (1, .int 1)]) rfl e191_22 rfl rfl rfl rfl rfl rfl ?_
  refine q_aload_n rfl rfl ?_
  refine q_iconst rfl ?_
  refine s_put (vs' := [.int 0, .ref 192, .ref 193, .int 0, .ref 194, .ref 195, .ref 196, .ref 197, .ref 198, .ref 199, .ref 200, .ref 201, .ref 202, .ref 203, .ref 204, .ref 205, .int (-1), .int 0, .ref 206, .ref 207, .ref 208, .ref 209, .ref 210, .ref 211, .ref 212, .ref 213, .ref 214, .ref 215, .int 0, .int 0, .int 0, .int 0, .ref 216, .ref 217, .ref 218, .ref 219, .ref 220, .int (-1), .int 0, .int 0, .int 0, .int 0, .int 0, .int 0, .ref 221, .ref 222, .ref 223, .ref 224, .int 0, .ref 225, .int 0, .ref 226, .ref 227, .int 0, .ref 228, .ref 229, .ref 230, .ref 231, .ref 232]) rfl e191_22 rfl rfl rfl rfl (fun h23 o23 f23 => ?_)
  have s23 := s22.put f23
  refine q_iload_n rfl rfl ?_
  refine q_if_lt rfl (fun c => absurd c (by decide)) (fun _ => ?_)
  refine q_iload_n rfl rfl ?_
  refine q_bipush rfl ?_
  refine q_icmp_gt rfl (fun c => absurd c (by decide)) (fun _ => ?_)
  refine q_aload_n rfl rfl ?_
  refine s_get (v := .int 0) rfl o23 rfl rfl ?_
  refine q_iload_n rfl rfl ?_
  refine s_iadd (k := 1) rfl (by decide) ?_
  refine q_sipush rfl ?_
  refine q_icmp_le rfl (fun _ => ?_) (fun c => absurd (by decide) c)
  refine q_iconst rfl ?_
  refine s_istore_n (lv' := [(2, .int 0), (0, .ref 191), (1, .int 1)]) rfl (by decide) rfl ?_
  refine q_iload_n rfl rfl ?_
  refine q_iload_n rfl rfl ?_
  refine q_icmp_ge rfl (fun c => absurd c (by decide)) (fun _ => ?_)
  refine q_aload_n rfl rfl ?_
  refine s_get (v := .ref 193) rfl o23 rfl rfl ?_
  refine q_aload_n rfl rfl ?_
  refine s_get (v := .int 0) rfl o23 rfl rfl ?_
  refine q_aload_n rfl rfl ?_
  refine s_get (v := .ref 192) rfl o23 rfl rfl ?_
  refine q_iload_n rfl rfl ?_
  have e192_23 := (f23.ne rfl (f22.ne rfl (f21.ne rfl (f20.ne rfl (f19.ne rfl (f18.ne rfl (f17.ne rfl (f16.ne rfl (f15.ne rfl (f14.ne rfl (f13.ne rfl (f12.ne rfl (f11.ne rfl (f10.ne rfl (f9.ne rfl (f8.ne rfl (f7.ne rfl (f6.ne rfl (f5.ne rfl (f4.ne rfl (f3.ne rfl (f2.ne rfl (f1.ne rfl e192)))))))))))))))))))))))
  refine s_iaload (j := 0) (v := .int 0) rfl e192_23 (by decide) rfl (by first | rfl | decide) ?_
  have e193_23 := (f23.ne rfl (f22.ne rfl (f21.ne rfl (f20.ne rfl (f19.ne rfl (f18.ne rfl (f17.ne rfl (f16.ne rfl (f15.ne rfl (f14.ne rfl (f13.ne rfl (f12.ne rfl (f11.ne rfl (f10.ne rfl (f9.ne rfl (f8.ne rfl (f7.ne rfl (f6.ne rfl (f5.ne rfl (f4.ne rfl (f3.ne rfl (f2.ne rfl (f1.ne rfl e193)))))))))))))))))))))))
  refine s_iastore (j := 0) rfl e193_23 (by decide) rfl (fun h24 o24 f24 => ?_)
  have s24 := s23.put f24
  refine q_aload_n rfl rfl ?_
  refine q_dup rfl rfl ?_
  have e191_24 := (o23.ne f24 rfl)
  refine s_get (v := .int 0) rfl e191_24 rfl rfl ?_
  refine q_iconst rfl ?_
  refine s_iadd (k := 1) rfl (by decide) ?_
  refine s_put (vs' := [.int 0, .ref 192, .ref 193, .int 1, .ref 194, .ref 195, .ref 196, .ref 197, .ref 198, .ref 199, .ref 200, .ref 201, .ref 202, .ref 203, .ref 204, .ref 205, .int (-1), .int 0, .ref 206, .ref 207, .ref 208, .ref 209, .ref 210, .ref 211, .ref 212, .ref 213, .ref 214, .ref 215, .int 0, .int 0, .int 0, .int 0, .ref 216, .ref 217, .ref 218, .ref 219, .ref 220, .int (-1), .int 0, .int 0, .int 0, .int 0, .int 0, .int 0, .ref 221, .ref 222, .ref 223, .ref 224, .int 0, .ref 225, .int 0, .ref 226, .ref 227, .int 0, .ref 228, .ref 229, .ref 230, .ref 231, .ref 232]) rfl e191_24 rfl rfl rfl rfl (fun h25 o25 f25 => ?_)
  have s25 := s24.put f25
  refine s_iinc (y := 1) (lv' := [(2, .int 1), (0, .ref 191), (1, .int 1)]) rfl rfl (by decide) (by decide) rfl ?_
  refine q_goto rfl ?_
  refine q_iload_n rfl rfl ?_
  refine q_iload_n rfl rfl ?_
  refine q_icmp_ge rfl (fun _ => ?_) (fun c => absurd (by decide) c)
  refine q_iconst rfl ?_
  refine s_istore_n (lv' := [(2, .int 0), (0, .ref 191), (1, .int 1)]) rfl (by decide) rfl ?_
  refine q_iload_n rfl rfl ?_
  refine q_bipush rfl ?_
  refine q_icmp_ge rfl (fun c => absurd c (by decide)) (fun _ => ?_)
  refine q_aload_n rfl rfl ?_
  refine s_get (v := .ref 192) rfl o25 rfl rfl ?_
  refine q_iload_n rfl rfl ?_
  refine q_iconst rfl ?_
  have e192_25 := (f25.ne rfl (f24.ne rfl e192_23))
  refine s_iastore (j := 0) rfl e192_25 (by decide) rfl (fun h26 o26 f26 => ?_)
  have s26 := s25.put f26
  refine s_iinc (y := 1) (lv' := [(2, .int 1), (0, .ref 191), (1, .int 1)]) rfl rfl (by decide) (by decide) rfl ?_
  refine q_goto rfl ?_
  refine q_iload_n rfl rfl ?_
  refine q_bipush rfl ?_
  refine q_icmp_ge rfl (fun c => absurd c (by decide)) (fun _ => ?_)
  refine q_aload_n rfl rfl ?_
  have e191_26 := (o25.ne f26 rfl)
  refine s_get (v := .ref 192) rfl e191_26 rfl rfl ?_
  refine q_iload_n rfl rfl ?_
  refine q_iconst rfl ?_
  refine s_iastore (j := 1) rfl o26 (by decide) rfl (fun h27 o27 f27 => ?_)
  have s27 := s26.put f27
  refine s_iinc (y := 2) (lv' := [(2, .int 2), (0, .ref 191), (1, .int 1)]) rfl rfl (by decide) (by decide) rfl ?_
  refine q_goto rfl ?_
  refine q_iload_n rfl rfl ?_
  refine q_bipush rfl ?_
  refine q_icmp_ge rfl (fun c => absurd c (by decide)) (fun _ => ?_)
  refine q_aload_n rfl rfl ?_
  have e191_27 := (e191_26.ne f27 rfl)
  refine s_get (v := .ref 192) rfl e191_27 rfl rfl ?_
  refine q_iload_n rfl rfl ?_
  refine q_iconst rfl ?_
  refine s_iastore (j := 2) rfl o27 (by decide) rfl (fun h28 o28 f28 => ?_)
  have s28 := s27.put f28
  refine s_iinc (y := 3) (lv' := [(2, .int 3), (0, .ref 191), (1, .int 1)]) rfl rfl (by decide) (by decide) rfl ?_
  refine q_goto rfl ?_
  refine q_iload_n rfl rfl ?_
  refine q_bipush rfl ?_
  refine q_icmp_ge rfl (fun c => absurd c (by decide)) (fun _ => ?_)
  refine q_aload_n rfl rfl ?_
  have e191_28 := (e191_27.ne f28 rfl)
  refine s_get (v := .ref 192) rfl e191_28 rfl rfl ?_
  refine q_iload_n rfl rfl ?_
  refine q_iconst rfl ?_
  refine s_iastore (j := 3) rfl o28 (by decide) rfl (fun h29 o29 f29 => ?_)
  have s29 := s28.put f29
  refine s_iinc (y := 4) (lv' := [(2, .int 4), (0, .ref 191), (1, .int 1)]) rfl rfl (by decide) (by decide) rfl ?_
  refine q_goto rfl ?_
  refine q_iload_n rfl rfl ?_
  refine q_bipush rfl ?_
  refine q_icmp_ge rfl (fun c => absurd c (by decide)) (fun _ => ?_)
  refine q_aload_n rfl rfl ?_
  have e191_29 := (e191_28.ne f29 rfl)
  refine s_get (v := .ref 192) rfl e191_29 rfl rfl ?_
  refine q_iload_n rfl rfl ?_
  refine q_iconst rfl ?_
  refine s_iastore (j := 4) rfl o29 (by decide) rfl (fun h30 o30 f30 => ?_)
  have s30 := s29.put f30
  refine s_iinc (y := 5) (lv' := [(2, .int 5), (0, .ref 191), (1, .int 1)]) rfl rfl (by decide) (by decide) rfl ?_
  refine q_goto rfl ?_
  refine q_iload_n rfl rfl ?_
  refine q_bipush rfl ?_
  refine q_icmp_ge rfl (fun c => absurd c (by decide)) (fun _ => ?_)
  refine q_aload_n rfl rfl ?_
  have e191_30 := (e191_29.ne f30 rfl)
  refine s_get (v := .ref 192) rfl e191_30 rfl rfl ?_
  refine q_iload_n rfl rfl ?_
  refine q_iconst rfl ?_
  refine s_iastore (j := 5) rfl o30 (by decide) rfl (fun h31 o31 f31 => ?_)
  have s31 := s30.put f31
  refine s_iinc (y := 6) (lv' := [(2, .int 6), (0, .ref 191), (1, .int 1)]) rfl rfl (by decide) (by decide) rfl ?_
  refine q_goto rfl ?_
  refine q_iload_n rfl rfl ?_
  refine q_bipush rfl ?_
  refine q_icmp_ge rfl (fun c => absurd c (by decide)) (fun _ => ?_)
  refine q_aload_n rfl rfl ?_
  have e191_31 := (e191_30.ne f31 rfl)
  refine s_get (v := .ref 192) rfl e191_31 rfl rfl ?_
  refine q_iload_n rfl rfl ?_
  refine q_iconst rfl ?_
  refine s_iastore (j := 6) rfl o31 (by decide) rfl (fun h32 o32 f32 => ?_)
  have s32 := s31.put f32
  refine s_iinc (y := 7) (lv' := [(2, .int 7), (0, .ref 191), (1, .int 1)]) rfl rfl (by decide) (by decide) rfl ?_
  refine q_goto rfl ?_
  refine q_iload_n rfl rfl ?_
  refine q_bipush rfl ?_
  refine q_icmp_ge rfl (fun c => absurd c (by decide)) (fun _ => ?_)
  refine q_aload_n rfl rfl ?_
  have e191_32 := (e191_31.ne f32 rfl)
  refine s_get (v := .ref 192) rfl e191_32 rfl rfl ?_
  refine q_iload_n rfl rfl ?_
  refine q_iconst rfl ?_
  refine s_iastore (j := 7) rfl o32 (by decide) rfl (fun h33 o33 f33 => ?_)
  have s33 := s32.put f33
  refine s_iinc (y := 8) (lv' := [(2, .int 8), (0, .ref 191), (1, .int 1)]) rfl rfl (by decide) (by decide) rfl ?_
  refine q_goto rfl ?_
  refine q_iload_n rfl rfl ?_
  refine q_bipush rfl ?_
  refine q_icmp_ge rfl (fun c => absurd c (by decide)) (fun _ => ?_)
  refine q_aload_n rfl rfl ?_
  have e191_33 := (e191_32.ne f33 rfl)
  refine s_get (v := .ref 192) rfl e191_33 rfl rfl ?_
  refine q_iload_n rfl rfl ?_
  refine q_iconst rfl ?_
  refine s_iastore (j := 8) rfl o33 (by decide) rfl (fun h34 o34 f34 => ?_)
  have s34 := s33.put f34
  refine s_iinc (y := 9) (lv' := [(2, .int 9), (0, .ref 191), (1, .int 1)]) rfl rfl (by decide) (by decide) rfl ?_
  refine q_goto rfl ?_
  refine q_iload_n rfl rfl ?_
  refine q_bipush rfl ?_
  refine q_icmp_ge rfl (fun c => absurd c (by decide)) (fun _ => ?_)
  refine q_aload_n rfl rfl ?_
  have e191_34 := (e191_33.ne f34 rfl)
  refine s_get (v := .ref 192) rfl e191_34 rfl rfl ?_
  refine q_iload_n rfl rfl ?_
  refine q_iconst rfl ?_
  refine s_iastore (j := 9) rfl o34 (by decide) rfl (fun h35 o35 f35 => ?_)
  have s35 := s34.put f35
  refine s_iinc (y := 10) (lv' := [(2, .int 10), (0, .ref 191), (1, .int 1)]) rfl rfl (by decide) (by decide) rfl ?_
  refine q_goto rfl ?_
  refine q_iload_n rfl rfl ?_
  refine q_bipush rfl ?_
  refine q_icmp_ge rfl (fun c => absurd c (by decide)) (fun _ => ?_)
  refine q_aload_n rfl rfl ?_
  have e191_35 := (e191_34.ne f35 rfl)
  refine s_get (v := .ref 192) rfl e191_35 rfl rfl ?_
  refine q_iload_n rfl rfl ?_
  refine q_iconst rfl ?_
  refine s_iastore (j := 10) rfl o35 (by decide) rfl (fun h36 o36 f36 => ?_)
  have s36 := s35.put f36
  refine s_iinc (y := 11) (lv' := [(2, .int 11), (0, .ref 191), (1, .int 1)]) rfl rfl (by decide) (by decide) rfl ?_
  refine q_goto rfl ?_
  refine q_iload_n rfl rfl ?_
  refine q_bipush rfl ?_
  refine q_icmp_ge rfl (fun c => absurd c (by decide)) (fun _ => ?_)
  refine q_aload_n rfl rfl ?_
  have e191_36 := (e191_35.ne f36 rfl)
  refine s_get (v := .ref 192) rfl e191_36 rfl rfl ?_
  refine q_iload_n rfl rfl ?_
  refine q_iconst rfl ?_
  refine s_iastore (j := 11) rfl o36 (by decide) rfl (fun h37 o37 f37 => ?_)
  have s37 := s36.put f37
  refine s_iinc (y := 12) (lv' := [(2, .int 12), (0, .ref 191), (1, .int 1)]) rfl rfl (by decide) (by decide) rfl ?_
  refine q_goto rfl ?_
  refine q_iload_n rfl rfl ?_
  refine q_bipush rfl ?_
  refine q_icmp_ge rfl (fun c => absurd c (by decide)) (fun _ => ?_)
  refine q_aload_n rfl rfl ?_
  have e191_37 := (e191_36.ne f37 rfl)
  refine s_get (v := .ref 192) rfl e191_37 rfl rfl ?_
  refine q_iload_n rfl rfl ?_
  refine q_iconst rfl ?_
  refine s_iastore (j := 12) rfl o37 (by decide) rfl (fun h38 o38 f38 => ?_)
  have s38 := s37.put f38
  refine s_iinc (y := 13) (lv' := [(2, .int 13), (0, .ref 191), (1, .int 1)]) rfl rfl (by decide) (by decide) rfl ?_
  refine q_goto rfl ?_
  refine q_iload_n rfl rfl ?_
  refine q_bipush rfl ?_
  refine q_icmp_ge rfl (fun c => absurd c (by decide)) (fun _ => ?_)
  refine q_aload_n rfl rfl ?_
  have e191_38 := (e191_37.ne f38 rfl)
  refine s_get (v := .ref 192) rfl e191_38 rfl rfl ?_
  refine q_iload_n rfl rfl ?_
  refine q_iconst rfl ?_
  refine s_iastore (j := 13) rfl o38 (by decide) rfl (fun h39 o39 f39 => ?_)
  have s39 := s38.put f39
  refine s_iinc (y := 14) (lv' := [(2, .int 14), (0, .ref 191), (1, .int 1)]) rfl rfl (by decide) (by decide) rfl ?_
  refine q_goto rfl ?_
  refine q_iload_n rfl rfl ?_
  refine q_bipush rfl ?_
  refine q_icmp_ge rfl (fun c => absurd c (by decide)) (fun _ => ?_)
  refine q_aload_n rfl rfl ?_
  have e191_39 := (e191_38.ne f39 rfl)
  refine s_get (v := .ref 192) rfl e191_39 rfl rfl ?_
  refine q_iload_n rfl rfl ?_
  refine q_iconst rfl ?_
  refine s_iastore (j := 14) rfl o39 (by decide) rfl (fun h40 o40 f40 => ?_)
  have s40 := s39.put f40
  refine s_iinc (y := 15) (lv' := [(2, .int 15), (0, .ref 191), (1, .int 1)]) rfl rfl (by decide) (by decide) rfl ?_
  refine q_goto rfl ?_
  refine q_iload_n rfl rfl ?_
  refine q_bipush rfl ?_
  refine q_icmp_ge rfl (fun c => absurd c (by decide)) (fun _ => ?_)
  refine q_aload_n rfl rfl ?_
  have e191_40 := (e191_39.ne f40 rfl)
  refine s_get (v := .ref 192) rfl e191_40 rfl rfl ?_
  refine q_iload_n rfl rfl ?_
  refine q_iconst rfl ?_
  refine s_iastore (j := 15) rfl o40 (by decide) rfl (fun h41 o41 f41 => ?_)
  have s41 := s40.put f41
  refine s_iinc (y := 16) (lv' := [(2, .int 16), (0, .ref 191), (1, .int 1)]) rfl rfl (by decide) (by decide) rfl ?_
  refine q_goto rfl ?_
  refine q_iload_n rfl rfl ?_
  refine q_bipush rfl ?_
  refine q_icmp_ge rfl (fun c => absurd c (by decide)) (fun _ => ?_)
  refine q_aload_n rfl rfl ?_
  have e191_41 := (e191_40.ne f41 rfl)
  refine s_get (v := .ref 192) rfl e191_41 rfl rfl ?_
  refine q_iload_n rfl rfl ?_
  refine q_iconst rfl ?_
  refine s_iastore (j := 16) rfl o41 (by decide) rfl (fun h42 o42 f42 => ?_)
  have s42 := s41.put f42
  refine s_iinc (y := 17) (lv' := [(2, .int 17), (0, .ref 191), (1, .int 1)]) rfl rfl (by decide) (by decide) rfl ?_
  refine q_goto rfl ?_
  refine q_iload_n rfl rfl ?_
  refine q_bipush rfl ?_
  refine q_icmp_ge rfl (fun c => absurd c (by decide)) (fun _ => ?_)
  refine q_aload_n rfl rfl ?_
  have e191_42 := (e191_41.ne f42 rfl)
  refine s_get (v := .ref 192) rfl e191_42 rfl rfl ?_
  refine q_iload_n rfl rfl ?_
  refine q_iconst rfl ?_
  refine s_iastore (j := 17) rfl o42 (by decide) rfl (fun h43 o43 f43 => ?_)
  have s43 := s42.put f43
  refine s_iinc (y := 18) (lv' := [(2, .int 18), (0, .ref 191), (1, .int 1)]) rfl rfl (by decide) (by decide) rfl ?_
  refine q_goto rfl ?_
  refine q_iload_n rfl rfl ?_
  refine q_bipush rfl ?_
  refine q_icmp_ge rfl (fun c => absurd c (by decide)) (fun _ => ?_)
  refine q_aload_n rfl rfl ?_
  have e191_43 := (e191_42.ne f43 rfl)
  refine s_get (v := .ref 192) rfl e191_43 rfl rfl ?_
  refine q_iload_n rfl rfl ?_
  refine q_iconst rfl ?_
  refine s_iastore (j := 18) rfl o43 (by decide) rfl (fun h44 o44 f44 => ?_)
  have s44 := s43.put f44
  refine s_iinc (y := 19) (lv' := [(2, .int 19), (0, .ref 191), (1, .int 1)]) rfl rfl (by decide) (by decide) rfl ?_
  refine q_goto rfl ?_
  refine q_iload_n rfl rfl ?_
  refine q_bipush rfl ?_
  refine q_icmp_ge rfl (fun c => absurd c (by decide)) (fun _ => ?_)
  refine q_aload_n rfl rfl ?_
  have e191_44 := (e191_43.ne f44 rfl)
  refine s_get (v := .ref 192) rfl e191_44 rfl rfl ?_
  refine q_iload_n rfl rfl ?_
  refine q_iconst rfl ?_
  refine s_iastore (j := 19) rfl o44 (by decide) rfl (fun h45 o45 f45 => ?_)
  have s45 := s44.put f45
  refine s_iinc (y := 20) (lv' := [(2, .int 20), (0, .ref 191), (1, .int 1)]) rfl rfl (by decide) (by decide) rfl ?_
  refine q_goto rfl ?_
  refine q_iload_n rfl rfl ?_
  refine q_bipush rfl ?_
  refine q_icmp_ge rfl (fun _ => ?_) (fun c => absurd (by decide) c)
  refine q_aload_n rfl rfl ?_
  have e191_45 := (e191_44.ne f45 rfl)
  refine s_get (v := .int 1) rfl e191_45 rfl rfl ?_
  refine q_ireturn rfl rfl ?_
  show aW aiP 0 17 658 243 [(4, .int 0), (3, .ref 233), (2, .ref 191), (1, .ref 6), (0, .ref 0)] [.int 1, .int 1] h45 _
  refine q_icmp_eq rfl (fun _ => ?_) (fun c => absurd (by decide) c)
  refine s_iinc (y := 6) (lv' := [(4, .int 6), (3, .ref 233), (2, .ref 191), (1, .ref 6), (0, .ref 0)]) rfl rfl (by decide) (by decide) rfl ?_
  refine q_goto rfl ?_
  refine q_iload rfl rfl ?_
  refine q_aload_n rfl rfl ?_
  have e0_45 := (f45.ne rfl (f44.ne rfl (f43.ne rfl (f42.ne rfl (f41.ne rfl (f40.ne rfl (f39.ne rfl (f38.ne rfl (f37.ne rfl (f36.ne rfl (f35.ne rfl (f34.ne rfl (f33.ne rfl (f32.ne rfl (f31.ne rfl (f30.ne rfl (f29.ne rfl (f28.ne rfl (f27.ne rfl (f26.ne rfl (f25.ne rfl (f24.ne rfl (f23.ne rfl e0_22)))))))))))))))))))))))
  refine s_alen (x := 6) rfl e0_45 rfl (by decide) ?_
  refine q_bipush rfl ?_
  refine s_isub (k := 0) rfl (by decide) ?_
  refine q_icmp_gt rfl (fun _ => ?_) (fun c => absurd (by decide) c)
  refine q_iconst rfl ?_
  refine q_ireturn rfl rfl ?_
  exact ⟨rfl, s45.bd rfl⟩
set_option maxRecDepth 20000 in
set_option maxHeartbeats 4000000 in
theorem p_case1_2 {xs : Nat → Int32} {h : ai_H} (F : Fresh 6 xs h) (hk : xs 0 &&& 31 = 1) (hw : xs 1 = 2) : aW aiP 0 17 658 33 [(4, .int 0), (3, .ref 233), (2, .ref 191), (1, .ref 6), (0, .ref 0)] [] h p_Q := by
  obtain ⟨e0, e1, ⟨g2, e2⟩, ⟨g3, e3⟩, ⟨g4, e4⟩, e5, e6, e7, e8, e9, e51, e93, e135, e177, e178, e179, e180, e181, e182, e183, e184, e185, e186, e187, e188, e189, e190, e191, e192, e193, e194, e195, e196, e197, e198, e199, e200, e201, e202, e203, e204, e205, e206, e207, e208, e209, e210, e211, e212, e213, e214, e215, e216, e217, e218, e219, e220, e221, e222, e223, e224, e225, e226, e227, ⟨g228, e228⟩, ⟨g229, e229⟩, e230, e231, e232, e233, s0⟩ := F
  refine q_aload_n rfl rfl ?_
  refine q_iload rfl rfl ?_
  refine s_iaload (j := 0) (v := .int (xs 0)) rfl e0 (by decide) rfl (by first | rfl | decide) ?_
  refine q_bipush rfl ?_
  refine s_iand (k := ((xs 0) &&& (31 : Int32))) rfl rfl ?_
  rw [hk]
  show aW aiP 0 17 658 40 [(4, .int 0), (3, .ref 233), (2, .ref 191), (1, .ref 6), (0, .ref 0)] [.int 1] h _
  refine s_sw (tg := 223) rfl rfl ?_
  refine q_aload_n rfl rfl ?_
  refine q_aload_n rfl rfl ?_
  refine q_iload rfl rfl ?_
  refine q_iconst rfl ?_
  refine s_iadd (k := 1) rfl (by decide) ?_
  refine s_iaload (j := 1) (v := .int (xs 1)) rfl e0 (by decide) rfl (by first | rfl | decide) ?_
  rw [hw]
  refine s_callV (as := [.int 2]) (rest := []) (d' := 16) (w' := 637) (lv' := [(0, .ref 6), (1, .int 2)]) rfl e6 rfl rfl rfl rfl rfl rfl ?_
  refine q_iload_n rfl rfl ?_
  refine q_if_lt rfl (fun c => absurd c (by decide)) (fun _ => ?_)
  refine q_iload_n rfl rfl ?_
  refine q_bipush rfl ?_
  refine q_icmp_gt rfl (fun c => absurd c (by decide)) (fun _ => ?_)
  refine q_aload_n rfl rfl ?_
  refine s_get (v := .int 0) rfl e6 rfl rfl ?_
  refine q_iload_n rfl rfl ?_
  refine s_iadd (k := 2) rfl (by decide) ?_
  refine q_sipush rfl ?_
  refine q_icmp_le rfl (fun _ => ?_) (fun c => absurd (by decide) c)
  refine q_aload_n rfl rfl ?_
  refine s_get (v := .ref 7) rfl e6 rfl rfl ?_
  refine q_iconst rfl ?_
  refine q_aload_n rfl rfl ?_
  refine s_get (v := .ref 8) rfl e6 rfl rfl ?_
  refine q_aload_n rfl rfl ?_
  refine s_get (v := .int 0) rfl e6 rfl rfl ?_
  refine q_iload_n rfl rfl ?_
  refine s_copy (sp := 0) (dp := 0) (k := 2) rfl e7 e8 (by decide) (by decide) (by decide) rfl (by decide) (by decide) (by decide) (fun i _ => rfl) (fun h1 o1 f1 => ?_)
  have s1 := s0.put f1
  refine q_aload_n rfl rfl ?_
  refine q_dup rfl rfl ?_
  have e6_1 := (e6.ne f1 rfl)
  refine s_get (v := .int 0) rfl e6_1 rfl rfl ?_
  refine q_iload_n rfl rfl ?_
  refine s_iadd (k := 2) rfl (by decide) ?_
  refine s_put (vs' := [.ref 7, .ref 8, .int 2, .ref 9, .int (-1), .ref 51, .ref 93, .ref 135, .ref 177, .ref 180, .int 0, .ref 183, .ref 186, .ref 189]) rfl e6_1 rfl rfl rfl rfl (fun h2 o2 f2 => ?_)
  have s2 := s1.put f2
  refine q_aload_n rfl rfl ?_
  refine s_get (v := .ref 7) rfl o2 rfl rfl ?_
  refine q_iconst rfl ?_
  refine s_callS (as := [.ref 7, .int 0]) (rest := []) (d' := 15) (w' := 614) (lv' := [(0, .ref 7), (1, .int 0)]) rfl rfl rfl rfl rfl rfl rfl rfl ?_
  refine q_iconst rfl ?_
  refine s_istore_n (lv' := [(2, .int 0), (0, .ref 7), (1, .int 0)]) rfl (by decide) rfl ?_
  refine q_aload_n rfl rfl ?_
  have e7_2 := (f2.ne rfl (f1.ne rfl e7))
  refine s_alen (x := 20) rfl e7_2 rfl (by decide) ?_
  refine s_istore_n (lv' := [(3, .int 20), (2, .int 0), (0, .ref 7), (1, .int 0)]) rfl (by decide) rfl ?_
  refine q_iload_n rfl rfl ?_
  refine q_iload_n rfl rfl ?_
  refine q_icmp_ge rfl (fun c => absurd c (by decide)) (fun _ => ?_)
  refine q_aload_n rfl rfl ?_
  refine q_iload_n rfl rfl ?_
  refine q_iload_n rfl rfl ?_
  refine s_bastore (j := 0) rfl e7_2 (by decide) rfl (fun h3 o3 f3 => ?_)
  have s3 := s2.put f3
  refine s_iinc (y := 1) (lv' := [(2, .int 1), (3, .int 20), (0, .ref 7), (1, .int 0)]) rfl rfl (by decide) (by decide) rfl ?_
  refine q_goto rfl ?_
  refine q_iload_n rfl rfl ?_
  refine q_iload_n rfl rfl ?_
  refine q_icmp_ge rfl (fun c => absurd c (by decide)) (fun _ => ?_)
  refine q_aload_n rfl rfl ?_
  refine q_iload_n rfl rfl ?_
  refine q_iload_n rfl rfl ?_
  refine s_bastore (j := 1) rfl o3 (by decide) rfl (fun h4 o4 f4 => ?_)
  have s4 := s3.put f4
  refine s_iinc (y := 2) (lv' := [(2, .int 2), (3, .int 20), (0, .ref 7), (1, .int 0)]) rfl rfl (by decide) (by decide) rfl ?_
  refine q_goto rfl ?_
  refine q_iload_n rfl rfl ?_
  refine q_iload_n rfl rfl ?_
  refine q_icmp_ge rfl (fun c => absurd c (by decide)) (fun _ => ?_)
  refine q_aload_n rfl rfl ?_
  refine q_iload_n rfl rfl ?_
  refine q_iload_n rfl rfl ?_
  refine s_bastore (j := 2) rfl o4 (by decide) rfl (fun h5 o5 f5 => ?_)
  have s5 := s4.put f5
  refine s_iinc (y := 3) (lv' := [(2, .int 3), (3, .int 20), (0, .ref 7), (1, .int 0)]) rfl rfl (by decide) (by decide) rfl ?_
  refine q_goto rfl ?_
  refine q_iload_n rfl rfl ?_
  refine q_iload_n rfl rfl ?_
  refine q_icmp_ge rfl (fun c => absurd c (by decide)) (fun _ => ?_)
  refine q_aload_n rfl rfl ?_
  refine q_iload_n rfl rfl ?_
  refine q_iload_n rfl rfl ?_
  refine s_bastore (j := 3) rfl o5 (by decide) rfl (fun h6 o6 f6 => ?_)
  have s6 := s5.put f6
  refine s_iinc (y := 4) (lv' := [(2, .int 4), (3, .int 20), (0, .ref 7), (1, .int 0)]) rfl rfl (by decide) (by decide) rfl ?_
  refine q_goto rfl ?_
  refine q_iload_n rfl rfl ?_
  refine q_iload_n rfl rfl ?_
  refine q_icmp_ge rfl (fun c => absurd c (by decide)) (fun _ => ?_)
  refine q_aload_n rfl rfl ?_
  refine q_iload_n rfl rfl ?_
  refine q_iload_n rfl rfl ?_
  refine s_bastore (j := 4) rfl o6 (by decide) rfl (fun h7 o7 f7 => ?_)
  have s7 := s6.put f7
  refine s_iinc (y := 5) (lv' := [(2, .int 5), (3, .int 20), (0, .ref 7), (1, .int 0)]) rfl rfl (by decide) (by decide) rfl ?_
  refine q_goto rfl ?_
  refine q_iload_n rfl rfl ?_
  refine q_iload_n rfl rfl ?_
  refine q_icmp_ge rfl (fun c => absurd c (by decide)) (fun _ => ?_)
  refine q_aload_n rfl rfl ?_
  refine q_iload_n rfl rfl ?_
  refine q_iload_n rfl rfl ?_
  refine s_bastore (j := 5) rfl o7 (by decide) rfl (fun h8 o8 f8 => ?_)
  have s8 := s7.put f8
  refine s_iinc (y := 6) (lv' := [(2, .int 6), (3, .int 20), (0, .ref 7), (1, .int 0)]) rfl rfl (by decide) (by decide) rfl ?_
  refine q_goto rfl ?_
  refine q_iload_n rfl rfl ?_
  refine q_iload_n rfl rfl ?_
  refine q_icmp_ge rfl (fun c => absurd c (by decide)) (fun _ => ?_)
  refine q_aload_n rfl rfl ?_
  refine q_iload_n rfl rfl ?_
  refine q_iload_n rfl rfl ?_
  refine s_bastore (j := 6) rfl o8 (by decide) rfl (fun h9 o9 f9 => ?_)
  have s9 := s8.put f9
  refine s_iinc (y := 7) (lv' := [(2, .int 7), (3, .int 20), (0, .ref 7), (1, .int 0)]) rfl rfl (by decide) (by decide) rfl ?_
  refine q_goto rfl ?_
  refine q_iload_n rfl rfl ?_
  refine q_iload_n rfl rfl ?_
  refine q_icmp_ge rfl (fun c => absurd c (by decide)) (fun _ => ?_)
  refine q_aload_n rfl rfl ?_
  refine q_iload_n rfl rfl ?_
  refine q_iload_n rfl rfl ?_
  refine s_bastore (j := 7) rfl o9 (by decide) rfl (fun h10 o10 f10 => ?_)
  have s10 := s9.put f10
  refine s_iinc (y := 8) (lv' := [(2, .int 8), (3, .int 20), (0, .ref 7), (1, .int 0)]) rfl rfl (by decide) (by decide) rfl ?_
  refine q_goto rfl ?_
  refine q_iload_n rfl rfl ?_
  refine q_iload_n rfl rfl ?_
  refine q_icmp_ge rfl (fun c => absurd c (by decide)) (fun _ => ?_)
  refine q_aload_n rfl rfl ?_
  refine q_iload_n rfl rfl ?_
  refine q_iload_n rfl rfl ?_
  refine s_bastore (j := 8) rfl o10 (by decide) rfl (fun h11 o11 f11 => ?_)
  have s11 := s10.put f11
  refine s_iinc (y := 9) (lv' := [(2, .int 9), (3, .int 20), (0, .ref 7), (1, .int 0)]) rfl rfl (by decide) (by decide) rfl ?_
  refine q_goto rfl ?_
  refine q_iload_n rfl rfl ?_
  refine q_iload_n rfl rfl ?_
  refine q_icmp_ge rfl (fun c => absurd c (by decide)) (fun _ => ?_)
  refine q_aload_n rfl rfl ?_
  refine q_iload_n rfl rfl ?_
  refine q_iload_n rfl rfl ?_
  refine s_bastore (j := 9) rfl o11 (by decide) rfl (fun h12 o12 f12 => ?_)
  have s12 := s11.put f12
  refine s_iinc (y := 10) (lv' := [(2, .int 10), (3, .int 20), (0, .ref 7), (1, .int 0)]) rfl rfl (by decide) (by decide) rfl ?_
  refine q_goto rfl ?_
  refine q_iload_n rfl rfl ?_
  refine q_iload_n rfl rfl ?_
  refine q_icmp_ge rfl (fun c => absurd c (by decide)) (fun _ => ?_)
  refine q_aload_n rfl rfl ?_
  refine q_iload_n rfl rfl ?_
  refine q_iload_n rfl rfl ?_
  refine s_bastore (j := 10) rfl o12 (by decide) rfl (fun h13 o13 f13 => ?_)
  have s13 := s12.put f13
  refine s_iinc (y := 11) (lv' := [(2, .int 11), (3, .int 20), (0, .ref 7), (1, .int 0)]) rfl rfl (by decide) (by decide) rfl ?_
  refine q_goto rfl ?_
  refine q_iload_n rfl rfl ?_
  refine q_iload_n rfl rfl ?_
  refine q_icmp_ge rfl (fun c => absurd c (by decide)) (fun _ => ?_)
  refine q_aload_n rfl rfl ?_
  refine q_iload_n rfl rfl ?_
  refine q_iload_n rfl rfl ?_
  refine s_bastore (j := 11) rfl o13 (by decide) rfl (fun h14 o14 f14 => ?_)
  have s14 := s13.put f14
  refine s_iinc (y := 12) (lv' := [(2, .int 12), (3, .int 20), (0, .ref 7), (1, .int 0)]) rfl rfl (by decide) (by decide) rfl ?_
  refine q_goto rfl ?_
  refine q_iload_n rfl rfl ?_
  refine q_iload_n rfl rfl ?_
  refine q_icmp_ge rfl (fun c => absurd c (by decide)) (fun _ => ?_)
  refine q_aload_n rfl rfl ?_
  refine q_iload_n rfl rfl ?_
  refine q_iload_n rfl rfl ?_
  refine s_bastore (j := 12) rfl o14 (by decide) rfl (fun h15 o15 f15 => ?_)
  have s15 := s14.put f15
  refine s_iinc (y := 13) (lv' := [(2, .int 13), (3, .int 20), (0, .ref 7), (1, .int 0)]) rfl rfl (by decide) (by decide) rfl ?_
  refine q_goto rfl ?_
  refine q_iload_n rfl rfl ?_
  refine q_iload_n rfl rfl ?_
  refine q_icmp_ge rfl (fun c => absurd c (by decide)) (fun _ => ?_)
  refine q_aload_n rfl rfl ?_
  refine q_iload_n rfl rfl ?_
  refine q_iload_n rfl rfl ?_
  refine s_bastore (j := 13) rfl o15 (by decide) rfl (fun h16 o16 f16 => ?_)
  have s16 := s15.put f16
  refine s_iinc (y := 14) (lv' := [(2, .int 14), (3, .int 20), (0, .ref 7), (1, .int 0)]) rfl rfl (by decide) (by decide) rfl ?_
  refine q_goto rfl ?_
  refine q_iload_n rfl rfl ?_
  refine q_iload_n rfl rfl ?_
  refine q_icmp_ge rfl (fun c => absurd c (by decide)) (fun _ => ?_)
  refine q_aload_n rfl rfl ?_
  refine q_iload_n rfl rfl ?_
  refine q_iload_n rfl rfl ?_
  refine s_bastore (j := 14) rfl o16 (by decide) rfl (fun h17 o17 f17 => ?_)
  have s17 := s16.put f17
  refine s_iinc (y := 15) (lv' := [(2, .int 15), (3, .int 20), (0, .ref 7), (1, .int 0)]) rfl rfl (by decide) (by decide) rfl ?_
  refine q_goto rfl ?_
  refine q_iload_n rfl rfl ?_
  refine q_iload_n rfl rfl ?_
  refine q_icmp_ge rfl (fun c => absurd c (by decide)) (fun _ => ?_)
  refine q_aload_n rfl rfl ?_
  refine q_iload_n rfl rfl ?_
  refine q_iload_n rfl rfl ?_
  refine s_bastore (j := 15) rfl o17 (by decide) rfl (fun h18 o18 f18 => ?_)
  have s18 := s17.put f18
  refine s_iinc (y := 16) (lv' := [(2, .int 16), (3, .int 20), (0, .ref 7), (1, .int 0)]) rfl rfl (by decide) (by decide) rfl ?_
  refine q_goto rfl ?_
  refine q_iload_n rfl rfl ?_
  refine q_iload_n rfl rfl ?_
  refine q_icmp_ge rfl (fun c => absurd c (by decide)) (fun _ => ?_)
  refine q_aload_n rfl rfl ?_
  refine q_iload_n rfl rfl ?_
  refine q_iload_n rfl rfl ?_
  refine s_bastore (j := 16) rfl o18 (by decide) rfl (fun h19 o19 f19 => ?_)
  have s19 := s18.put f19
  refine s_iinc (y := 17) (lv' := [(2, .int 17), (3, .int 20), (0, .ref 7), (1, .int 0)]) rfl rfl (by decide) (by decide) rfl ?_
  refine q_goto rfl ?_
  refine q_iload_n rfl rfl ?_
  refine q_iload_n rfl rfl ?_
  refine q_icmp_ge rfl (fun c => absurd c (by decide)) (fun _ => ?_)
  refine q_aload_n rfl rfl ?_
  refine q_iload_n rfl rfl ?_
  refine q_iload_n rfl rfl ?_
  refine s_bastore (j := 17) rfl o19 (by decide) rfl (fun h20 o20 f20 => ?_)
  have s20 := s19.put f20
  refine s_iinc (y := 18) (lv' := [(2, .int 18), (3, .int 20), (0, .ref 7), (1, .int 0)]) rfl rfl (by decide) (by decide) rfl ?_
  refine q_goto rfl ?_
  refine q_iload_n rfl rfl ?_
  refine q_iload_n rfl rfl ?_
  refine q_icmp_ge rfl (fun c => absurd c (by decide)) (fun _ => ?_)
  refine q_aload_n rfl rfl ?_
  refine q_iload_n rfl rfl ?_
  refine q_iload_n rfl rfl ?_
  refine s_bastore (j := 18) rfl o20 (by decide) rfl (fun h21 o21 f21 => ?_)
  have s21 := s20.put f21
  refine s_iinc (y := 19) (lv' := [(2, .int 19), (3, .int 20), (0, .ref 7), (1, .int 0)]) rfl rfl (by decide) (by decide) rfl ?_
  refine q_goto rfl ?_
  refine q_iload_n rfl rfl ?_
  refine q_iload_n rfl rfl ?_
  refine q_icmp_ge rfl (fun c => absurd c (by decide)) (fun _ => ?_)
  refine q_aload_n rfl rfl ?_
  refine q_iload_n rfl rfl ?_
  refine q_iload_n rfl rfl ?_
  refine s_bastore (j := 19) rfl o21 (by decide) rfl (fun h22 o22 f22 => ?_)
  have s22 := s21.put f22
  refine s_iinc (y := 20) (lv' := [(2, .int 20), (3, .int 20), (0, .ref 7), (1, .int 0)]) rfl rfl (by decide) (by decide) rfl ?_
  refine q_goto rfl ?_
  refine q_iload_n rfl rfl ?_
  refine q_iload_n rfl rfl ?_
  refine q_icmp_ge rfl (fun _ => ?_) (fun c => absurd (by decide) c)
  refine q_return rfl rfl ?_
  show aW aiP 15 16 637 59 [(0, .ref 6), (1, .int 2)] [] h22 _
  refine q_aload_n rfl rfl ?_
  have e6_22 := ((((((((((((((((((((o2.ne f3 rfl).ne f4 rfl).ne f5 rfl).ne f6 rfl).ne f7 rfl).ne f8 rfl).ne f9 rfl).ne f10 rfl).ne f11 rfl).ne f12 rfl).ne f13 rfl).ne f14 rfl).ne f15 rfl).ne f16 rfl).ne f17 rfl).ne f18 rfl).ne f19 rfl).ne f20 rfl).ne f21 rfl).ne f22 rfl)
  refine s_get (v := .int 2) rfl e6_22 rfl rfl ?_
  refine q_ireturn rfl rfl ?_
  show aW aiP 0 17 658 233 [(4, .int 0), (3, .ref 233), (2, .ref 191), (1, .ref 6), (0, .ref 0)] [.int 2] h22 _
  refine q_aload_n rfl rfl ?_
  refine q_aload_n rfl rfl ?_
  refine q_iload rfl rfl ?_
  refine q_iconst rfl ?_
  refine s_iadd (k := 1) rfl (by decide) ?_
  have e0_22 := (f22.ne rfl (f21.ne rfl (f20.ne rfl (f19.ne rfl (f18.ne rfl (f17.ne rfl (f16.ne rfl (f15.ne rfl (f14.ne rfl (f13.ne rfl (f12.ne rfl (f11.ne rfl (f10.ne rfl (f9.ne rfl (f8.ne rfl (f7.ne rfl (f6.ne rfl (f5.ne rfl (f4.ne rfl (f3.ne rfl (f2.ne rfl (f1.ne rfl e0))))))))))))))))))))))
  refine s_iaload (j := 1) (v := .int (xs 1)) rfl e0_22 (by decide) rfl (by first | rfl | decide) ?_
  rw [hw]
  have e191_22 := ((((((((((((((((((((((e191.ne f1 rfl).ne f2 rfl).ne f3 rfl).ne f4 rfl).ne f5 rfl).ne f6 rfl).ne f7 rfl).ne f8 rfl).ne f9 rfl).ne f10 rfl).ne f11 rfl).ne f12 rfl).ne f13 rfl).ne f14 rfl).ne f15 rfl).ne f16 rfl).ne f17 rfl).ne f18 rfl).ne f19 rfl).ne f20 rfl).ne f21 rfl).ne f22 rfl)
  refine s_callV (as := [.int 2]) (rest := [.int 2]) (d' := 16) (w' := 636) (lv' := [(0, .ref 191), (1, .int 2)]) rfl e191_22 rfl rfl rfl rfl rfl rfl ?_
  refine q_aload_n rfl rfl ?_
  refine q_iconst rfl ?_
  refine s_put (vs' := [.int 0, .ref 192, .ref 193, .int 0, .ref 194, .ref 195, .ref 196, .ref 197, .ref 198, .ref 199, .ref 200, .ref 201, .ref 202, .ref 203, .ref 204, .ref 205, .int (-1), .int 0, .ref 206, .ref 207, .ref 208, .ref 209, .ref 210, .ref 211, .ref 212, .ref 213, .ref 214, .ref 215, .int 0, .int 0, .int 0, .int 0, .ref 216, .ref 217, .ref 218, .ref 219, .ref 220, .int (-1), .int 0, .int 0, .int 0, .int 0, .int 0, .int 0, .ref 221, .ref 222, .ref 223, .ref 224, .int 0, .ref 225, .int 0, .ref 226, .ref 227, .int 0, .ref 228, .ref 229, .ref 230, .ref 231, .ref 232]) rfl e191_22 rfl rfl rfl rfl (fun h23 o23 f23 => ?_)
  have s23 := s22.put f23
  refine q_iload_n rfl rfl ?_
  refine q_if_lt rfl (fun c => absurd c (by decide)) (fun _ => ?_)
  refine q_iload_n rfl rfl ?_
  refine q_bipush rfl ?_
  refine q_icmp_gt rfl (fun c => absurd c (by decide)) (fun _ => ?_)
  refine q_aload_n rfl rfl ?_
  refine s_get (v := .int 0) rfl o23 rfl rfl ?_
  refine q_iload_n rfl rfl ?_
  refine s_iadd (k := 2) rfl (by decide) ?_
  refine q_sipush rfl ?_
  refine q_icmp_le rfl (fun _ => ?_) (fun c => absurd (by decide) c)
  refine q_iconst rfl ?_
  refine s_istore_n (lv' := [(2, .int 0), (0, .ref 191), (1, .int 2)]) rfl (by decide) rfl ?_
  refine q_iload_n rfl rfl ?_
  refine q_iload_n rfl rfl ?_
  refine q_icmp_ge rfl (fun c => absurd c (by decide)) (fun _ => ?_)
  refine q_aload_n rfl rfl ?_
  refine s_get (v := .ref 193) rfl o23 rfl rfl ?_
  refine q_aload_n rfl rfl ?_
  refine s_get (v := .int 0) rfl o23 rfl rfl ?_
  refine q_aload_n rfl rfl ?_
  refine s_get (v := .ref 192) rfl o23 rfl rfl ?_
  refine q_iload_n rfl rfl ?_
  have e192_23 := (f23.ne rfl (f22.ne rfl (f21.ne rfl (f20.ne rfl (f19.ne rfl (f18.ne rfl (f17.ne rfl (f16.ne rfl (f15.ne rfl (f14.ne rfl (f13.ne rfl (f12.ne rfl (f11.ne rfl (f10.ne rfl (f9.ne rfl (f8.ne rfl (f7.ne rfl (f6.ne rfl (f5.ne rfl (f4.ne rfl (f3.ne rfl (f2.ne rfl (f1.ne rfl e192)))))))))))))))))))))))
  refine s_iaload (j := 0) (v := .int 0) rfl e192_23 (by decide) rfl (by first | rfl | decide) ?_
  have e193_23 := (f23.ne rfl (f22.ne rfl (f21.ne rfl (f20.ne rfl (f19.ne rfl (f18.ne rfl (f17.ne rfl (f16.ne rfl (f15.ne rfl (f14.ne rfl (f13.ne rfl (f12.ne rfl (f11.ne rfl (f10.ne rfl (f9.ne rfl (f8.ne rfl (f7.ne rfl (f6.ne rfl (f5.ne rfl (f4.ne rfl (f3.ne rfl (f2.ne rfl (f1.ne rfl e193)))))))))))))))))))))))
  refine s_iastore (j := 0) rfl e193_23 (by decide) rfl (fun h24 o24 f24 => ?_)
  have s24 := s23.put f24
  refine q_aload_n rfl rfl ?_
  refine q_dup rfl rfl ?_
  have e191_24 := (o23.ne f24 rfl)
  refine s_get (v := .int 0) rfl e191_24 rfl rfl ?_
  refine q_iconst rfl ?_
  refine s_iadd (k := 1) rfl (by decide) ?_
  refine s_put (vs' := [.int 0, .ref 192, .ref 193, .int 1, .ref 194, .ref 195, .ref 196, .ref 197, .ref 198, .ref 199, .ref 200, .ref 201, .ref 202, .ref 203, .ref 204, .ref 205, .int (-1), .int 0, .ref 206, .ref 207, .ref 208, .ref 209, .ref 210, .ref 211, .ref 212, .ref 213, .ref 214, .ref 215, .int 0, .int 0, .int 0, .int 0, .ref 216, .ref 217, .ref 218, .ref 219, .ref 220, .int (-1), .int 0, .int 0, .int 0, .int 0, .int 0, .int 0, .ref 221, .ref 222, .ref 223, .ref 224, .int 0, .ref 225, .int 0, .ref 226, .ref 227, .int 0, .ref 228, .ref 229, .ref 230, .ref 231, .ref 232]) rfl e191_24 rfl rfl rfl rfl (fun h25 o25 f25 => ?_)
  have s25 := s24.put f25
  refine s_iinc (y := 1) (lv' := [(2, .int 1), (0, .ref 191), (1, .int 2)]) rfl rfl (by decide) (by decide) rfl ?_
  refine q_goto rfl ?_
  refine q_iload_n rfl rfl ?_
  refine q_iload_n rfl rfl ?_
  refine q_icmp_ge rfl (fun c => absurd c (by decide)) (fun _ => ?_)
  refine q_aload_n rfl rfl ?_
  refine s_get (v := .ref 193) rfl o25 rfl rfl ?_
  refine q_aload_n rfl rfl ?_
  refine s_get (v := .int 1) rfl o25 rfl rfl ?_
  refine q_aload_n rfl rfl ?_
  refine s_get (v := .ref 192) rfl o25 rfl rfl ?_
  refine q_iload_n rfl rfl ?_
  have e192_25 := (f25.ne rfl (f24.ne rfl e192_23))
  refine s_iaload (j := 1) (v := .int 0) rfl e192_25 (by decide) rfl (by first | rfl | decide) ?_
  have e193_25 := (f25.ne rfl o24)
  refine s_iastore (j := 1) rfl e193_25 (by decide) rfl (fun h26 o26 f26 => ?_)
  have s26 := s25.put f26
  refine q_aload_n rfl rfl ?_
  refine q_dup rfl rfl ?_
  have e191_26 := (o25.ne f26 rfl)
  refine s_get (v := .int 1) rfl e191_26 rfl rfl ?_
  refine q_iconst rfl ?_
  refine s_iadd (k := 2) rfl (by decide) ?_
  refine s_put (vs' := [.int 0, .ref 192, .ref 193, .int 2, .ref 194, .ref 195, .ref 196, .ref 197, .ref 198, .ref 199, .ref 200, .ref 201, .ref 202, .ref 203, .ref 204, .ref 205, .int (-1), .int 0, .ref 206, .ref 207, .ref 208, .ref 209, .ref 210, .ref 211, .ref 212, .ref 213, .ref 214, .ref 215, .int 0, .int 0, .int 0, .int 0, .ref 216, .ref 217, .ref 218, .ref 219, .ref 220, .int (-1), .int 0, .int 0, .int 0, .int 0, .int 0, .int 0, .ref 221, .ref 222, .ref 223, .ref 224, .int 0, .ref 225, .int 0, .ref 226, .ref 227, .int 0, .ref 228, .ref 229, .ref 230, .ref 231, .ref 232]) rfl e191_26 rfl rfl rfl rfl (fun h27 o27 f27 => ?_)
  have s27 := s26.put f27
  refine s_iinc (y := 2) (lv' := [(2, .int 2), (0, .ref 191), (1, .int 2)]) rfl rfl (by decide) (by decide) rfl ?_
  refine q_goto rfl ?_
  refine q_iload_n rfl rfl ?_
  refine q_iload_n rfl rfl ?_
  refine q_icmp_ge rfl (fun _ => ?_) (fun c => absurd (by decide) c)
  refine q_iconst rfl ?_
  refine s_istore_n (lv' := [(2, .int 0), (0, .ref 191), (1, .int 2)]) rfl (by decide) rfl ?_
  refine q_iload_n rfl rfl ?_
  refine q_bipush rfl ?_
  refine q_icmp_ge rfl (fun c => absurd c (by decide)) (fun _ => ?_)
  refine q_aload_n rfl rfl ?_
  refine s_get (v := .ref 192) rfl o27 rfl rfl ?_
  refine q_iload_n rfl rfl ?_
  refine q_iconst rfl ?_
  have e192_27 := (f27.ne rfl (f26.ne rfl e192_25))
  refine s_iastore (j := 0) rfl e192_27 (by decide) rfl (fun h28 o28 f28 => ?_)
  have s28 := s27.put f28
  refine s_iinc (y := 1) (lv' := [(2, .int 1), (0, .ref 191), (1, .int 2)]) rfl rfl (by decide) (by decide) rfl ?_
  refine q_goto rfl ?_
  refine q_iload_n rfl rfl ?_
  refine q_bipush rfl ?_
  refine q_icmp_ge rfl (fun c => absurd c (by decide)) (fun _ => ?_)
  refine q_aload_n rfl rfl ?_
  have e191_28 := (o27.ne f28 rfl)
  refine s_get (v := .ref 192) rfl e191_28 rfl rfl ?_
  refine q_iload_n rfl rfl ?_
  refine q_iconst rfl ?_
  refine s_iastore (j := 1) rfl o28 (by decide) rfl (fun h29 o29 f29 => ?_)
  have s29 := s28.put f29
  refine s_iinc (y := 2) (lv' := [(2, .int 2), (0, .ref 191), (1, .int 2)]) rfl rfl (by decide) (by decide) rfl ?_
  refine q_goto rfl ?_
  refine q_iload_n rfl rfl ?_
  refine q_bipush rfl ?_
  refine q_icmp_ge rfl (fun c => absurd c (by decide)) (fun _ => ?_)
  refine q_aload_n rfl rfl ?_
  have e191_29 := (e191_28.ne f29 rfl)
  refine s_get (v := .ref 192) rfl e191_29 rfl rfl ?_
  refine q_iload_n rfl rfl ?_
  refine q_iconst rfl ?_
  refine s_iastore (j := 2) rfl o29 (by decide) rfl (fun h30 o30 f30 => ?_)
  have s30 := s29.put f30
  refine s_iinc (y := 3) (lv' := [(2, .int 3), (0, .ref 191), (1, .int 2)]) rfl rfl (by decide) (by decide) rfl ?_
  refine q_goto rfl ?_
  refine q_iload_n rfl rfl ?_
  refine q_bipush rfl ?_
  refine q_icmp_ge rfl (fun c => absurd c (by decide)) (fun _ => ?_)
  refine q_aload_n rfl rfl ?_
  have e191_30 := (e191_29.ne f30 rfl)
  refine s_get (v := .ref 192) rfl e191_30 rfl rfl ?_
  refine q_iload_n rfl rfl ?_
  refine q_iconst rfl ?_
  refine s_iastore (j := 3) rfl o30 (by decide) rfl (fun h31 o31 f31 => ?_)
  have s31 := s30.put f31
  refine s_iinc (y := 4) (lv' := [(2, .int 4), (0, .ref 191), (1, .int 2)]) rfl rfl (by decide) (by decide) rfl ?_
  refine q_goto rfl ?_
  refine q_iload_n rfl rfl ?_
  refine q_bipush rfl ?_
  refine q_icmp_ge rfl (fun c => absurd c (by decide)) (fun _ => ?_)
  refine q_aload_n rfl rfl ?_
  have e191_31 := (e191_30.ne f31 rfl)
  refine s_get (v := .ref 192) rfl e191_31 rfl rfl ?_
  refine q_iload_n rfl rfl ?_
  refine q_iconst rfl ?_
  refine s_iastore (j := 4) rfl o31 (by decide) rfl (fun h32 o32 f32 => ?_)
  have s32 := s31.put f32
  refine s_iinc (y := 5) (lv' := [(2, .int 5), (0, .ref 191), (1, .int 2)]) rfl rfl (by decide) (by decide) rfl ?_
  refine q_goto rfl ?_
  refine q_iload_n rfl rfl ?_
  refine q_bipush rfl ?_
  refine q_icmp_ge rfl (fun c => absurd c (by decide)) (fun _ => ?_)
  refine q_aload_n rfl rfl ?_
  have e191_32 := (e191_31.ne f32 rfl)
  refine s_get (v := .ref 192) rfl e191_32 rfl rfl ?_
  refine q_iload_n rfl rfl ?_
  refine q_iconst rfl ?_
  refine s_iastore (j := 5) rfl o32 (by decide) rfl (fun h33 o33 f33 => ?_)
  have s33 := s32.put f33
  refine s_iinc (y := 6) (lv' := [(2, .int 6), (0, .ref 191), (1, .int 2)]) rfl rfl (by decide) (by decide) rfl ?_
  refine q_goto rfl ?_
  refine q_iload_n rfl rfl ?_
  refine q_bipush rfl ?_
  refine q_icmp_ge rfl (fun c => absurd c (by decide)) (fun _ => ?_)
  refine q_aload_n rfl rfl ?_
  have e191_33 := (e191_32.ne f33 rfl)
  refine s_get (v := .ref 192) rfl e191_33 rfl rfl ?_
  refine q_iload_n rfl rfl ?_
  refine q_iconst rfl ?_
  refine s_iastore (j := 6) rfl o33 (by decide) rfl (fun h34 o34 f34 => ?_)
  have s34 := s33.put f34
  refine s_iinc (y := 7) (lv' := [(2, .int 7), (0, .ref 191), (1, .int 2)]) rfl rfl (by decide) (by decide) rfl ?_
  refine q_goto rfl ?_
  refine q_iload_n rfl rfl ?_
  refine q_bipush rfl ?_
  refine q_icmp_ge rfl (fun c => absurd c (by decide)) (fun _ => ?_)
  refine q_aload_n rfl rfl ?_
  have e191_34 := (e191_33.ne f34 rfl)
  refine s_get (v := .ref 192) rfl e191_34 rfl rfl ?_
  refine q_iload_n rfl rfl ?_
  refine q_iconst rfl ?_
  refine s_iastore (j := 7) rfl o34 (by decide) rfl (fun h35 o35 f35 => ?_)
  have s35 := s34.put f35
  refine s_iinc (y := 8) (lv' := [(2, .int 8), (0, .ref 191), (1, .int 2)]) rfl rfl (by decide) (by decide) rfl ?_
  refine q_goto rfl ?_
  refine q_iload_n rfl rfl ?_
  refine q_bipush rfl ?_
  refine q_icmp_ge rfl (fun c => absurd c (by decide)) (fun _ => ?_)
  refine q_aload_n rfl rfl ?_
  have e191_35 := (e191_34.ne f35 rfl)
  refine s_get (v := .ref 192) rfl e191_35 rfl rfl ?_
  refine q_iload_n rfl rfl ?_
  refine q_iconst rfl ?_
  refine s_iastore (j := 8) rfl o35 (by decide) rfl (fun h36 o36 f36 => ?_)
  have s36 := s35.put f36
  refine s_iinc (y := 9) (lv' := [(2, .int 9), (0, .ref 191), (1, .int 2)]) rfl rfl (by decide) (by decide) rfl ?_
  refine q_goto rfl ?_
  refine q_iload_n rfl rfl ?_
  refine q_bipush rfl ?_
  refine q_icmp_ge rfl (fun c => absurd c (by decide)) (fun _ => ?_)
  refine q_aload_n rfl rfl ?_
  have e191_36 := (e191_35.ne f36 rfl)
  refine s_get (v := .ref 192) rfl e191_36 rfl rfl ?_
  refine q_iload_n rfl rfl ?_
  refine q_iconst rfl ?_
  refine s_iastore (j := 9) rfl o36 (by decide) rfl (fun h37 o37 f37 => ?_)
  have s37 := s36.put f37
  refine s_iinc (y := 10) (lv' := [(2, .int 10), (0, .ref 191), (1, .int 2)]) rfl rfl (by decide) (by decide) rfl ?_
  refine q_goto rfl ?_
  refine q_iload_n rfl rfl ?_
  refine q_bipush rfl ?_
  refine q_icmp_ge rfl (fun c => absurd c (by decide)) (fun _ => ?_)
  refine q_aload_n rfl rfl ?_
  have e191_37 := (e191_36.ne f37 rfl)
  refine s_get (v := .ref 192) rfl e191_37 rfl rfl ?_
  refine q_iload_n rfl rfl ?_
  refine q_iconst rfl ?_
  refine s_iastore (j := 10) rfl o37 (by decide) rfl (fun h38 o38 f38 => ?_)
  have s38 := s37.put f38
  refine s_iinc (y := 11) (lv' := [(2, .int 11), (0, .ref 191), (1, .int 2)]) rfl rfl (by decide) (by decide) rfl ?_
  refine q_goto rfl ?_
  refine q_iload_n rfl rfl ?_
  refine q_bipush rfl ?_
  refine q_icmp_ge rfl (fun c => absurd c (by decide)) (fun _ => ?_)
  refine q_aload_n rfl rfl ?_
  have e191_38 := (e191_37.ne f38 rfl)
  refine s_get (v := .ref 192) rfl e191_38 rfl rfl ?_
  refine q_iload_n rfl rfl ?_
  refine q_iconst rfl ?_
  refine s_iastore (j := 11) rfl o38 (by decide) rfl (fun h39 o39 f39 => ?_)
  have s39 := s38.put f39
  refine s_iinc (y := 12) (lv' := [(2, .int 12), (0, .ref 191), (1, .int 2)]) rfl rfl (by decide) (by decide) rfl ?_
  refine q_goto rfl ?_
  refine q_iload_n rfl rfl ?_
  refine q_bipush rfl ?_
  refine q_icmp_ge rfl (fun c => absurd c (by decide)) (fun _ => ?_)
  refine q_aload_n rfl rfl ?_
  have e191_39 := (e191_38.ne f39 rfl)
  refine s_get (v := .ref 192) rfl e191_39 rfl rfl ?_
  refine q_iload_n rfl rfl ?_
  refine q_iconst rfl ?_
  refine s_iastore (j := 12) rfl o39 (by decide) rfl (fun h40 o40 f40 => ?_)
  have s40 := s39.put f40
  refine s_iinc (y := 13) (lv' := [(2, .int 13), (0, .ref 191), (1, .int 2)]) rfl rfl (by decide) (by decide) rfl ?_
  refine q_goto rfl ?_
  refine q_iload_n rfl rfl ?_
  refine q_bipush rfl ?_
  refine q_icmp_ge rfl (fun c => absurd c (by decide)) (fun _ => ?_)
  refine q_aload_n rfl rfl ?_
  have e191_40 := (e191_39.ne f40 rfl)
  refine s_get (v := .ref 192) rfl e191_40 rfl rfl ?_
  refine q_iload_n rfl rfl ?_
  refine q_iconst rfl ?_
  refine s_iastore (j := 13) rfl o40 (by decide) rfl (fun h41 o41 f41 => ?_)
  have s41 := s40.put f41
  refine s_iinc (y := 14) (lv' := [(2, .int 14), (0, .ref 191), (1, .int 2)]) rfl rfl (by decide) (by decide) rfl ?_
  refine q_goto rfl ?_
  refine q_iload_n rfl rfl ?_
  refine q_bipush rfl ?_
  refine q_icmp_ge rfl (fun c => absurd c (by decide)) (fun _ => ?_)
  refine q_aload_n rfl rfl ?_
  have e191_41 := (e191_40.ne f41 rfl)
  refine s_get (v := .ref 192) rfl e191_41 rfl rfl ?_
  refine q_iload_n rfl rfl ?_
  refine q_iconst rfl ?_
  refine s_iastore (j := 14) rfl o41 (by decide) rfl (fun h42 o42 f42 => ?_)
  have s42 := s41.put f42
  refine s_iinc (y := 15) (lv' := [(2, .int 15), (0, .ref 191), (1, .int 2)]) rfl rfl (by decide) (by decide) rfl ?_
  refine q_goto rfl ?_
  refine q_iload_n rfl rfl ?_
  refine q_bipush rfl ?_
  refine q_icmp_ge rfl (fun c => absurd c (by decide)) (fun _ => ?_)
  refine q_aload_n rfl rfl ?_
  have e191_42 := (e191_41.ne f42 rfl)
  refine s_get (v := .ref 192) rfl e191_42 rfl rfl ?_
  refine q_iload_n rfl rfl ?_
  refine q_iconst rfl ?_
  refine s_iastore (j := 15) rfl o42 (by decide) rfl (fun h43 o43 f43 => ?_)
  have s43 := s42.put f43
  refine s_iinc (y := 16) (lv' := [(2, .int 16), (0, .ref 191), (1, .int 2)]) rfl rfl (by decide) (by decide) rfl ?_
  refine q_goto rfl ?_
  refine q_iload_n rfl rfl ?_
  refine q_bipush rfl ?_
  refine q_icmp_ge rfl (fun c => absurd c (by decide)) (fun _ => ?_)
  refine q_aload_n rfl rfl ?_
  have e191_43 := (e191_42.ne f43 rfl)
  refine s_get (v := .ref 192) rfl e191_43 rfl rfl ?_
  refine q_iload_n rfl rfl ?_
  refine q_iconst rfl ?_
  refine s_iastore (j := 16) rfl o43 (by decide) rfl (fun h44 o44 f44 => ?_)
  have s44 := s43.put f44
  refine s_iinc (y := 17) (lv' := [(2, .int 17), (0, .ref 191), (1, .int 2)]) rfl rfl (by decide) (by decide) rfl ?_
  refine q_goto rfl ?_
  refine q_iload_n rfl rfl ?_
  refine q_bipush rfl ?_
  refine q_icmp_ge rfl (fun c => absurd c (by decide)) (fun _ => ?_)
  refine q_aload_n rfl rfl ?_
  have e191_44 := (e191_43.ne f44 rfl)
  refine s_get (v := .ref 192) rfl e191_44 rfl rfl ?_
  refine q_iload_n rfl rfl ?_
  refine q_iconst rfl ?_
  refine s_iastore (j := 17) rfl o44 (by decide) rfl (fun h45 o45 f45 => ?_)
  have s45 := s44.put f45
  refine s_iinc (y := 18) (lv' := [(2, .int 18), (0, .ref 191), (1, .int 2)]) rfl rfl (by decide) (by decide) rfl ?_
  refine q_goto rfl ?_
  refine q_iload_n rfl rfl ?_
  refine q_bipush rfl ?_
  refine q_icmp_ge rfl (fun c => absurd c (by decide)) (fun _ => ?_)
  refine q_aload_n rfl rfl ?_
  have e191_45 := (e191_44.ne f45 rfl)
  refine s_get (v := .ref 192) rfl e191_45 rfl rfl ?_
  refine q_iload_n rfl rfl ?_
  refine q_iconst rfl ?_
  refine s_iastore (j := 18) rfl o45 (by decide) rfl (fun h46 o46 f46 => ?_)
  have s46 := s45.put f46
  refine s_iinc (y := 19) (lv' := [(2, .int 19), (0, .ref 191), (1, .int 2)]) rfl rfl (by decide) (by decide) rfl ?_
  refine q_goto rfl ?_
  refine q_iload_n rfl rfl ?_
  refine q_bipush rfl ?_
  refine q_icmp_ge rfl (fun c => absurd c (by decide)) (fun _ => ?_)
  refine q_aload_n rfl rfl ?_
  have e191_46 := (e191_45.ne f46 rfl)
  refine s_get (v := .ref 192) rfl e191_46 rfl rfl ?_
  refine q_iload_n rfl rfl ?_
  refine q_iconst rfl ?_
  refine s_iastore (j := 19) rfl o46 (by decide) rfl (fun h47 o47 f47 => ?_)
  have s47 := s46.put f47
  refine s_iinc (y := 20) (lv' := [(2, .int 20), (0, .ref 191), (1, .int 2)]) rfl rfl (by decide) (by decide) rfl ?_
  refine q_goto rfl ?_
  refine q_iload_n rfl rfl ?_
  refine q_bipush rfl ?_
  refine q_icmp_ge rfl (fun _ => ?_) (fun c => absurd (by decide) c)
  refine q_aload_n rfl rfl ?_
  have e191_47 := (e191_46.ne f47 rfl)
  refine s_get (v := .int 2) rfl e191_47 rfl rfl ?_
  refine q_ireturn rfl rfl ?_
  show aW aiP 0 17 658 243 [(4, .int 0), (3, .ref 233), (2, .ref 191), (1, .ref 6), (0, .ref 0)] [.int 2, .int 2] h47 _
  refine q_icmp_eq rfl (fun _ => ?_) (fun c => absurd (by decide) c)
  refine s_iinc (y := 6) (lv' := [(4, .int 6), (3, .ref 233), (2, .ref 191), (1, .ref 6), (0, .ref 0)]) rfl rfl (by decide) (by decide) rfl ?_
  refine q_goto rfl ?_
  refine q_iload rfl rfl ?_
  refine q_aload_n rfl rfl ?_
  have e0_47 := (f47.ne rfl (f46.ne rfl (f45.ne rfl (f44.ne rfl (f43.ne rfl (f42.ne rfl (f41.ne rfl (f40.ne rfl (f39.ne rfl (f38.ne rfl (f37.ne rfl (f36.ne rfl (f35.ne rfl (f34.ne rfl (f33.ne rfl (f32.ne rfl (f31.ne rfl (f30.ne rfl (f29.ne rfl (f28.ne rfl (f27.ne rfl (f26.ne rfl (f25.ne rfl (f24.ne rfl (f23.ne rfl e0_22)))))))))))))))))))))))))
  refine s_alen (x := 6) rfl e0_47 rfl (by decide) ?_
  refine q_bipush rfl ?_
  refine s_isub (k := 0) rfl (by decide) ?_
  refine q_icmp_gt rfl (fun _ => ?_) (fun c => absurd (by decide) c)
  refine q_iconst rfl ?_
  refine q_ireturn rfl rfl ?_
  exact ⟨rfl, s47.bd rfl⟩
set_option maxRecDepth 20000 in
set_option maxHeartbeats 4000000 in
theorem p_case1_3 {xs : Nat → Int32} {h : ai_H} (F : Fresh 6 xs h) (hk : xs 0 &&& 31 = 1) (hw : xs 1 = 3) : aW aiP 0 17 658 33 [(4, .int 0), (3, .ref 233), (2, .ref 191), (1, .ref 6), (0, .ref 0)] [] h p_Q := by
  obtain ⟨e0, e1, ⟨g2, e2⟩, ⟨g3, e3⟩, ⟨g4, e4⟩, e5, e6, e7, e8, e9, e51, e93, e135, e177, e178, e179, e180, e181, e182, e183, e184, e185, e186, e187, e188, e189, e190, e191, e192, e193, e194, e195, e196, e197, e198, e199, e200, e201, e202, e203, e204, e205, e206, e207, e208, e209, e210, e211, e212, e213, e214, e215, e216, e217, e218, e219, e220, e221, e222, e223, e224, e225, e226, e227, ⟨g228, e228⟩, ⟨g229, e229⟩, e230, e231, e232, e233, s0⟩ := F
  refine q_aload_n rfl rfl ?_
  refine q_iload rfl rfl ?_
  refine s_iaload (j := 0) (v := .int (xs 0)) rfl e0 (by decide) rfl (by first | rfl | decide) ?_
  refine q_bipush rfl ?_
  refine s_iand (k := ((xs 0) &&& (31 : Int32))) rfl rfl ?_
  rw [hk]
  show aW aiP 0 17 658 40 [(4, .int 0), (3, .ref 233), (2, .ref 191), (1, .ref 6), (0, .ref 0)] [.int 1] h _
  refine s_sw (tg := 223) rfl rfl ?_
  refine q_aload_n rfl rfl ?_
  refine q_aload_n rfl rfl ?_
  refine q_iload rfl rfl ?_
  refine q_iconst rfl ?_
  refine s_iadd (k := 1) rfl (by decide) ?_
  refine s_iaload (j := 1) (v := .int (xs 1)) rfl e0 (by decide) rfl (by first | rfl | decide) ?_
  rw [hw]
  refine s_callV (as := [.int 3]) (rest := []) (d' := 16) (w' := 637) (lv' := [(0, .ref 6), (1, .int 3)]) rfl e6 rfl rfl rfl rfl rfl rfl ?_
  refine q_iload_n rfl rfl ?_
  refine q_if_lt rfl (fun c => absurd c (by decide)) (fun _ => ?_)
  refine q_iload_n rfl rfl ?_
  refine q_bipush rfl ?_
  refine q_icmp_gt rfl (fun c => absurd c (by decide)) (fun _ => ?_)
  refine q_aload_n rfl rfl ?_
  refine s_get (v := .int 0) rfl e6 rfl rfl ?_
  refine q_iload_n rfl rfl ?_
  refine s_iadd (k := 3) rfl (by decide) ?_
  refine q_sipush rfl ?_
  refine q_icmp_le rfl (fun _ => ?_) (fun c => absurd (by decide) c)
  refine q_aload_n rfl rfl ?_
  refine s_get (v := .ref 7) rfl e6 rfl rfl ?_
  refine q_iconst rfl ?_
  refine q_aload_n rfl rfl ?_
  refine s_get (v := .ref 8) rfl e6 rfl rfl ?_
  refine q_aload_n rfl rfl ?_
  refine s_get (v := .int 0) rfl e6 rfl rfl ?_
  refine q_iload_n rfl rfl ?_
  refine s_copy (sp := 0) (dp := 0) (k := 3) rfl e7 e8 (by decide) (by decide) (by decide) rfl (by decide) (by decide) (by decide) (fun i _ => rfl) (fun h1 o1 f1 => ?_)
  have s1 := s0.put f1
  refine q_aload_n rfl rfl ?_
  refine q_dup rfl rfl ?_
  have e6_1 := (e6.ne f1 rfl)
  refine s_get (v := .int 0) rfl e6_1 rfl rfl ?_
  refine q_iload_n rfl rfl ?_
  refine s_iadd (k := 3) rfl (by decide) ?_
  refine s_put (vs' := [.ref 7, .ref 8, .int 3, .ref 9, .int (-1), .ref 51, .ref 93, .ref 135, .ref 177, .ref 180, .int 0, .ref 183, .ref 186, .ref 189]) rfl e6_1 rfl rfl rfl rfl (fun h2 o2 f2 => ?_)
  have s2 := s1.put f2
  refine q_aload_n rfl rfl ?_
  refine s_get (v := .ref 7) rfl o2 rfl rfl ?_
  refine q_iconst rfl ?_
  refine s_callS (as := [.ref 7, .int 0]) (rest := []) (d' := 15) (w' := 614) (lv' := [(0, .ref 7), (1, .int 0)]) rfl rfl rfl rfl rfl rfl rfl rfl ?_
  refine q_iconst rfl ?_
  refine s_istore_n (lv' := [(2, .int 0), (0, .ref 7), (1, .int 0)]) rfl (by decide) rfl ?_
  refine q_aload_n rfl rfl ?_
  have e7_2 := (f2.ne rfl (f1.ne rfl e7))
  refine s_alen (x := 20) rfl e7_2 rfl (by decide) ?_
  refine s_istore_n (lv' := [(3, .int 20), (2, .int 0), (0, .ref 7), (1, .int 0)]) rfl (by decide) rfl ?_
  refine q_iload_n rfl rfl ?_
  refine q_iload_n rfl rfl ?_
  refine q_icmp_ge rfl (fun c => absurd c (by decide)) (fun _ => ?_)
  refine q_aload_n rfl rfl ?_
  refine q_iload_n rfl rfl ?_
  refine q_iload_n rfl rfl ?_
  refine s_bastore (j := 0) rfl e7_2 (by decide) rfl (fun h3 o3 f3 => ?_)
  have s3 := s2.put f3
  refine s_iinc (y := 1) (lv' := [(2, .int 1), (3, .int 20), (0, .ref 7), (1, .int 0)]) rfl rfl (by decide) (by decide) rfl ?_
  refine q_goto rfl ?_
  refine q_iload_n rfl rfl ?_
  refine q_iload_n rfl rfl ?_
  refine q_icmp_ge rfl (fun c => absurd c (by decide)) (fun _ => ?_)
  refine q_aload_n rfl rfl ?_
  refine q_iload_n rfl rfl ?_
  refine q_iload_n rfl rfl ?_
  refine s_bastore (j := 1) rfl o3 (by decide) rfl (fun h4 o4 f4 => ?_)
  have s4 := s3.put f4
  refine s_iinc (y := 2) (lv' := [(2, .int 2), (3, .int 20), (0, .ref 7), (1, .int 0)]) rfl rfl (by decide) (by decide) rfl ?_
  refine q_goto rfl ?_
  refine q_iload_n rfl rfl ?_
  refine q_iload_n rfl rfl ?_
  refine q_icmp_ge rfl (fun c => absurd c (by decide)) (fun _ => ?_)
  refine q_aload_n rfl rfl ?_
  refine q_iload_n rfl rfl ?_
  refine q_iload_n rfl rfl ?_
  refine s_bastore (j := 2) rfl o4 (by decide) rfl (fun h5 o5 f5 => ?_)
  have s5 := s4.put f5
  refine s_iinc (y := 3) (lv' := [(2, .int 3), (3, .int 20), (0, .ref 7), (1, .int 0)]) rfl rfl (by decide) (by decide) rfl ?_
  refine q_goto rfl ?_
  refine q_iload_n rfl rfl ?_
  refine q_iload_n rfl rfl ?_
  refine q_icmp_ge rfl (fun c => absurd c (by decide)) (fun _ => ?_)
  refine q_aload_n rfl rfl ?_
  refine q_iload_n rfl rfl ?_
  refine q_iload_n rfl rfl ?_
  refine s_bastore (j := 3) rfl o5 (by decide) rfl (fun h6 o6 f6 => ?_)
  have s6 := s5.put f6
  refine s_iinc (y := 4) (lv' := [(2, .int 4), (3, .int 20), (0, .ref 7), (1, .int 0)]) rfl rfl (by decide) (by decide) rfl ?_
  refine q_goto rfl ?_
  refine q_iload_n rfl rfl ?_
  refine q_iload_n rfl rfl ?_
  refine q_icmp_ge rfl (fun c => absurd c (by decide)) (fun _ => ?_)
  refine q_aload_n rfl rfl ?_
  refine q_iload_n rfl rfl ?_
  refine q_iload_n rfl rfl ?_
  refine s_bastore (j := 4) rfl o6 (by decide) rfl (fun h7 o7 f7 => ?_)
  have s7 := s6.put f7
  refine s_iinc (y := 5) (lv' := [(2, .int 5), (3, .int 20), (0, .ref 7), (1, .int 0)]) rfl rfl (by decide) (by decide) rfl ?_
  refine q_goto rfl ?_
  refine q_iload_n rfl rfl ?_
  refine q_iload_n rfl rfl ?_
  refine q_icmp_ge rfl (fun c => absurd c (by decide)) (fun _ => ?_)
  refine q_aload_n rfl rfl ?_
  refine q_iload_n rfl rfl ?_
  refine q_iload_n rfl rfl ?_
  refine s_bastore (j := 5) rfl o7 (by decide) rfl (fun h8 o8 f8 => ?_)
  have s8 := s7.put f8
  refine s_iinc (y := 6) (lv' := [(2, .int 6), (3, .int 20), (0, .ref 7), (1, .int 0)]) rfl rfl (by decide) (by decide) rfl ?_
  refine q_goto rfl ?_
  refine q_iload_n rfl rfl ?_
  refine q_iload_n rfl rfl ?_
  refine q_icmp_ge rfl (fun c => absurd c (by decide)) (fun _ => ?_)
  refine q_aload_n rfl rfl ?_
  refine q_iload_n rfl rfl ?_
  refine q_iload_n rfl rfl ?_
  refine s_bastore (j := 6) rfl o8 (by decide) rfl (fun h9 o9 f9 => ?_)
  have s9 := s8.put f9
  refine s_iinc (y := 7) (lv' := [(2, .int 7), (3, .int 20), (0, .ref 7), (1, .int 0)]) rfl rfl (by decide) (by decide) rfl ?_
  refine q_goto rfl ?_
  refine q_iload_n rfl rfl ?_
  refine q_iload_n rfl rfl ?_
  refine q_icmp_ge rfl (fun c => absurd c (by decide)) (fun _ => ?_)
  refine q_aload_n rfl rfl ?_
  refine q_iload_n rfl rfl ?_
  refine q_iload_n rfl rfl ?_
  refine s_bastore (j := 7) rfl o9 (by decide) rfl (fun h10 o10 f10 => ?_)
  have s10 := s9.put f10
  refine s_iinc (y := 8) (lv' := [(2, .int 8), (3, .int 20), (0, .ref 7), (1, .int 0)]) rfl rfl (by decide) (by decide) rfl ?_
  refine q_goto rfl ?_
  refine q_iload_n rfl rfl ?_
  refine q_iload_n rfl rfl ?_
  refine q_icmp_ge rfl (fun c => absurd c (by decide)) (fun _ => ?_)
  refine q_aload_n rfl rfl ?_
  refine q_iload_n rfl rfl ?_
  refine q_iload_n rfl rfl ?_
  refine s_bastore (j := 8) rfl o10 (by decide) rfl (fun h11 o11 f11 => ?_)
  have s11 := s10.put f11
  refine s_iinc (y := 9) (lv' := [(2, .int 9), (3, .int 20), (0, .ref 7), (1, .int 0)]) rfl rfl (by decide) (by decide) rfl ?_
  refine q_goto rfl ?_
  refine q_iload_n rfl rfl ?_
  refine q_iload_n rfl rfl ?_
  refine q_icmp_ge rfl (fun c => absurd c (by decide)) (fun _ => ?_)
  refine q_aload_n rfl rfl ?_
  refine q_iload_n rfl rfl ?_
  refine q_iload_n rfl rfl ?_
  refine s_bastore (j := 9) rfl o11 (by decide) rfl (fun h12 o12 f12 => ?_)
  have s12 := s11.put f12
  refine s_iinc (y := 10) (lv' := [(2, .int 10), (3, .int 20), (0, .ref 7), (1, .int 0)]) rfl rfl (by decide) (by decide) rfl ?_
  refine q_goto rfl ?_
  refine q_iload_n rfl rfl ?_
  refine q_iload_n rfl rfl ?_
  refine q_icmp_ge rfl (fun c => absurd c (by decide)) (fun _ => ?_)
  refine q_aload_n rfl rfl ?_
  refine q_iload_n rfl rfl ?_
  refine q_iload_n rfl rfl ?_
  refine s_bastore (j := 10) rfl o12 (by decide) rfl (fun h13 o13 f13 => ?_)
  have s13 := s12.put f13
  refine s_iinc (y := 11) (lv' := [(2, .int 11), (3, .int 20), (0, .ref 7), (1, .int 0)]) rfl rfl (by decide) (by decide) rfl ?_
  refine q_goto rfl ?_
  refine q_iload_n rfl rfl ?_
  refine q_iload_n rfl rfl ?_
  refine q_icmp_ge rfl (fun c => absurd c (by decide)) (fun _ => ?_)
  refine q_aload_n rfl rfl ?_
  refine q_iload_n rfl rfl ?_
  refine q_iload_n rfl rfl ?_
  refine s_bastore (j := 11) rfl o13 (by decide) rfl (fun h14 o14 f14 => ?_)
  have s14 := s13.put f14
  refine s_iinc (y := 12) (lv' := [(2, .int 12), (3, .int 20), (0, .ref 7), (1, .int 0)]) rfl rfl (by decide) (by decide) rfl ?_
  refine q_goto rfl ?_
  refine q_iload_n rfl rfl ?_
  refine q_iload_n rfl rfl ?_
  refine q_icmp_ge rfl (fun c => absurd c (by decide)) (fun _ => ?_)
  refine q_aload_n rfl rfl ?_
  refine q_iload_n rfl rfl ?_
  refine q_iload_n rfl rfl ?_
  refine s_bastore (j := 12) rfl o14 (by decide) rfl (fun h15 o15 f15 => ?_)
  have s15 := s14.put f15
  refine s_iinc (y := 13) (lv' := [(2, .int 13), (3, .int 20), (0, .ref 7), (1, .int 0)]) rfl rfl (by decide) (by decide) rfl ?_
  refine q_goto rfl ?_
  refine q_iload_n rfl rfl ?_
  refine q_iload_n rfl rfl ?_
  refine q_icmp_ge rfl (fun c => absurd c (by decide)) (fun _ => ?_)
  refine q_aload_n rfl rfl ?_
  refine q_iload_n rfl rfl ?_
  refine q_iload_n rfl rfl ?_
  refine s_bastore (j := 13) rfl o15 (by decide) rfl (fun h16 o16 f16 => ?_)
  have s16 := s15.put f16
  refine s_iinc (y := 14) (lv' := [(2, .int 14), (3, .int 20), (0, .ref 7), (1, .int 0)]) rfl rfl (by decide) (by decide) rfl ?_
  refine q_goto rfl ?_
  refine q_iload_n rfl rfl ?_
  refine q_iload_n rfl rfl ?_
  refine q_icmp_ge rfl (fun c => absurd c (by decide)) (fun _ => ?_)
  refine q_aload_n rfl rfl ?_
  refine q_iload_n rfl rfl ?_
  refine q_iload_n rfl rfl ?_
  refine s_bastore (j := 14) rfl o16 (by decide) rfl (fun h17 o17 f17 => ?_)
  have s17 := s16.put f17
  refine s_iinc (y := 15) (lv' := [(2, .int 15), (3, .int 20), (0, .ref 7), (1, .int 0)]) rfl rfl (by decide) (by decide) rfl ?_
  refine q_goto rfl ?_
  refine q_iload_n rfl rfl ?_
  refine q_iload_n rfl rfl ?_
  refine q_icmp_ge rfl (fun c => absurd c (by decide)) (fun _ => ?_)
  refine q_aload_n rfl rfl ?_
  refine q_iload_n rfl rfl ?_
  refine q_iload_n rfl rfl ?_
  refine s_bastore (j := 15) rfl o17 (by decide) rfl (fun h18 o18 f18 => ?_)
  have s18 := s17.put f18
  refine s_iinc (y := 16) (lv' := [(2, .int 16), (3, .int 20), (0, .ref 7), (1, .int 0)]) rfl rfl (by decide) (by decide) rfl ?_
  refine q_goto rfl ?_
  refine q_iload_n rfl rfl ?_
  refine q_iload_n rfl rfl ?_
  refine q_icmp_ge rfl (fun c => absurd c (by decide)) (fun _ => ?_)
  refine q_aload_n rfl rfl ?_
  refine q_iload_n rfl rfl ?_
  refine q_iload_n rfl rfl ?_
  refine s_bastore (j := 16) rfl o18 (by decide) rfl (fun h19 o19 f19 => ?_)
  have s19 := s18.put f19
  refine s_iinc (y := 17) (lv' := [(2, .int 17), (3, .int 20), (0, .ref 7), (1, .int 0)]) rfl rfl (by decide) (by decide) rfl ?_
  refine q_goto rfl ?_
  refine q_iload_n rfl rfl ?_
  refine q_iload_n rfl rfl ?_
  refine q_icmp_ge rfl (fun c => absurd c (by decide)) (fun _ => ?_)
  refine q_aload_n rfl rfl ?_
  refine q_iload_n rfl rfl ?_
  refine q_iload_n rfl rfl ?_
  refine s_bastore (j := 17) rfl o19 (by decide) rfl (fun h20 o20 f20 => ?_)
  have s20 := s19.put f20
  refine s_iinc (y := 18) (lv' := [(2, .int 18), (3, .int 20), (0, .ref 7), (1, .int 0)]) rfl rfl (by decide) (by decide) rfl ?_
  refine q_goto rfl ?_
  refine q_iload_n rfl rfl ?_
  refine q_iload_n rfl rfl ?_
  refine q_icmp_ge rfl (fun c => absurd c (by decide)) (fun _ => ?_)
  refine q_aload_n rfl rfl ?_
  refine q_iload_n rfl rfl ?_
  refine q_iload_n rfl rfl ?_
  refine s_bastore (j := 18) rfl o20 (by decide) rfl (fun h21 o21 f21 => ?_)
  have s21 := s20.put f21
  refine s_iinc (y := 19) (lv' := [(2, .int 19), (3, .int 20), (0, .ref 7), (1, .int 0)]) rfl rfl (by decide) (by decide) rfl ?_
  refine q_goto rfl ?_
  refine q_iload_n rfl rfl ?_
  refine q_iload_n rfl rfl ?_
  refine q_icmp_ge rfl (fun c => absurd c (by decide)) (fun _ => ?_)
  refine q_aload_n rfl rfl ?_
  refine q_iload_n rfl rfl ?_
  refine q_iload_n rfl rfl ?_
  refine s_bastore (j := 19) rfl o21 (by decide) rfl (fun h22 o22 f22 => ?_)
  have s22 := s21.put f22
  refine s_iinc (y := 20) (lv' := [(2, .int 20), (3, .int 20), (0, .ref 7), (1, .int 0)]) rfl rfl (by decide) (by decide) rfl ?_
  refine q_goto rfl ?_
  refine q_iload_n rfl rfl ?_
  refine q_iload_n rfl rfl ?_
  refine q_icmp_ge rfl (fun _ => ?_) (fun c => absurd (by decide) c)
  refine q_return rfl rfl ?_
  show aW aiP 15 16 637 59 [(0, .ref 6), (1, .int 3)] [] h22 _
  refine q_aload_n rfl rfl ?_
  have e6_22 := ((((((((((((((((((((o2.ne f3 rfl).ne f4 rfl).ne f5 rfl).ne f6 rfl).ne f7 rfl).ne f8 rfl).ne f9 rfl).ne f10 rfl).ne f11 rfl).ne f12 rfl).ne f13 rfl).ne f14 rfl).ne f15 rfl).ne f16 rfl).ne f17 rfl).ne f18 rfl).ne f19 rfl).ne f20 rfl).ne f21 rfl).ne f22 rfl)
  refine s_get (v := .int 3) rfl e6_22 rfl rfl ?_
  refine q_ireturn rfl rfl ?_
  show aW aiP 0 17 658 233 [(4, .int 0), (3, .ref 233), (2, .ref 191), (1, .ref 6), (0, .ref 0)] [.int 3] h22 _
  refine q_aload_n rfl rfl ?_
  refine q_aload_n rfl rfl ?_
  refine q_iload rfl rfl ?_
  refine q_iconst rfl ?_
  refine s_iadd (k := 1) rfl (by decide) ?_
  have e0_22 := (f22.ne rfl (f21.ne rfl (f20.ne rfl (f19.ne rfl (f18.ne rfl (f17.ne rfl (f16.ne rfl (f15.ne rfl (f14.ne rfl (f13.ne rfl (f12.ne rfl (f11.ne rfl (f10.ne rfl (f9.ne rfl (f8.ne rfl (f7.ne rfl (f6.ne rfl (f5.ne rfl (f4.ne rfl (f3.ne rfl (f2.ne rfl (f1.ne rfl e0))))))))))))))))))))))
  refine s_iaload (j := 1) (v := .int (xs 1)) rfl e0_22 (by decide) rfl (by first | rfl | decide) ?_
  rw [hw]
  have e191_22 := ((((((((((((((((((((((e191.ne f1 rfl).ne f2 rfl).ne f3 rfl).ne f4 rfl).ne f5 rfl).ne f6 rfl).ne f7 rfl).ne f8 rfl).ne f9 rfl).ne f10 rfl).ne f11 rfl).ne f12 rfl).ne f13 rfl).ne f14 rfl).ne f15 rfl).ne f16 rfl).ne f17 rfl).ne f18 rfl).ne f19 rfl).ne f20 rfl).ne f21 rfl).ne f22 rfl)
  refine s_callV (as := [.int 3]) (rest := [.int 3]) (d' := 16) (w' := 636) (lv' := [(0, .ref 191), (1, .int 3)]) rfl e191_22 rfl rfl rfl rfl rfl rfl ?_
  refine q_aload_n rfl rfl ?_
  refine q_iconst rfl ?_
  refine s_put (vs' := [.int 0, .ref 192, .ref 193, .int 0, .ref 194, .ref 195, .ref 196, .ref 197, .ref 198, .ref 199, .ref 200, .ref 201, .ref 202, .ref 203, .ref 204, .ref 205, .int (-1), .int 0, .ref 206, .ref 207, .ref 208, .ref 209, .ref 210, .ref 211, .ref 212, .ref 213, .ref 214, .ref 215, .int 0, .int 0, .int 0, .int 0, .ref 216, .ref 217, .ref 218, .ref 219, .ref 220, .int (-1), .int 0, .int 0, .int 0, .int 0, .int 0, .int 0, .ref 221, .ref 222, .ref 223, .ref 224, .int 0, .ref 225, .int 0, .ref 226, .ref 227, .int 0, .ref 228, .ref 229, .ref 230, .ref 231, .ref 232]) rfl e191_22 rfl rfl rfl rfl (fun h23 o23 f23 => ?_)
  have s23 := s22.put f23
  refine q_iload_n rfl rfl ?_
  refine q_if_lt rfl (fun c => absurd c (by decide)) (fun _ => ?_)
  refine q_iload_n rfl rfl ?_
  refine q_bipush rfl ?_
  refine q_icmp_gt rfl (fun c => absurd c (by decide)) (fun _ => ?_)
  refine q_aload_n rfl rfl ?_
  refine s_get (v := .int 0) rfl o23 rfl rfl ?_
  refine q_iload_n rfl rfl ?_
  refine s_iadd (k := 3) rfl (by decide) ?_
  refine q_sipush rfl ?_
  refine q_icmp_le rfl (fun _ => ?_) (fun c => absurd (by decide) c)
  refine q_iconst rfl ?_
  refine s_istore_n (lv' := [(2, .int 0), (0, .ref 191), (1, .int 3)]) rfl (by decide) rfl ?_
  refine q_iload_n rfl rfl ?_
  refine q_iload_n rfl rfl ?_
  refine q_icmp_ge rfl (fun c => absurd c (by decide)) (fun _ => ?_)
  refine q_aload_n rfl rfl ?_
  refine s_get (v := .ref 193) rfl o23 rfl rfl ?_
  refine q_aload_n rfl rfl ?_
  refine s_get (v := .int 0) rfl o23 rfl rfl ?_
  refine q_aload_n rfl rfl ?_
  refine s_get (v := .ref 192) rfl o23 rfl rfl ?_
  refine q_iload_n rfl rfl ?_
  have e192_23 := (f23.ne rfl (f22.ne rfl (f21.ne rfl (f20.ne rfl (f19.ne rfl (f18.ne rfl (f17.ne rfl (f16.ne rfl (f15.ne rfl (f14.ne rfl (f13.ne rfl (f12.ne rfl (f11.ne rfl (f10.ne rfl (f9.ne rfl (f8.ne rfl (f7.ne rfl (f6.ne rfl (f5.ne rfl (f4.ne rfl (f3.ne rfl (f2.ne rfl (f1.ne rfl e192)))))))))))))))))))))))
  refine s_iaload (j := 0) (v := .int 0) rfl e192_23 (by decide) rfl (by first | rfl | decide) ?_
  have e193_23 := (f23.ne rfl (f22.ne rfl (f21.ne rfl (f20.ne rfl (f19.ne rfl (f18.ne rfl (f17.ne rfl (f16.ne rfl (f15.ne rfl (f14.ne rfl (f13.ne rfl (f12.ne rfl (f11.ne rfl (f10.ne rfl (f9.ne rfl (f8.ne rfl (f7.ne rfl (f6.ne rfl (f5.ne rfl (f4.ne rfl (f3.ne rfl (f2.ne rfl (f1.ne rfl e193)))))))))))))))))))))))
  refine s_iastore (j := 0) rfl e193_23 (by decide) rfl (fun h24 o24 f24 => ?_)
  have s24 := s23.put f24
  refine q_aload_n rfl rfl ?_
  refine q_dup rfl rfl ?_
  have e191_24 := (o23.ne f24 rfl)
  refine s_get (v := .int 0) rfl e191_24 rfl rfl ?_
  refine q_iconst rfl ?_
  refine s_iadd (k := 1) rfl (by decide) ?_
  refine s_put (vs' := [.int 0, .ref 192, .ref 193, .int 1, .ref 194, .ref 195, .ref 196, .ref 197, .ref 198, .ref 199, .ref 200, .ref 201, .ref 202, .ref 203, .ref 204, .ref 205, .int (-1), .int 0, .ref 206, .ref 207, .ref 208, .ref 209, .ref 210, .ref 211, .ref 212, .ref 213, .ref 214, .ref 215, .int 0, .int 0, .int 0, .int 0, .ref 216, .ref 217, .ref 218, .ref 219, .ref 220, .int (-1), .int 0, .int 0, .int 0, .int 0, .int 0, .int 0, .ref 221, .ref 222, .ref 223, .ref 224, .int 0, .ref 225, .int 0, .ref 226, .ref 227, .int 0, .ref 228, .ref 229, .ref 230, .ref 231, .ref 232]) rfl e191_24 rfl rfl rfl rfl (fun h25 o25 f25 => ?_)
  have s25 := s24.put f25
  refine s_iinc (y := 1) (lv' := [(2, .int 1), (0, .ref 191), (1, .int 3)]) rfl rfl (by decide) (by decide) rfl ?_
  refine q_goto rfl ?_
  refine q_iload_n rfl rfl ?_
  refine q_iload_n rfl rfl ?_
  refine q_icmp_ge rfl (fun c => absurd c (by decide)) (fun _ => ?_)
  refine q_aload_n rfl rfl ?_
  refine s_get (v := .ref 193) rfl o25 rfl rfl ?_
  refine q_aload_n rfl rfl ?_
  refine s_get (v := .int 1) rfl o25 rfl rfl ?_
  refine q_aload_n rfl rfl ?_
  refine s_get (v := .ref 192) rfl o25 rfl rfl ?_
  refine q_iload_n rfl rfl ?_
  have e192_25 := (f25.ne rfl (f24.ne rfl e192_23))
  refine s_iaload (j := 1) (v := .int 0) rfl e192_25 (by decide) rfl (by first | rfl | decide) ?_
  have e193_25 := (f25.ne rfl o24)
  refine s_iastore (j := 1) rfl e193_25 (by decide) rfl (fun h26 o26 f26 => ?_)
  have s26 := s25.put f26
  refine q_aload_n rfl rfl ?_
  refine q_dup rfl rfl ?_
  have e191_26 := (o25.ne f26 rfl)
  refine s_get (v := .int 1) rfl e191_26 rfl rfl ?_
  refine q_iconst rfl ?_
  refine s_iadd (k := 2) rfl (by decide) ?_
  refine s_put (vs' := [.int 0, .ref 192, .ref 193, .int 2, .ref 194, .ref 195, .ref 196, .ref 197, .ref 198, .ref 199, .ref 200, .ref 201, .ref 202, .ref 203, .ref 204, .ref 205, .int (-1), .int 0, .ref 206, .ref 207, .ref 208, .ref 209, .ref 210, .ref 211, .ref 212, .ref 213, .ref 214, .ref 215, .int 0, .int 0, .int 0, .int 0, .ref 216, .ref 217, .ref 218, .ref 219, .ref 220, .int (-1), .int 0, .int 0, .int 0, .int 0, .int 0, .int 0, .ref 221, .ref 222, .ref 223, .ref 224, .int 0, .ref 225, .int 0, .ref 226, .ref 227, .int 0, .ref 228, .ref 229, .ref 230, .ref 231, .ref 232]) rfl e191_26 rfl rfl rfl rfl (fun h27 o27 f27 => ?_)
  have s27 := s26.put f27
  refine s_iinc (y := 2) (lv' := [(2, .int 2), (0, .ref 191), (1, .int 3)]) rfl rfl (by decide) (by decide) rfl ?_
  refine q_goto rfl ?_
  refine q_iload_n rfl rfl ?_
  refine q_iload_n rfl rfl ?_
  refine q_icmp_ge rfl (fun c => absurd c (by decide)) (fun _ => ?_)
  refine q_aload_n rfl rfl ?_
  refine s_get (v := .ref 193) rfl o27 rfl rfl ?_
  refine q_aload_n rfl rfl ?_
  refine s_get (v := .int 2) rfl o27 rfl rfl ?_
  refine q_aload_n rfl rfl ?_
  refine s_get (v := .ref 192) rfl o27 rfl rfl ?_
  refine q_iload_n rfl rfl ?_
  have e192_27 := (f27.ne rfl (f26.ne rfl e192_25))
  refine s_iaload (j := 2) (v := .int 0) rfl e192_27 (by decide) rfl (by first | rfl | decide) ?_
  have e193_27 := (f27.ne rfl o26)
  refine s_iastore (j := 2) rfl e193_27 (by decide) rfl (fun h28 o28 f28 => ?_)
  have s28 := s27.put f28
  refine q_aload_n rfl rfl ?_
  refine q_dup rfl rfl ?_
  have e191_28 := (o27.ne f28 rfl)
  refine s_get (v := .int 2) rfl e191_28 rfl rfl ?_
  refine q_iconst rfl ?_
  refine s_iadd (k := 3) rfl (by decide) ?_
  refine s_put (vs' := [.int 0, .ref 192, .ref 193, .int 3, .ref 194, .ref 195, .ref 196, .ref 197, .ref 198, .ref 199, .ref 200, .ref 201, .ref 202, .ref 203, .ref 204, .ref 205, .int (-1), .int 0, .ref 206, .ref 207, .ref 208, .ref 209, .ref 210, .ref 211, .ref 212, .ref 213, .ref 214, .ref 215, .int 0, .int 0, .int 0, .int 0, .ref 216, .ref 217, .ref 218, .ref 219, .ref 220, .int (-1), .int 0, .int 0, .int 0, .int 0, .int 0, .int 0, .ref 221, .ref 222, .ref 223, .ref 224, .int 0, .ref 225, .int 0, .ref 226, .ref 227, .int 0, .ref 228, .ref 229, .ref 230, .ref 231, .ref 232]) rfl e191_28 rfl rfl rfl rfl (fun h29 o29 f29 => ?_)
  have s29 := s28.put f29
  refine s_iinc (y := 3) (lv' := [(2, .int 3), (0, .ref 191), (1, .int 3)]) rfl rfl (by decide) (by decide) rfl ?_
  refine q_goto rfl ?_
  refine q_iload_n rfl rfl ?_
  refine q_iload_n rfl rfl ?_
  refine q_icmp_ge rfl (fun _ => ?_) (fun c => absurd (by decide) c)
  refine q_iconst rfl ?_
  refine s_istore_n (lv' := [(2, .int 0), (0, .ref 191), (1, .int 3)]) rfl (by decide) rfl ?_
  refine q_iload_n rfl rfl ?_
  refine q_bipush rfl ?_
  refine q_icmp_ge rfl (fun c => absurd c (by decide)) (fun _ => ?_)
  refine q_aload_n rfl rfl ?_
  refine s_get (v := .ref 192) rfl o29 rfl rfl ?_
  refine q_iload_n rfl rfl ?_
  refine q_iconst rfl ?_
  have e192_29 := (f29.ne rfl (f28.ne rfl e192_27))
  refine s_iastore (j := 0) rfl e192_29 (by decide) rfl (fun h30 o30 f30 => ?_)
  have s30 := s29.put f30
  refine s_iinc (y := 1) (lv' := [(2, .int 1), (0, .ref 191), (1, .int 3)]) rfl rfl (by decide) (by decide) rfl ?_
  refine q_goto rfl ?_
  refine q_iload_n rfl rfl ?_
  refine q_bipush rfl ?_
  refine q_icmp_ge rfl (fun c => absurd c (by decide)) (fun _ => ?_)
  refine q_aload_n rfl rfl ?_
  have e191_30 := (o29.ne f30 rfl)
  refine s_get (v := .ref 192) rfl e191_30 rfl rfl ?_
  refine q_iload_n rfl rfl ?_
  refine q_iconst rfl ?_
  refine s_iastore (j := 1) rfl o30 (by decide) rfl (fun h31 o31 f31 => ?_)
  have s31 := s30.put f31
  refine s_iinc (y := 2) (lv' := [(2, .int 2), (0, .ref 191), (1, .int 3)]) rfl rfl (by decide) (by decide) rfl ?_
  refine q_goto rfl ?_
  refine q_iload_n rfl rfl ?_
  refine q_bipush rfl ?_
  refine q_icmp_ge rfl (fun c => absurd c (by decide)) (fun _ => ?_)
  refine q_aload_n rfl rfl ?_
  have e191_31 := (e191_30.ne f31 rfl)
  refine s_get (v := .ref 192) rfl e191_31 rfl rfl ?_
  refine q_iload_n rfl rfl ?_
  refine q_iconst rfl ?_
  refine s_iastore (j := 2) rfl o31 (by decide) rfl (fun h32 o32 f32 => ?_)
  have s32 := s31.put f32
  refine s_iinc (y := 3) (lv' := [(2, .int 3), (0, .ref 191), (1, .int 3)]) rfl rfl (by decide) (by decide) rfl ?_
  refine q_goto rfl ?_
  refine q_iload_n rfl rfl ?_
  refine q_bipush rfl ?_
  refine q_icmp_ge rfl (fun c => absurd c (by decide)) (fun _ => ?_)
  refine q_aload_n rfl rfl ?_
  have e191_32 := (e191_31.ne f32 rfl)
  refine s_get (v := .ref 192) rfl e191_32 rfl rfl ?_
  refine q_iload_n rfl rfl ?_
  refine q_iconst rfl ?_
  refine s_iastore (j := 3) rfl o32 (by decide) rfl (fun h33 o33 f33 => ?_)
  have s33 := s32.put f33
  refine s_iinc (y := 4) (lv' := [(2, .int 4), (0, .ref 191), (1, .int 3)]) rfl rfl (by decide) (by decide) rfl ?_
  refine q_goto rfl ?_
  refine q_iload_n rfl rfl ?_
  refine q_bipush rfl ?_
  refine q_icmp_ge rfl (fun c => absurd c (by decide)) (fun _ => ?_)
  refine q_aload_n rfl rfl ?_
  have e191_33 := (e191_32.ne f33 rfl)
  refine s_get (v := .ref 192) rfl e191_33 rfl rfl ?_
  refine q_iload_n rfl rfl ?_
  refine q_iconst rfl ?_
  refine s_iastore (j := 4) rfl o33 (by decide) rfl (fun h34 o34 f34 => ?_)
  have s34 := s33.put f34
  refine s_iinc (y := 5) (lv' := [(2, .int 5), (0, .ref 191), (1, .int 3)]) rfl rfl (by decide) (by decide) rfl ?_
  refine q_goto rfl ?_
  refine q_iload_n rfl rfl ?_
  refine q_bipush rfl ?_
  refine q_icmp_ge rfl (fun c => absurd c (by decide)) (fun _ => ?_)
  refine q_aload_n rfl rfl ?_
  have e191_34 := (e191_33.ne f34 rfl)
  refine s_get (v := .ref 192) rfl e191_34 rfl rfl ?_
  refine q_iload_n rfl rfl ?_
  refine q_iconst rfl ?_
  refine s_iastore (j := 5) rfl o34 (by decide) rfl (fun h35 o35 f35 => ?_)
  have s35 := s34.put f35
  refine s_iinc (y := 6) (lv' := [(2, .int 6), (0, .ref 191), (1, .int 3)]) rfl rfl (by decide) (by decide) rfl ?_
  refine q_goto rfl ?_
  refine q_iload_n rfl rfl ?_
  refine q_bipush rfl ?_
  refine q_icmp_ge rfl (fun c => absurd c (by decide)) (fun _ => ?_)
  refine q_aload_n rfl rfl ?_
  have e191_35 := (e191_34.ne f35 rfl)
  refine s_get (v := .ref 192) rfl e191_35 rfl rfl ?_
  refine q_iload_n rfl rfl ?_
  refine q_iconst rfl ?_
  refine s_iastore (j := 6) rfl o35 (by decide) rfl (fun h36 o36 f36 => ?_)
  have s36 := s35.put f36
  refine s_iinc (y := 7) (lv' := [(2, .int 7), (0, .ref 191), (1, .int 3)]) rfl rfl (by decide) (by decide) rfl ?_
  refine q_goto rfl ?_
  refine q_iload_n rfl rfl ?_
  refine q_bipush rfl ?_
  refine q_icmp_ge rfl (fun c => absurd c (by decide)) (fun _ => ?_)
  refine q_aload_n rfl rfl ?_
  have e191_36 := (e191_35.ne f36 rfl)
  refine s_get (v := .ref 192) rfl e191_36 rfl rfl ?_
  refine q_iload_n rfl rfl ?_
  refine q_iconst rfl ?_
  refine s_iastore (j := 7) rfl o36 (by decide) rfl (fun h37 o37 f37 => ?_)
  have s37 := s36.put f37
  refine s_iinc (y := 8) (lv' := [(2, .int 8), (0, .ref 191), (1, .int 3)]) rfl rfl (by decide) (by decide) rfl ?_
  refine q_goto rfl ?_
  refine q_iload_n rfl rfl ?_
  refine q_bipush rfl ?_
  refine q_icmp_ge rfl (fun c => absurd c (by decide)) (fun _ => ?_)
  refine q_aload_n rfl rfl ?_
  have e191_37 := (e191_36.ne f37 rfl)
  refine s_get (v := .ref 192) rfl e191_37 rfl rfl ?_
  refine q_iload_n rfl rfl ?_
  refine q_iconst rfl ?_
  refine s_iastore (j := 8) rfl o37 (by decide) rfl (fun h38 o38 f38 => ?_)
  have s38 := s37.put f38
  refine s_iinc (y := 9) (lv' := [(2, .int 9), (0, .ref 191), (1, .int 3)]) rfl rfl (by decide) (by decide) rfl ?_
  refine q_goto rfl ?_
  refine q_iload_n rfl rfl ?_
  refine q_bipush rfl ?_
  refine q_icmp_ge rfl (fun c => absurd c (by decide)) (fun _ => ?_)
  refine q_aload_n rfl rfl ?_
  have e191_38 := (e191_37.ne f38 rfl)
  refine s_get (v := .ref 192) rfl e191_38 rfl rfl ?_
  refine q_iload_n rfl rfl ?_
  refine q_iconst rfl ?_
  refine s_iastore (j := 9) rfl o38 (by decide) rfl (fun h39 o39 f39 => ?_)
  have s39 := s38.put f39
  refine s_iinc (y := 10) (lv' := [(2, .int 10), (0, .ref 191), (1, .int 3)]) rfl rfl (by decide) (by decide) rfl ?_
  refine q_goto rfl ?_
  refine q_iload_n rfl rfl ?_
  refine q_bipush rfl ?_
  refine q_icmp_ge rfl (fun c => absurd c (by decide)) (fun _ => ?_)
  refine q_aload_n rfl rfl ?_
  have e191_39 := (e191_38.ne f39 rfl)
  refine s_get (v := .ref 192) rfl e191_39 rfl rfl ?_
  refine q_iload_n rfl rfl ?_
  refine q_iconst rfl ?_
  refine s_iastore (j := 10) rfl o39 (by decide) rfl (fun h40 o40 f40 => ?_)
  have s40 := s39.put f40
  refine s_iinc (y := 11) (lv' := [(2, .int 11), (0, .ref 191), (1, .int 3)]) rfl rfl (by decide) (by decide) rfl ?_
  refine q_goto rfl ?_
  refine q_iload_n rfl rfl ?_
  refine q_bipush rfl ?_
  refine q_icmp_ge rfl (fun c => absurd c (by decide)) (fun _ => ?_)
  refine q_aload_n rfl rfl ?_
  have e191_40 := (e191_39.ne f40 rfl)
  refine s_get (v := .ref 192) rfl e191_40 rfl rfl ?_
  refine q_iload_n rfl rfl ?_
  refine q_iconst rfl ?_
  refine s_iastore (j := 11) rfl o40 (by decide) rfl (fun h41 o41 f41 => ?_)
  have s41 := s40.put f41
  refine s_iinc (y := 12) (lv' := [(2, .int 12), (0, .ref 191), (1, .int 3)]) rfl rfl (by decide) (by decide) rfl ?_
  refine q_goto rfl ?_
  refine q_iload_n rfl rfl ?_
  refine q_bipush rfl ?_
  refine q_icmp_ge rfl (fun c => absurd c (by decide)) (fun _ => ?_)
  refine q_aload_n rfl rfl ?_
  have e191_41 := (e191_40.ne f41 rfl)
  refine s_get (v := .ref 192) rfl e191_41 rfl rfl ?_
  refine q_iload_n rfl rfl ?_
  refine q_iconst rfl ?_
  refine s_iastore (j := 12) rfl o41 (by decide) rfl (fun h42 o42 f42 => ?_)
  have s42 := s41.put f42
  refine s_iinc (y := 13) (lv' := [(2, .int 13), (0, .ref 191), (1, .int 3)]) rfl rfl (by decide) (by decide) rfl ?_
  refine q_goto rfl ?_
  refine q_iload_n rfl rfl ?_
  refine q_bipush rfl ?_
  refine q_icmp_ge rfl (fun c => absurd c (by decide)) (fun _ => ?_)
  refine q_aload_n rfl rfl ?_
  have e191_42 := (e191_41.ne f42 rfl)
  refine s_get (v := .ref 192) rfl e191_42 rfl rfl ?_
  refine q_iload_n rfl rfl ?_
  refine q_iconst rfl ?_
  refine s_iastore (j := 13) rfl o42 (by decide) rfl (fun h43 o43 f43 => ?_)
  have s43 := s42.put f43
  refine s_iinc (y := 14) (lv' := [(2, .int 14), (0, .ref 191), (1, .int 3)]) rfl rfl (by decide) (by decide) rfl ?_
  refine q_goto rfl ?_
  refine q_iload_n rfl rfl ?_
  refine q_bipush rfl ?_
  refine q_icmp_ge rfl (fun c => absurd c (by decide)) (fun _ => ?_)
  refine q_aload_n rfl rfl ?_
  have e191_43 := (e191_42.ne f43 rfl)
  refine s_get (v := .ref 192) rfl e191_43 rfl rfl ?_
  refine q_iload_n rfl rfl ?_
  refine q_iconst rfl ?_
  refine s_iastore (j := 14) rfl o43 (by decide) rfl (fun h44 o44 f44 => ?_)
  have s44 := s43.put f44
  refine s_iinc (y := 15) (lv' := [(2, .int 15), (0, .ref 191), (1, .int 3)]) rfl rfl (by decide) (by decide) rfl ?_
  refine q_goto rfl ?_
  refine q_iload_n rfl rfl ?_
  refine q_bipush rfl ?_
  refine q_icmp_ge rfl (fun c => absurd c (by decide)) (fun _ => ?_)
  refine q_aload_n rfl rfl ?_
  have e191_44 := (e191_43.ne f44 rfl)
  refine s_get (v := .ref 192) rfl e191_44 rfl rfl ?_
  refine q_iload_n rfl rfl ?_
  refine q_iconst rfl ?_
  refine s_iastore (j := 15) rfl o44 (by decide) rfl (fun h45 o45 f45 => ?_)
  have s45 := s44.put f45
  refine s_iinc (y := 16) (lv' := [(2, .int 16), (0, .ref 191), (1, .int 3)]) rfl rfl (by decide) (by decide) rfl ?_
  refine q_goto rfl ?_
  refine q_iload_n rfl rfl ?_
  refine q_bipush rfl ?_
  refine q_icmp_ge rfl (fun c => absurd c (by decide)) (fun _ => ?_)
  refine q_aload_n rfl rfl ?_
  have e191_45 := (e191_44.ne f45 rfl)
  refine s_get (v := .ref 192) rfl e191_45 rfl rfl ?_
  refine q_iload_n rfl rfl ?_
  refine q_iconst rfl ?_
  refine s_iastore (j := 16) rfl o45 (by decide) rfl (fun h46 o46 f46 => ?_)
  have s46 := s45.put f46
  refine s_iinc (y := 17) (lv' := [(2, .int 17), (0, .ref 191), (1, .int 3)]) rfl rfl (by decide) (by decide) rfl ?_
  refine q_goto rfl ?_
  refine q_iload_n rfl rfl ?_
  refine q_bipush rfl ?_
  refine q_icmp_ge rfl (fun c => absurd c (by decide)) (fun _ => ?_)
  refine q_aload_n rfl rfl ?_
  have e191_46 := (e191_45.ne f46 rfl)
  refine s_get (v := .ref 192) rfl e191_46 rfl rfl ?_
  refine q_iload_n rfl rfl ?_
  refine q_iconst rfl ?_
  refine s_iastore (j := 17) rfl o46 (by decide) rfl (fun h47 o47 f47 => ?_)
  have s47 := s46.put f47
  refine s_iinc (y := 18) (lv' := [(2, .int 18), (0, .ref 191), (1, .int 3)]) rfl rfl (by decide) (by decide) rfl ?_
  refine q_goto rfl ?_
  refine q_iload_n rfl rfl ?_
  refine q_bipush rfl ?_
  refine q_icmp_ge rfl (fun c => absurd c (by decide)) (fun _ => ?_)
  refine q_aload_n rfl rfl ?_
  have e191_47 := (e191_46.ne f47 rfl)
  refine s_get (v := .ref 192) rfl e191_47 rfl rfl ?_
  refine q_iload_n rfl rfl ?_
  refine q_iconst rfl ?_
  refine s_iastore (j := 18) rfl o47 (by decide) rfl (fun h48 o48 f48 => ?_)
  have s48 := s47.put f48
  refine s_iinc (y := 19) (lv' := [(2, .int 19), (0, .ref 191), (1, .int 3)]) rfl rfl (by decide) (by decide) rfl ?_
  refine q_goto rfl ?_
  refine q_iload_n rfl rfl ?_
  refine q_bipush rfl ?_
  refine q_icmp_ge rfl (fun c => absurd c (by decide)) (fun _ => ?_)
  refine q_aload_n rfl rfl ?_
  have e191_48 := (e191_47.ne f48 rfl)
  refine s_get (v := .ref 192) rfl e191_48 rfl rfl ?_
  refine q_iload_n rfl rfl ?_
  refine q_iconst rfl ?_
  refine s_iastore (j := 19) rfl o48 (by decide) rfl (fun h49 o49 f49 => ?_)
  have s49 := s48.put f49
  refine s_iinc (y := 20) (lv' := [(2, .int 20), (0, .ref 191), (1, .int 3)]) rfl rfl (by decide) (by decide) rfl ?_
  refine q_goto rfl ?_
  refine q_iload_n rfl rfl ?_
  refine q_bipush rfl ?_
  refine q_icmp_ge rfl (fun _ => ?_) (fun c => absurd (by decide) c)
  refine q_aload_n rfl rfl ?_
  have e191_49 := (e191_48.ne f49 rfl)
  refine s_get (v := .int 3) rfl e191_49 rfl rfl ?_
  refine q_ireturn rfl rfl ?_
  show aW aiP 0 17 658 243 [(4, .int 0), (3, .ref 233), (2, .ref 191), (1, .ref 6), (0, .ref 0)] [.int 3, .int 3] h49 _
  refine q_icmp_eq rfl (fun _ => ?_) (fun c => absurd (by decide) c)
  refine s_iinc (y := 6) (lv' := [(4, .int 6), (3, .ref 233), (2, .ref 191), (1, .ref 6), (0, .ref 0)]) rfl rfl (by decide) (by decide) rfl ?_
  refine q_goto rfl ?_
  refine q_iload rfl rfl ?_
  refine q_aload_n rfl rfl ?_
  have e0_49 := (f49.ne rfl (f48.ne rfl (f47.ne rfl (f46.ne rfl (f45.ne rfl (f44.ne rfl (f43.ne rfl (f42.ne rfl (f41.ne rfl (f40.ne rfl (f39.ne rfl (f38.ne rfl (f37.ne rfl (f36.ne rfl (f35.ne rfl (f34.ne rfl (f33.ne rfl (f32.ne rfl (f31.ne rfl (f30.ne rfl (f29.ne rfl (f28.ne rfl (f27.ne rfl (f26.ne rfl (f25.ne rfl (f24.ne rfl (f23.ne rfl e0_22)))))))))))))))))))))))))))
  refine s_alen (x := 6) rfl e0_49 rfl (by decide) ?_
  refine q_bipush rfl ?_
  refine s_isub (k := 0) rfl (by decide) ?_
  refine q_icmp_gt rfl (fun _ => ?_) (fun c => absurd (by decide) c)
  refine q_iconst rfl ?_
  refine q_ireturn rfl rfl ?_
  exact ⟨rfl, s49.bd rfl⟩
set_option maxRecDepth 20000 in
set_option maxHeartbeats 4000000 in
theorem p_case1_4 {xs : Nat → Int32} {h : ai_H} (F : Fresh 6 xs h) (hk : xs 0 &&& 31 = 1) (hw : xs 1 = 4) : aW aiP 0 17 658 33 [(4, .int 0), (3, .ref 233), (2, .ref 191), (1, .ref 6), (0, .ref 0)] [] h p_Q := by
  obtain ⟨e0, e1, ⟨g2, e2⟩, ⟨g3, e3⟩, ⟨g4, e4⟩, e5, e6, e7, e8, e9, e51, e93, e135, e177, e178, e179, e180, e181, e182, e183, e184, e185, e186, e187, e188, e189, e190, e191, e192, e193, e194, e195, e196, e197, e198, e199, e200, e201, e202, e203, e204, e205, e206, e207, e208, e209, e210, e211, e212, e213, e214, e215, e216, e217, e218, e219, e220, e221, e222, e223, e224, e225, e226, e227, ⟨g228, e228⟩, ⟨g229, e229⟩, e230, e231, e232, e233, s0⟩ := F
  refine q_aload_n rfl rfl ?_
  refine q_iload rfl rfl ?_
  refine s_iaload (j := 0) (v := .int (xs 0)) rfl e0 (by decide) rfl (by first | rfl | decide) ?_
  refine q_bipush rfl ?_
  refine s_iand (k := ((xs 0) &&& (31 : Int32))) rfl rfl ?_
  rw [hk]
  show aW aiP 0 17 658 40 [(4, .int 0), (3, .ref 233), (2, .ref 191), (1, .ref 6), (0, .ref 0)] [.int 1] h _
  refine s_sw (tg := 223) rfl rfl ?_
  refine q_aload_n rfl rfl ?_
  refine q_aload_n rfl rfl ?_
  refine q_iload rfl rfl ?_
  refine q_iconst rfl ?_
  refine s_iadd (k := 1) rfl (by decide) ?_
  refine s_iaload (j := 1) (v := .int (xs 1)) rfl e0 (by decide) rfl (by first | rfl | decide) ?_
  rw [hw]
  refine s_callV (as := [.int 4]) (rest := []) (d' := 16) (w' := 637) (lv' := [(0, .ref 6), (1, .int 4)]) rfl e6 rfl rfl rfl rfl rfl rfl ?_
  refine q_iload_n rfl rfl ?_
  refine q_if_lt rfl (fun c => absurd c (by decide)) (fun _ => ?_)
  refine q_iload_n rfl rfl ?_
  refine q_bipush rfl ?_
  refine q_icmp_gt rfl (fun c => absurd c (by decide)) (fun _ => ?_)
  refine q_aload_n rfl rfl ?_
  refine s_get (v := .int 0) rfl e6 rfl rfl ?_
  refine q_iload_n rfl rfl ?_
  refine s_iadd (k := 4) rfl (by decide) ?_
  refine q_sipush rfl ?_
  refine q_icmp_le rfl (fun _ => ?_) (fun c => absurd (by decide) c)
  refine q_aload_n rfl rfl ?_
  refine s_get (v := .ref 7) rfl e6 rfl rfl ?_
  refine q_iconst rfl ?_
  refine q_aload_n rfl rfl ?_
  refine s_get (v := .ref 8) rfl e6 rfl rfl ?_
  refine q_aload_n rfl rfl ?_
  refine s_get (v := .int 0) rfl e6 rfl rfl ?_
  refine q_iload_n rfl rfl ?_
  refine s_copy (sp := 0) (dp := 0) (k := 4) rfl e7 e8 (by decide) (by decide) (by decide) rfl (by decide) (by decide) (by decide) (fun i _ => rfl) (fun h1 o1 f1 => ?_)
  have s1 := s0.put f1
  refine q_aload_n rfl rfl ?_
  refine q_dup rfl rfl ?_
  have e6_1 := (e6.ne f1 rfl)
  refine s_get (v := .int 0) rfl e6_1 rfl rfl ?_
  refine q_iload_n rfl rfl ?_
  refine s_iadd (k := 4) rfl (by decide) ?_
  refine s_put (vs' := [.ref 7, .ref 8, .int 4, .ref 9, .int (-1), .ref 51, .ref 93, .ref 135, .ref 177, .ref 180, .int 0, .ref 183, .ref 186, .ref 189]) rfl e6_1 rfl rfl rfl rfl (fun h2 o2 f2 => ?_)
  have s2 := s1.put f2
  refine q_aload_n rfl rfl ?_
  refine s_get (v := .ref 7) rfl o2 rfl rfl ?_
  refine q_iconst rfl ?_
  refine s_callS (as := [.ref 7, .int 0]) (rest := []) (d' := 15) (w' := 614) (lv' := [(0, .ref 7), (1, .int 0)]) rfl rfl rfl rfl rfl rfl rfl rfl ?_
  refine q_iconst rfl ?_
  refine s_istore_n (lv' := [(2, .int 0), (0, .ref 7), (1, .int 0)]) rfl (by decide) rfl ?_
  refine q_aload_n rfl rfl ?_
  have e7_2 := (f2.ne rfl (f1.ne rfl e7))
  refine s_alen (x := 20) rfl e7_2 rfl (by decide) ?_
  refine s_istore_n (lv' := [(3, .int 20), (2, .int 0), (0, .ref 7), (1, .int 0)]) rfl (by decide) rfl ?_
  refine q_iload_n rfl rfl ?_
  refine q_iload_n rfl rfl ?_
  refine q_icmp_ge rfl (fun c => absurd c (by decide)) (fun _ => ?_)
  refine q_aload_n rfl rfl ?_
  refine q_iload_n rfl rfl ?_
  refine q_iload_n rfl rfl ?_
  refine s_bastore (j := 0) rfl e7_2 (by decide) rfl (fun h3 o3 f3 => ?_)
  have s3 := s2.put f3
  refine s_iinc (y := 1) (lv' := [(2, .int 1), (3, .int 20), (0, .ref 7), (1, .int 0)]) rfl rfl (by decide) (by decide) rfl ?_
  refine q_goto rfl ?_
  refine q_iload_n rfl rfl ?_
  refine q_iload_n rfl rfl ?_
  refine q_icmp_ge rfl (fun c => absurd c (by decide)) (fun _ => ?_)
  refine q_aload_n rfl rfl ?_
  refine q_iload_n rfl rfl ?_
  refine q_iload_n rfl rfl ?_
  refine s_bastore (j := 1) rfl o3 (by decide) rfl (fun h4 o4 f4 => ?_)
  have s4 := s3.put f4
  refine s_iinc (y := 2) (lv' := [(2, .int 2), (3, .int 20), (0, .ref 7), (1, .int 0)]) rfl rfl (by decide) (by decide) rfl ?_
  refine q_goto rfl ?_
  refine q_iload_n rfl rfl ?_
  refine q_iload_n rfl rfl ?_
  refine q_icmp_ge rfl (fun c => absurd c (by decide)) (fun _ => ?_)
  refine q_aload_n rfl rfl ?_
  refine q_iload_n rfl rfl ?_
  refine q_iload_n rfl rfl ?_
  refine s_bastore (j := 2) rfl o4 (by decide) rfl (fun h5 o5 f5 => ?_)
  have s5 := s4.put f5
  refine s_iinc (y := 3) (lv' := [(2, .int 3), (3, .int 20), (0, .ref 7), (1, .int 0)]) rfl rfl (by decide) (by decide) rfl ?_
  refine q_goto rfl ?_
  refine q_iload_n rfl rfl ?_
  refine q_iload_n rfl rfl ?_
  refine q_icmp_ge rfl (fun c => absurd c (by decide)) (fun _ => ?_)
  refine q_aload_n rfl rfl ?_
  refine q_iload_n rfl rfl ?_
  refine q_iload_n rfl rfl ?_
  refine s_bastore (j := 3) rfl o5 (by decide) rfl (fun h6 o6 f6 => ?_)
  have s6 := s5.put f6
  refine s_iinc (y := 4) (lv' := [(2, .int 4), (3, .int 20), (0, .ref 7), (1, .int 0)]) rfl rfl (by decide) (by decide) rfl ?_
  refine q_goto rfl ?_
  refine q_iload_n rfl rfl ?_
  refine q_iload_n rfl rfl ?_
  refine q_icmp_ge rfl (fun c => absurd c (by decide)) (fun _ => ?_)
  refine q_aload_n rfl rfl ?_
  refine q_iload_n rfl rfl ?_
  refine q_iload_n rfl rfl ?_
  refine s_bastore (j := 4) rfl o6 (by decide) rfl (fun h7 o7 f7 => ?_)
  have s7 := s6.put f7
  refine s_iinc (y := 5) (lv' := [(2, .int 5), (3, .int 20), (0, .ref 7), (1, .int 0)]) rfl rfl (by decide) (by decide) rfl ?_
  refine q_goto rfl ?_
  refine q_iload_n rfl rfl ?_
  refine q_iload_n rfl rfl ?_
  refine q_icmp_ge rfl (fun c => absurd c (by decide)) (fun _ => ?_)
  refine q_aload_n rfl rfl ?_
  refine q_iload_n rfl rfl ?_
  refine q_iload_n rfl rfl ?_
  refine s_bastore (j := 5) rfl o7 (by decide) rfl (fun h8 o8 f8 => ?_)
  have s8 := s7.put f8
  refine s_iinc (y := 6) (lv' := [(2, .int 6), (3, .int 20), (0, .ref 7), (1, .int 0)]) rfl rfl (by decide) (by decide) rfl ?_
  refine q_goto rfl ?_
  refine q_iload_n rfl rfl ?_
  refine q_iload_n rfl rfl ?_
  refine q_icmp_ge rfl (fun c => absurd c (by decide)) (fun _ => ?_)
  refine q_aload_n rfl rfl ?_
  refine q_iload_n rfl rfl ?_
  refine q_iload_n rfl rfl ?_
  refine s_bastore (j := 6) rfl o8 (by decide) rfl (fun h9 o9 f9 => ?_)
  have s9 := s8.put f9
  refine s_iinc (y := 7) (lv' := [(2, .int 7), (3, .int 20), (0, .ref 7), (1, .int 0)]) rfl rfl (by decide) (by decide) rfl ?_
  refine q_goto rfl ?_
  refine q_iload_n rfl rfl ?_
  refine q_iload_n rfl rfl ?_
  refine q_icmp_ge rfl (fun c => absurd c (by decide)) (fun _ => ?_)
  refine q_aload_n rfl rfl ?_
  refine q_iload_n rfl rfl ?_
  refine q_iload_n rfl rfl ?_
  refine s_bastore (j := 7) rfl o9 (by decide) rfl (fun h10 o10 f10 => ?_)
  have s10 := s9.put f10
  refine s_iinc (y := 8) (lv' := [(2, .int 8), (3, .int 20), (0, .ref 7), (1, .int 0)]) rfl rfl (by decide) (by decide) rfl ?_
  refine q_goto rfl ?_
  refine q_iload_n rfl rfl ?_
  refine q_iload_n rfl rfl ?_
  refine q_icmp_ge rfl (fun c => absurd c (by decide)) (fun _ => ?_)
  refine q_aload_n rfl rfl ?_
  refine q_iload_n rfl rfl ?_
  refine q_iload_n rfl rfl ?_
  refine s_bastore (j := 8) rfl o10 (by decide) rfl (fun h11 o11 f11 => ?_)
  have s11 := s10.put f11
  refine s_iinc (y := 9) (lv' := [(2, .int 9), (3, .int 20), (0, .ref 7), (1, .int 0)]) rfl rfl (by decide) (by decide) rfl ?_
  refine q_goto rfl ?_
  refine q_iload_n rfl rfl ?_
  refine q_iload_n rfl rfl ?_
  refine q_icmp_ge rfl (fun c => absurd c (by decide)) (fun _ => ?_)
  refine q_aload_n rfl rfl ?_
  refine q_iload_n rfl rfl ?_
  refine q_iload_n rfl rfl ?_
  refine s_bastore (j := 9) rfl o11 (by decide) rfl (fun h12 o12 f12 => ?_)
  have s12 := s11.put f12
  refine s_iinc (y := 10) (lv' := [(2, .int 10), (3, .int 20), (0, .ref 7), (1, .int 0)]) rfl rfl (by decide) (by decide) rfl ?_
  refine q_goto rfl ?_
  refine q_iload_n rfl rfl ?_
  refine q_iload_n rfl rfl ?_
  refine q_icmp_ge rfl (fun c => absurd c (by decide)) (fun _ => ?_)
  refine q_aload_n rfl rfl ?_
  refine q_iload_n rfl rfl ?_
  refine q_iload_n rfl rfl ?_
  refine s_bastore (j := 10) rfl o12 (by decide) rfl (fun h13 o13 f13 => ?_)
  have s13 := s12.put f13
  refine s_iinc (y := 11) (lv' := [(2, .int 11), (3, .int 20), (0, .ref 7), (1, .int 0)]) rfl rfl (by decide) (by decide) rfl ?_
  refine q_goto rfl ?_
  refine q_iload_n rfl rfl ?_
  refine q_iload_n rfl rfl ?_
  refine q_icmp_ge rfl (fun c => absurd c (by decide)) (fun _ => ?_)
  refine q_aload_n rfl rfl ?_
  refine q_iload_n rfl rfl ?_
  refine q_iload_n rfl rfl ?_
  refine s_bastore (j := 11) rfl o13 (by decide) rfl (fun h14 o14 f14 => ?_)
  have s14 := s13.put f14
  refine s_iinc (y := 12) (lv' := [(2, .int 12), (3, .int 20), (0, .ref 7), (1, .int 0)]) rfl rfl (by decide) (by decide) rfl ?_
  refine q_goto rfl ?_
  refine q_iload_n rfl rfl ?_
  refine q_iload_n rfl rfl ?_
  refine q_icmp_ge rfl (fun c => absurd c (by decide)) (fun _ => ?_)
  refine q_aload_n rfl rfl ?_
  refine q_iload_n rfl rfl ?_
  refine q_iload_n rfl rfl ?_
  refine s_bastore (j := 12) rfl o14 (by decide) rfl (fun h15 o15 f15 => ?_)
  have s15 := s14.put f15
  refine s_iinc (y := 13) (lv' := [(2, .int 13), (3, .int 20), (0, .ref 7), (1, .int 0)]) rfl rfl (by decide) (by decide) rfl ?_
  refine q_goto rfl ?_
  refine q_iload_n rfl rfl ?_
  refine q_iload_n rfl rfl ?_
  refine q_icmp_ge rfl (fun c => absurd c (by decide)) (fun _ => ?_)
  refine q_aload_n rfl rfl ?_
  refine q_iload_n rfl rfl ?_
  refine q_iload_n rfl rfl ?_
  refine s_bastore (j := 13) rfl o15 (by decide) rfl (fun h16 o16 f16 => ?_)
  have s16 := s15.put f16
  refine s_iinc (y := 14) (lv' := [(2, .int 14), (3, .int 20), (0, .ref 7), (1, .int 0)]) rfl rfl (by decide) (by decide) rfl ?_
  refine q_goto rfl ?_
  refine q_iload_n rfl rfl ?_
  refine q_iload_n rfl rfl ?_
  refine q_icmp_ge rfl (fun c => absurd c (by decide)) (fun _ => ?_)
  refine q_aload_n rfl rfl ?_
  refine q_iload_n rfl rfl ?_
  refine q_iload_n rfl rfl ?_
  refine s_bastore (j := 14) rfl o16 (by decide) rfl (fun h17 o17 f17 => ?_)
  have s17 := s16.put f17
  refine s_iinc (y := 15) (lv' := [(2, .int 15), (3, .int 20), (0, .ref 7), (1, .int 0)]) rfl rfl (by decide) (by decide) rfl ?_
  refine q_goto rfl ?_
  refine q_iload_n rfl rfl ?_
  refine q_iload_n rfl rfl ?_
  refine q_icmp_ge rfl (fun c => absurd c (by decide)) (fun _ => ?_)
  refine q_aload_n rfl rfl ?_
  refine q_iload_n rfl rfl ?_
  refine q_iload_n rfl rfl ?_
  refine s_bastore (j := 15) rfl o17 (by decide) rfl (fun h18 o18 f18 => ?_)
  have s18 := s17.put f18
  refine s_iinc (y := 16) (lv' := [(2, .int 16), (3, .int 20), (0, .ref 7), (1, .int 0)]) rfl rfl (by decide) (by decide) rfl ?_
  refine q_goto rfl ?_
  refine q_iload_n rfl rfl ?_
  refine q_iload_n rfl rfl ?_
  refine q_icmp_ge rfl (fun c => absurd c (by decide)) (fun _ => ?_)
  refine q_aload_n rfl rfl ?_
  refine q_iload_n rfl rfl ?_
  refine q_iload_n rfl rfl ?_
  refine s_bastore (j := 16) rfl o18 (by decide) rfl (fun h19 o19 f19 => ?_)
  have s19 := s18.put f19
  refine s_iinc (y := 17) (lv' := [(2, .int 17), (3, .int 20), (0, .ref 7), (1, .int 0)]) rfl rfl (by decide) (by decide) rfl ?_
  refine q_goto rfl ?_
  refine q_iload_n rfl rfl ?_
  refine q_iload_n rfl rfl ?_
  refine q_icmp_ge rfl (fun c => absurd c (by decide)) (fun _ => ?_)
  refine q_aload_n rfl rfl ?_
  refine q_iload_n rfl rfl ?_
  refine q_iload_n rfl rfl ?_
  refine s_bastore (j := 17) rfl o19 (by decide) rfl (fun h20 o20 f20 => ?_)
  have s20 := s19.put f20
  refine s_iinc (y := 18) (lv' := [(2, .int 18), (3, .int 20), (0, .ref 7), (1, .int 0)]) rfl rfl (by decide) (by decide) rfl ?_
  refine q_goto rfl ?_
  refine q_iload_n rfl rfl ?_
  refine q_iload_n rfl rfl ?_
  refine q_icmp_ge rfl (fun c => absurd c (by decide)) (fun _ => ?_)
  refine q_aload_n rfl rfl ?_
  refine q_iload_n rfl rfl ?_
  refine q_iload_n rfl rfl ?_
  refine s_bastore (j := 18) rfl o20 (by decide) rfl (fun h21 o21 f21 => ?_)
  have s21 := s20.put f21
  refine s_iinc (y := 19) (lv' := [(2, .int 19), (3, .int 20), (0, .ref 7), (1, .int 0)]) rfl rfl (by decide) (by decide) rfl ?_
  refine q_goto rfl ?_
  refine q_iload_n rfl rfl ?_
  refine q_iload_n rfl rfl ?_
  refine q_icmp_ge rfl (fun c => absurd c (by decide)) (fun _ => ?_)
  refine q_aload_n rfl rfl ?_
  refine q_iload_n rfl rfl ?_
  refine q_iload_n rfl rfl ?_
  refine s_bastore (j := 19) rfl o21 (by decide) rfl (fun h22 o22 f22 => ?_)
  have s22 := s21.put f22
  refine s_iinc (y := 20) (lv' := [(2, .int 20), (3, .int 20), (0, .ref 7), (1, .int 0)]) rfl rfl (by decide) (by decide) rfl ?_
  refine q_goto rfl ?_
  refine q_iload_n rfl rfl ?_
  refine q_iload_n rfl rfl ?_
  refine q_icmp_ge rfl (fun _ => ?_) (fun c => absurd (by decide) c)
  refine q_return rfl rfl ?_
  show aW aiP 15 16 637 59 [(0, .ref 6), (1, .int 4)] [] h22 _
  refine q_aload_n rfl rfl ?_
  have e6_22 := ((((((((((((((((((((o2.ne f3 rfl).ne f4 rfl).ne f5 rfl).ne f6 rfl).ne f7 rfl).ne f8 rfl).ne f9 rfl).ne f10 rfl).ne f11 rfl).ne f12 rfl).ne f13 rfl).ne f14 rfl).ne f15 rfl).ne f16 rfl).ne f17 rfl).ne f18 rfl).ne f19 rfl).ne f20 rfl).ne f21 rfl).ne f22 rfl)
  refine s_get (v := .int 4) rfl e6_22 rfl rfl ?_
  refine q_ireturn rfl rfl ?_
  show aW aiP 0 17 658 233 [(4, .int 0), (3, .ref 233), (2, .ref 191), (1, .ref 6), (0, .ref 0)] [.int 4] h22 _
  refine q_aload_n rfl rfl ?_
  refine q_aload_n rfl rfl ?_
  refine q_iload rfl rfl ?_
  refine q_iconst rfl ?_
  refine s_iadd (k := 1) rfl (by decide) ?_
  have e0_22 := (f22.ne rfl (f21.ne rfl (f20.ne rfl (f19.ne rfl (f18.ne rfl (f17.ne rfl (f16.ne rfl (f15.ne rfl (f14.ne rfl (f13.ne rfl (f12.ne rfl (f11.ne rfl (f10.ne rfl (f9.ne rfl (f8.ne rfl (f7.ne rfl (f6.ne rfl (f5.ne rfl (f4.ne rfl (f3.ne rfl (f2.ne rfl (f1.ne rfl e0))))))))))))))))))))))
  refine s_iaload (j := 1) (v := .int (xs 1)) rfl e0_22 (by decide) rfl (by first | rfl | decide) ?_
  rw [hw]
  have e191_22 := ((((((((((((((((((((((e191.ne f1 rfl).ne f2 rfl).ne f3 rfl).ne f4 rfl).ne f5 rfl).ne f6 rfl).ne f7 rfl).ne f8 rfl).ne f9 rfl).ne f10 rfl).ne f11 rfl).ne f12 rfl).ne f13 rfl).ne f14 rfl).ne f15 rfl).ne f16 rfl).ne f17 rfl).ne f18 rfl).ne f19 rfl).ne f20 rfl).ne f21 rfl).ne f22 rfl)
  refine s_callV (as := [.int 4]) (rest := [.int 4]) (d' := 16) (w' := 636) (lv' := [(0, .ref 191), (1, .int 4)]) rfl e191_22 rfl rfl rfl rfl rfl rfl ?_
  refine q_aload_n rfl rfl ?_
  refine q_iconst rfl ?_
  refine s_put (vs' := [.int 0, .ref 192, .ref 193, .int 0, .ref 194, .ref 195, .ref 196, .ref 197, .ref 198, .ref 199, .ref 200, .ref 201, .ref 202, .ref 203, .ref 204, .ref 205, .int (-1), .int 0, .ref 206, .ref 207, .ref 208, .ref 209, .ref 210, .ref 211, .ref 212, .ref 213, .ref 214, .ref 215, .int 0, .int 0, .int 0, .int 0, .ref 216, .ref 217, .ref 218, .ref 219, .ref 220, .int (-1), .int 0, .int 0, .int 0, .int 0, .int 0, .int 0, .ref 221, .ref 222, .ref 223, .ref 224, .int 0, .ref 225, .int 0, .ref 226, .ref 227, .int 0, .ref 228, .ref 229, .ref 230, .ref 231, .ref 232]) rfl e191_22 rfl rfl rfl rfl (fun h23 o23 f23 => ?_)
  have s23 := s22.put f23
  refine q_iload_n rfl rfl ?_
  refine q_if_lt rfl (fun c => absurd c (by decide)) (fun _ => ?_)
  refine q_iload_n rfl rfl ?_
  refine q_bipush rfl ?_
  refine q_icmp_gt rfl (fun c => absurd c (by decide)) (fun _ => ?_)
  refine q_aload_n rfl rfl ?_
  refine s_get (v := .int 0) rfl o23 rfl rfl ?_
  refine q_iload_n rfl rfl ?_
  refine s_iadd (k := 4) rfl (by decide) ?_
  refine q_sipush rfl ?_
  refine q_icmp_le rfl (fun _ => ?_) (fun c => absurd (by decide) c)
  refine q_iconst rfl ?_
  refine s_istore_n (lv' := [(2, .int 0), (0, .ref 191), (1, .int 4)]) rfl (by decide) rfl ?_
  refine q_iload_n rfl rfl ?_
  refine q_iload_n rfl rfl ?_
  refine q_icmp_ge rfl (fun c => absurd c (by decide)) (fun _ => ?_)
  refine q_aload_n rfl rfl ?_
  refine s_get (v := .ref 193) rfl o23 rfl rfl ?_
  refine q_aload_n rfl rfl ?_
  refine s_get (v := .int 0) rfl o23 rfl rfl ?_
  refine q_aload_n rfl rfl ?_
  refine s_get (v := .ref 192) rfl o23 rfl rfl ?_
  refine q_iload_n rfl rfl ?_
  have e192_23 := (f23.ne rfl (f22.ne rfl (f21.ne rfl (f20.ne rfl (f19.ne rfl (f18.ne rfl (f17.ne rfl (f16.ne rfl (f15.ne rfl (f14.ne rfl (f13.ne rfl (f12.ne rfl (f11.ne rfl (f10.ne rfl (f9.ne rfl (f8.ne rfl (f7.ne rfl (f6.ne rfl (f5.ne rfl (f4.ne rfl (f3.ne rfl (f2.ne rfl (f1.ne rfl e192)))))))))))))))))))))))
  refine s_iaload (j := 0) (v := .int 0) rfl e192_23 (by decide) rfl (by first | rfl | decide) ?_
  have e193_23 := (f23.ne rfl (f22.ne rfl (f21.ne rfl (f20.ne rfl (f19.ne rfl (f18.ne rfl (f17.ne rfl (f16.ne rfl (f15.ne rfl (f14.ne rfl (f13.ne rfl (f12.ne rfl (f11.ne rfl (f10.ne rfl (f9.ne rfl (f8.ne rfl (f7.ne rfl (f6.ne rfl (f5.ne rfl (f4.ne rfl (f3.ne rfl (f2.ne rfl (f1.ne rfl e193)))))))))))))))))))))))
  refine s_iastore (j := 0) rfl e193_23 (by decide) rfl (fun h24 o24 f24 => ?_)
  have s24 := s23.put f24
  refine q_aload_n rfl rfl ?_
  refine q_dup rfl rfl ?_
  have e191_24 := (o23.ne f24 rfl)
  refine s_get (v := .int 0) rfl e191_24 rfl rfl ?_
  refine q_iconst rfl ?_
  refine s_iadd (k := 1) rfl (by decide) ?_
  refine s_put (vs' := [.int 0, .ref 192, .ref 193, .int 1, .ref 194, .ref 195, .ref 196, .ref 197, .ref 198, .ref 199, .ref 200, .ref 201, .ref 202, .ref 203, .ref 204, .ref 205, .int (-1), .int 0, .ref 206, .ref 207, .ref 208, .ref 209, .ref 210, .ref 211, .ref 212, .ref 213, .ref 214, .ref 215, .int 0, .int 0, .int 0, .int 0, .ref 216, .ref 217, .ref 218, .ref 219, .ref 220, .int (-1), .int 0, .int 0, .int 0, .int 0, .int 0, .int 0, .ref 221, .ref 222, .ref 223, .ref 224, .int 0, .ref 225, .int 0, .ref 226, .ref 227, .int 0, .ref 228, .ref 229, .ref 230, .ref 231, .ref 232]) rfl e191_24 rfl rfl rfl rfl (fun h25 o25 f25 => ?_)
  have s25 := s24.put f25
  refine s_iinc (y := 1) (lv' := [(2, .int 1), (0, .ref 191), (1, .int 4)]) rfl rfl (by decide) (by decide) rfl ?_
  refine q_goto rfl ?_
  refine q_iload_n rfl rfl ?_
  refine q_iload_n rfl rfl ?_
  refine q_icmp_ge rfl (fun c => absurd c (by decide)) (fun _ => ?_)
  refine q_aload_n rfl rfl ?_
  refine s_get (v := .ref 193) rfl o25 rfl rfl ?_
  refine q_aload_n rfl rfl ?_
  refine s_get (v := .int 1) rfl o25 rfl rfl ?_
  refine q_aload_n rfl rfl ?_
  refine s_get (v := .ref 192) rfl o25 rfl rfl ?_
  refine q_iload_n rfl rfl ?_
  have e192_25 := (f25.ne rfl (f24.ne rfl e192_23))
  refine s_iaload (j := 1) (v := .int 0) rfl e192_25 (by decide) rfl (by first | rfl | decide) ?_
  have e193_25 := (f25.ne rfl o24)
  refine s_iastore (j := 1) rfl e193_25 (by decide) rfl (fun h26 o26 f26 => ?_)
  have s26 := s25.put f26
  refine q_aload_n rfl rfl ?_
  refine q_dup rfl rfl ?_
  have e191_26 := (o25.ne f26 rfl)
  refine s_get (v := .int 1) rfl e191_26 rfl rfl ?_
  refine q_iconst rfl ?_
  refine s_iadd (k := 2) rfl (by decide) ?_
  refine s_put (vs' := [.int 0, .ref 192, .ref 193, .int 2, .ref 194, .ref 195, .ref 196, .ref 197, .ref 198, .ref 199, .ref 200, .ref 201, .ref 202, .ref 203, .ref 204, .ref 205, .int (-1), .int 0, .ref 206, .ref 207, .ref 208, .ref 209, .ref 210, .ref 211, .ref 212, .ref 213, .ref 214, .ref 215, .int 0, .int 0, .int 0, .int 0, .ref 216, .ref 217, .ref 218, .ref 219, .ref 220, .int (-1), .int 0, .int 0, .int 0, .int 0, .int 0, .int 0, .ref 221, .ref 222, .ref 223, .ref 224, .int 0, .ref 225, .int 0, .ref 226, .ref 227, .int 0, .ref 228, .ref 229, .ref 230, .ref 231, .ref 232]) rfl e191_26 rfl rfl rfl rfl (fun h27 o27 f27 => ?_)
  have s27 := s26.put f27
  refine s_iinc (y := 2) (lv' := [(2, .int 2), (0, .ref 191), (1, .int 4)]) rfl rfl (by decide) (by decide) rfl ?_
  refine q_goto rfl ?_
  refine q_iload_n rfl rfl ?_
  refine q_iload_n rfl rfl ?_
  refine q_icmp_ge rfl (fun c => absurd c (by decide)) (fun _ => ?_)
  refine q_aload_n rfl rfl ?_
  refine s_get (v := .ref 193) rfl o27 rfl rfl ?_
  refine q_aload_n rfl rfl ?_
  refine s_get (v := .int 2) rfl o27 rfl rfl ?_
  refine q_aload_n rfl rfl ?_
  refine s_get (v := .ref 192) rfl o27 rfl rfl ?_
  refine q_iload_n rfl rfl ?_
  have e192_27 := (f27.ne rfl (f26.ne rfl e192_25))
  refine s_iaload (j := 2) (v := .int 0) rfl e192_27 (by decide) rfl (by first | rfl | decide) ?_
  have e193_27 := (f27.ne rfl o26)
  refine s_iastore (j := 2) rfl e193_27 (by decide) rfl (fun h28 o28 f28 => ?_)
  have s28 := s27.put f28
  refine q_aload_n rfl rfl ?_
  refine q_dup rfl rfl ?_
  have e191_28 := (o27.ne f28 rfl)
  refine s_get (v := .int 2) rfl e191_28 rfl rfl ?_
  refine q_iconst rfl ?_
  refine s_iadd (k := 3) rfl (by decide) ?_
  refine s_put (vs' := [.int 0, .ref 192, .ref 193, .int 3, .ref 194, .ref 195, .ref 196, .ref 197, .ref 198, .ref 199, .ref 200, .ref 201, .ref 202, .ref 203, .ref 204, .ref 205, .int (-1), .int 0, .ref 206, .ref 207, .ref 208, .ref 209, .ref 210, .ref 211, .ref 212, .ref 213, .ref 214, .ref 215, .int 0, .int 0, .int 0, .int 0, .ref 216, .ref 217, .ref 218, .ref 219, .ref 220, .int (-1), .int 0, .int 0, .int 0, .int 0, .int 0, .int 0, .ref 221, .ref 222, .ref 223, .ref 224, .int 0, .ref 225, .int 0, .ref 226, .ref 227, .int 0, .ref 228, .ref 229, .ref 230, .ref 231, .ref 232]) rfl e191_28 rfl rfl rfl rfl (fun h29 o29 f29 => ?_)
  have s29 := s28.put f29
  refine s_iinc (y := 3) (lv' := [(2, .int 3), (0, .ref 191), (1, .int 4)]) rfl rfl (by decide) (by decide) rfl ?_
  refine q_goto rfl ?_
  refine q_iload_n rfl rfl ?_
  refine q_iload_n rfl rfl ?_
  refine q_icmp_ge rfl (fun c => absurd c (by decide)) (fun _ => ?_)
  refine q_aload_n rfl rfl ?_
  refine s_get (v := .ref 193) rfl o29 rfl rfl ?_
  refine q_aload_n rfl rfl ?_
  refine s_get (v := .int 3) rfl o29 rfl rfl ?_
  refine q_aload_n rfl rfl ?_
  refine s_get (v := .ref 192) rfl o29 rfl rfl ?_
  refine q_iload_n rfl rfl ?_
  have e192_29 := (f29.ne rfl (f28.ne rfl e192_27))
  refine s_iaload (j := 3) (v := .int 0) rfl e192_29 (by decide) rfl (by first | rfl | decide) ?_
  have e193_29 := (f29.ne rfl o28)
  refine s_iastore (j := 3) rfl e193_29 (by decide) rfl (fun h30 o30 f30 => ?_)
  have s30 := s29.put f30
  refine q_aload_n rfl rfl ?_
  refine q_dup rfl rfl ?_
  have e191_30 := (o29.ne f30 rfl)
  refine s_get (v := .int 3) rfl e191_30 rfl rfl ?_
  refine q_iconst rfl ?_
  refine s_iadd (k := 4) rfl (by decide) ?_
  refine s_put (vs' := [.int 0, .ref 192, .ref 193, .int 4, .ref 194, .ref 195, .ref 196, .ref 197, .ref 198, .ref 199, .ref 200, .ref 201, .ref 202, .ref 203, .ref 204, .ref 205, .int (-1), .int 0, .ref 206, .ref 207, .ref 208, .ref 209, .ref 210, .ref 211, .ref 212, .ref 213, .ref 214, .ref 215, .int 0, .int 0, .int 0, .int 0, .ref 216, .ref 217, .ref 218, .ref 219, .ref 220, .int (-1), .int 0, .int 0, .int 0, .int 0, .int 0, .int 0, .ref 221, .ref 222, .ref 223, .ref 224, .int 0, .ref 225, .int 0, .ref 226, .ref 227, .int 0, .ref 228, .ref 229, .ref 230, .ref 231, .ref 232]) rfl e191_30 rfl rfl rfl rfl (fun h31 o31 f31 => ?_)
  have s31 := s30.put f31
  refine s_iinc (y := 4) (lv' := [(2, .int 4), (0, .ref 191), (1, .int 4)]) rfl rfl (by decide) (by decide) rfl ?_
  refine q_goto rfl ?_
  refine q_iload_n rfl rfl ?_
  refine q_iload_n rfl rfl ?_
  refine q_icmp_ge rfl (fun _ => ?_) (fun c => absurd (by decide) c)
  refine q_iconst rfl ?_
  refine s_istore_n (lv' := [(2, .int 0), (0, .ref 191), (1, .int 4)]) rfl (by decide) rfl ?_
  refine q_iload_n rfl rfl ?_
  refine q_bipush rfl ?_
  refine q_icmp_ge rfl (fun c => absurd c (by decide)) (fun _ => ?_)
  refine q_aload_n rfl rfl ?_
  refine s_get (v := .ref 192) rfl o31 rfl rfl ?_
  refine q_iload_n rfl rfl ?_
  refine q_iconst rfl ?_
  have e192_31 := (f31.ne rfl (f30.ne rfl e192_29))
  refine s_iastore (j := 0) rfl e192_31 (by decide) rfl (fun h32 o32 f32 => ?_)
  have s32 := s31.put f32
  refine s_iinc (y := 1) (lv' := [(2, .int 1), (0, .ref 191), (1, .int 4)]) rfl rfl (by decide) (by decide) rfl ?_
  refine q_goto rfl ?_
  refine q_iload_n rfl rfl ?_
  refine q_bipush rfl ?_
  refine q_icmp_ge rfl (fun c => absurd c (by decide)) (fun _ => ?_)
  refine q_aload_n rfl rfl ?_
  have e191_32 := (o31.ne f32 rfl)
  refine s_get (v := .ref 192) rfl e191_32 rfl rfl ?_
  refine q_iload_n rfl rfl ?_
  refine q_iconst rfl ?_
  refine s_iastore (j := 1) rfl o32 (by decide) rfl (fun h33 o33 f33 => ?_)
  have s33 := s32.put f33
  refine s_iinc (y := 2) (lv' := [(2, .int 2), (0, .ref 191), (1, .int 4)]) rfl rfl (by decide) (by decide) rfl ?_
  refine q_goto rfl ?_
  refine q_iload_n rfl rfl ?_
  refine q_bipush rfl ?_
  refine q_icmp_ge rfl (fun c => absurd c (by decide)) (fun _ => ?_)
  refine q_aload_n rfl rfl ?_
  have e191_33 := (e191_32.ne f33 rfl)
  refine s_get (v := .ref 192) rfl e191_33 rfl rfl ?_
  refine q_iload_n rfl rfl ?_
  refine q_iconst rfl ?_
  refine s_iastore (j := 2) rfl o33 (by decide) rfl (fun h34 o34 f34 => ?_)
  have s34 := s33.put f34
  refine s_iinc (y := 3) (lv' := [(2, .int 3), (0, .ref 191), (1, .int 4)]) rfl rfl (by decide) (by decide) rfl ?_
  refine q_goto rfl ?_
  refine q_iload_n rfl rfl ?_
  refine q_bipush rfl ?_
  refine q_icmp_ge rfl (fun c => absurd c (by decide)) (fun _ => ?_)
  refine q_aload_n rfl rfl ?_
  have e191_34 := (e191_33.ne f34 rfl)
  refine s_get (v := .ref 192) rfl e191_34 rfl rfl ?_
  refine q_iload_n rfl rfl ?_
  refine q_iconst rfl ?_
  refine s_iastore (j := 3) rfl o34 (by decide) rfl (fun h35 o35 f35 => ?_)
  have s35 := s34.put f35
  refine s_iinc (y := 4) (lv' := [(2, .int 4), (0, .ref 191), (1, .int 4)]) rfl rfl (by decide) (by decide) rfl ?_
  refine q_goto rfl ?_
  refine q_iload_n rfl rfl ?_
  refine q_bipush rfl ?_
  refine q_icmp_ge rfl (fun c => absurd c (by decide)) (fun _ => ?_)
  refine q_aload_n rfl rfl ?_
  have e191_35 := (e191_34.ne f35 rfl)
  refine s_get (v := .ref 192) rfl e191_35 rfl rfl ?_
  refine q_iload_n rfl rfl ?_
  refine q_iconst rfl ?_
  refine s_iastore (j := 4) rfl o35 (by decide) rfl (fun h36 o36 f36 => ?_)
  have s36 := s35.put f36
  refine s_iinc (y := 5) (lv' := [(2, .int 5), (0, .ref 191), (1, .int 4)]) rfl rfl (by decide) (by decide) rfl ?_
  refine q_goto rfl ?_
  refine q_iload_n rfl rfl ?_
  refine q_bipush rfl ?_
  refine q_icmp_ge rfl (fun c => absurd c (by decide)) (fun _ => ?_)
  refine q_aload_n rfl rfl ?_
  have e191_36 := (e191_35.ne f36 rfl)
  refine s_get (v := .ref 192) rfl e191_36 rfl rfl ?_
  refine q_iload_n rfl rfl ?_
  refine q_iconst rfl ?_
  refine s_iastore (j := 5) rfl o36 (by decide) rfl (fun h37 o37 f37 => ?_)
  have s37 := s36.put f37
  refine s_iinc (y := 6) (lv' := [(2, .int 6), (0, .ref 191), (1, .int 4)]) rfl rfl (by decide) (by decide) rfl ?_
  refine q_goto rfl ?_
  refine q_iload_n rfl rfl ?_
  refine q_bipush rfl ?_
  refine q_icmp_ge rfl (fun c => absurd c (by decide)) (fun _ => ?_)
  refine q_aload_n rfl rfl ?_
  have e191_37 := (e191_36.ne f37 rfl)
  refine s_get (v := .ref 192) rfl e191_37 rfl rfl ?_
  refine q_iload_n rfl rfl ?_
  refine q_iconst rfl ?_
  refine s_iastore (j := 6) rfl o37 (by decide) rfl (fun h38 o38 f38 => ?_)
  have s38 := s37.put f38
  refine s_iinc (y := 7) (lv' := [(2, .int 7), (0, .ref 191), (1, .int 4)]) rfl rfl (by decide) (by decide) rfl ?_
  refine q_goto rfl ?_
  refine q_iload_n rfl rfl ?_
  refine q_bipush rfl ?_
  refine q_icmp_ge rfl (fun c => absurd c (by decide)) (fun _ => ?_)
  refine q_aload_n rfl rfl ?_
  have e191_38 := (e191_37.ne f38 rfl)
  refine s_get (v := .ref 192) rfl e191_38 rfl rfl ?_
  refine q_iload_n rfl rfl ?_
  refine q_iconst rfl ?_
  refine s_iastore (j := 7) rfl o38 (by decide) rfl (fun h39 o39 f39 => ?_)
  have s39 := s38.put f39
  refine s_iinc (y := 8) (lv' := [(2, .int 8), (0, .ref 191), (1, .int 4)]) rfl rfl (by decide) (by decide) rfl ?_
  refine q_goto rfl ?_
  refine q_iload_n rfl rfl ?_
  refine q_bipush rfl ?_
  refine q_icmp_ge rfl (fun c => absurd c (by decide)) (fun _ => ?_)
  refine q_aload_n rfl rfl ?_
  have e191_39 := (e191_38.ne f39 rfl)
  refine s_get (v := .ref 192) rfl e191_39 rfl rfl ?_
  refine q_iload_n rfl rfl ?_
  refine q_iconst rfl ?_
  refine s_iastore (j := 8) rfl o39 (by decide) rfl (fun h40 o40 f40 => ?_)
  have s40 := s39.put f40
  refine s_iinc (y := 9) (lv' := [(2, .int 9), (0, .ref 191), (1, .int 4)]) rfl rfl (by decide) (by decide) rfl ?_
  refine q_goto rfl ?_
  refine q_iload_n rfl rfl ?_
  refine q_bipush rfl ?_
  refine q_icmp_ge rfl (fun c => absurd c (by decide)) (fun _ => ?_)
  refine q_aload_n rfl rfl ?_
  have e191_40 := (e191_39.ne f40 rfl)
  refine s_get (v := .ref 192) rfl e191_40 rfl rfl ?_
  refine q_iload_n rfl rfl ?_
  refine q_iconst rfl ?_
  refine s_iastore (j := 9) rfl o40 (by decide) rfl (fun h41 o41 f41 => ?_)
  have s41 := s40.put f41
  refine s_iinc (y := 10) (lv' := [(2, .int 10), (0, .ref 191), (1, .int 4)]) rfl rfl (by decide) (by decide) rfl ?_
  refine q_goto rfl ?_
  refine q_iload_n rfl rfl ?_
  refine q_bipush rfl ?_
  refine q_icmp_ge rfl (fun c => absurd c (by decide)) (fun _ => ?_)
  refine q_aload_n rfl rfl ?_
  have e191_41 := (e191_40.ne f41 rfl)
  refine s_get (v := .ref 192) rfl e191_41 rfl rfl ?_
  refine q_iload_n rfl rfl ?_
  refine q_iconst rfl ?_
  refine s_iastore (j := 10) rfl o41 (by decide) rfl (fun h42 o42 f42 => ?_)
  have s42 := s41.put f42
  refine s_iinc (y := 11) (lv' := [(2, .int 11), (0, .ref 191), (1, .int 4)]) rfl rfl (by decide) (by decide) rfl ?_
  refine q_goto rfl ?_
  refine q_iload_n rfl rfl ?_
  refine q_bipush rfl ?_
  refine q_icmp_ge rfl (fun c => absurd c (by decide)) (fun _ => ?_)
  refine q_aload_n rfl rfl ?_
  have e191_42 := (e191_41.ne f42 rfl)
  refine s_get (v := .ref 192) rfl e191_42 rfl rfl ?_
  refine q_iload_n rfl rfl ?_
  refine q_iconst rfl ?_
  refine s_iastore (j := 11) rfl o42 (by decide) rfl (fun h43 o43 f43 => ?_)
  have s43 := s42.put f43
  refine s_iinc (y := 12) (lv' := [(2, .int 12), (0, .ref 191), (1, .int 4)]) rfl rfl (by decide) (by decide) rfl ?_
  refine q_goto rfl ?_
  refine q_iload_n rfl rfl ?_
  refine q_bipush rfl ?_
  refine q_icmp_ge rfl (fun c => absurd c (by decide)) (fun _ => ?_)
  refine q_aload_n rfl rfl ?_
  have e191_43 := (e191_42.ne f43 rfl)
  refine s_get (v := .ref 192) rfl e191_43 rfl rfl ?_
  refine q_iload_n rfl rfl ?_
  refine q_iconst rfl ?_
  refine s_iastore (j := 12) rfl o43 (by decide) rfl (fun h44 o44 f44 => ?_)
  have s44 := s43.put f44
  refine s_iinc (y := 13) (lv' := [(2, .int 13), (0, .ref 191), (1, .int 4)]) rfl rfl (by decide) (by decide) rfl ?_
  refine q_goto rfl ?_
  refine q_iload_n rfl rfl ?_
  refine q_bipush rfl ?_
  refine q_icmp_ge rfl (fun c => absurd c (by decide)) (fun _ => ?_)
  refine q_aload_n rfl rfl ?_
  have e191_44 := (e191_43.ne f44 rfl)
  refine s_get (v := .ref 192) rfl e191_44 rfl rfl ?_
  refine q_iload_n rfl rfl ?_
  refine q_iconst rfl ?_
  refine s_iastore (j := 13) rfl o44 (by decide) rfl (fun h45 o45 f45 => ?_)
  have s45 := s44.put f45
  refine s_iinc (y := 14) (lv' := [(2, .int 14), (0, .ref 191), (1, .int 4)]) rfl rfl (by decide) (by decide) rfl ?_
  refine q_goto rfl ?_
  refine q_iload_n rfl rfl ?_
  refine q_bipush rfl ?_
  refine q_icmp_ge rfl (fun c => absurd c (by decide)) (fun _ => ?_)
  refine q_aload_n rfl rfl ?_
  have e191_45 := (e191_44.ne f45 rfl)
  refine s_get (v := .ref 192) rfl e191_45 rfl rfl ?_
  refine q_iload_n rfl rfl ?_
  refine q_iconst rfl ?_
  refine s_iastore (j := 14) rfl o45 (by decide) rfl (fun h46 o46 f46 => ?_)
  have s46 := s45.put f46
  refine s_iinc (y := 15) (lv' := [(2, .int 15), (0, .ref 191), (1, .int 4)]) rfl rfl (by decide) (by decide) rfl ?_
  refine q_goto rfl ?_
  refine q_iload_n rfl rfl ?_
  refine q_bipush rfl ?_
  refine q_icmp_ge rfl (fun c => absurd c (by decide)) (fun _ => ?_)
  refine q_aload_n rfl rfl ?_
  have e191_46 := (e191_45.ne f46 rfl)
  refine s_get (v := .ref 192) rfl e191_46 rfl rfl ?_
  refine q_iload_n rfl rfl ?_
  refine q_iconst rfl ?_
  refine s_iastore (j := 15) rfl o46 (by decide) rfl (fun h47 o47 f47 => ?_)
  have s47 := s46.put f47
  refine s_iinc (y := 16) (lv' := [(2, .int 16), (0, .ref 191), (1, .int 4)]) rfl rfl (by decide) (by decide) rfl ?_
  refine q_goto rfl ?_
  refine q_iload_n rfl rfl ?_
  refine q_bipush rfl ?_
  refine q_icmp_ge rfl (fun c => absurd c (by decide)) (fun _ => ?_)
  refine q_aload_n rfl rfl ?_
  have e191_47 := (e191_46.ne f47 rfl)
  refine s_get (v := .ref 192) rfl e191_47 rfl rfl ?_
  refine q_iload_n rfl rfl ?_
  refine q_iconst rfl ?_
  refine s_iastore (j := 16) rfl o47 (by decide) rfl (fun h48 o48 f48 => ?_)
  have s48 := s47.put f48
  refine s_iinc (y := 17) (lv' := [(2, .int 17), (0, .ref 191), (1, .int 4)]) rfl rfl (by decide) (by decide) rfl ?_
  refine q_goto rfl ?_
  refine q_iload_n rfl rfl ?_
  refine q_bipush rfl ?_
  refine q_icmp_ge rfl (fun c => absurd c (by decide)) (fun _ => ?_)
  refine q_aload_n rfl rfl ?_
  have e191_48 := (e191_47.ne f48 rfl)
  refine s_get (v := .ref 192) rfl e191_48 rfl rfl ?_
  refine q_iload_n rfl rfl ?_
  refine q_iconst rfl ?_
  refine s_iastore (j := 17) rfl o48 (by decide) rfl (fun h49 o49 f49 => ?_)
  have s49 := s48.put f49
  refine s_iinc (y := 18) (lv' := [(2, .int 18), (0, .ref 191), (1, .int 4)]) rfl rfl (by decide) (by decide) rfl ?_
  refine q_goto rfl ?_
  refine q_iload_n rfl rfl ?_
  refine q_bipush rfl ?_
  refine q_icmp_ge rfl (fun c => absurd c (by decide)) (fun _ => ?_)
  refine q_aload_n rfl rfl ?_
  have e191_49 := (e191_48.ne f49 rfl)
  refine s_get (v := .ref 192) rfl e191_49 rfl rfl ?_
  refine q_iload_n rfl rfl ?_
  refine q_iconst rfl ?_
  refine s_iastore (j := 18) rfl o49 (by decide) rfl (fun h50 o50 f50 => ?_)
  have s50 := s49.put f50
  refine s_iinc (y := 19) (lv' := [(2, .int 19), (0, .ref 191), (1, .int 4)]) rfl rfl (by decide) (by decide) rfl ?_
  refine q_goto rfl ?_
  refine q_iload_n rfl rfl ?_
  refine q_bipush rfl ?_
  refine q_icmp_ge rfl (fun c => absurd c (by decide)) (fun _ => ?_)
  refine q_aload_n rfl rfl ?_
  have e191_50 := (e191_49.ne f50 rfl)
  refine s_get (v := .ref 192) rfl e191_50 rfl rfl ?_
  refine q_iload_n rfl rfl ?_
  refine q_iconst rfl ?_
  refine s_iastore (j := 19) rfl o50 (by decide) rfl (fun h51 o51 f51 => ?_)
  have s51 := s50.put f51
  refine s_iinc (y := 20) (lv' := [(2, .int 20), (0, .ref 191), (1, .int 4)]) rfl rfl (by decide) (by decide) rfl ?_
  refine q_goto rfl ?_
  refine q_iload_n rfl rfl ?_
  refine q_bipush rfl ?_
  refine q_icmp_ge rfl (fun _ => ?_) (fun c => absurd (by decide) c)
  refine q_aload_n rfl rfl ?_
  have e191_51 := (e191_50.ne f51 rfl)
  refine s_get (v := .int 4) rfl e191_51 rfl rfl ?_
  refine q_ireturn rfl rfl ?_
  show aW aiP 0 17 658 243 [(4, .int 0), (3, .ref 233), (2, .ref 191), (1, .ref 6), (0, .ref 0)] [.int 4, .int 4] h51 _
  refine q_icmp_eq rfl (fun _ => ?_) (fun c => absurd (by decide) c)
  refine s_iinc (y := 6) (lv' := [(4, .int 6), (3, .ref 233), (2, .ref 191), (1, .ref 6), (0, .ref 0)]) rfl rfl (by decide) (by decide) rfl ?_
  refine q_goto rfl ?_
  refine q_iload rfl rfl ?_
  refine q_aload_n rfl rfl ?_
  have e0_51 := (f51.ne rfl (f50.ne rfl (f49.ne rfl (f48.ne rfl (f47.ne rfl (f46.ne rfl (f45.ne rfl (f44.ne rfl (f43.ne rfl (f42.ne rfl (f41.ne rfl (f40.ne rfl (f39.ne rfl (f38.ne rfl (f37.ne rfl (f36.ne rfl (f35.ne rfl (f34.ne rfl (f33.ne rfl (f32.ne rfl (f31.ne rfl (f30.ne rfl (f29.ne rfl (f28.ne rfl (f27.ne rfl (f26.ne rfl (f25.ne rfl (f24.ne rfl (f23.ne rfl e0_22)))))))))))))))))))))))))))))
  refine s_alen (x := 6) rfl e0_51 rfl (by decide) ?_
  refine q_bipush rfl ?_
  refine s_isub (k := 0) rfl (by decide) ?_
  refine q_icmp_gt rfl (fun _ => ?_) (fun c => absurd (by decide) c)
  refine q_iconst rfl ?_
  refine q_ireturn rfl rfl ?_
  exact ⟨rfl, s51.bd rfl⟩
set_option maxRecDepth 20000 in
set_option maxHeartbeats 4000000 in
theorem p_case1_5 {xs : Nat → Int32} {h : ai_H} (F : Fresh 6 xs h) (hk : xs 0 &&& 31 = 1) (hw : xs 1 = 5) : aW aiP 0 17 658 33 [(4, .int 0), (3, .ref 233), (2, .ref 191), (1, .ref 6), (0, .ref 0)] [] h p_Q := by
  obtain ⟨e0, e1, ⟨g2, e2⟩, ⟨g3, e3⟩, ⟨g4, e4⟩, e5, e6, e7, e8, e9, e51, e93, e135, e177, e178, e179, e180, e181, e182, e183, e184, e185, e186, e187, e188, e189, e190, e191, e192, e193, e194, e195, e196, e197, e198, e199, e200, e201, e202, e203, e204, e205, e206, e207, e208, e209, e210, e211, e212, e213, e214, e215, e216, e217, e218, e219, e220, e221, e222, e223, e224, e225, e226, e227, ⟨g228, e228⟩, ⟨g229, e229⟩, e230, e231, e232, e233, s0⟩ := F
  refine q_aload_n rfl rfl ?_
  refine q_iload rfl rfl ?_
  refine s_iaload (j := 0) (v := .int (xs 0)) rfl e0 (by decide) rfl (by first | rfl | decide) ?_
  refine q_bipush rfl ?_
  refine s_iand (k := ((xs 0) &&& (31 : Int32))) rfl rfl ?_
  rw [hk]
  show aW aiP 0 17 658 40 [(4, .int 0), (3, .ref 233), (2, .ref 191), (1, .ref 6), (0, .ref 0)] [.int 1] h _
  refine s_sw (tg := 223) rfl rfl ?_
  refine q_aload_n rfl rfl ?_
  refine q_aload_n rfl rfl ?_
  refine q_iload rfl rfl ?_
  refine q_iconst rfl ?_
  refine s_iadd (k := 1) rfl (by decide) ?_
  refine s_iaload (j := 1) (v := .int (xs 1)) rfl e0 (by decide) rfl (by first | rfl | decide) ?_
  rw [hw]
  refine s_callV (as := [.int 5]) (rest := []) (d' := 16) (w' := 637) (lv' := [(0, .ref 6), (1, .int 5)]) rfl e6 rfl rfl rfl rfl rfl rfl ?_
  refine q_iload_n rfl rfl ?_
  refine q_if_lt rfl (fun c => absurd c (by decide)) (fun _ => ?_)
  refine q_iload_n rfl rfl ?_
  refine q_bipush rfl ?_
  refine q_icmp_gt rfl (fun c => absurd c (by decide)) (fun _ => ?_)
  refine q_aload_n rfl rfl ?_
  refine s_get (v := .int 0) rfl e6 rfl rfl ?_
  refine q_iload_n rfl rfl ?_
  refine s_iadd (k := 5) rfl (by decide) ?_
  refine q_sipush rfl ?_
  refine q_icmp_le rfl (fun _ => ?_) (fun c => absurd (by decide) c)
  refine q_aload_n rfl rfl ?_
  refine s_get (v := .ref 7) rfl e6 rfl rfl ?_
  refine q_iconst rfl ?_
  refine q_aload_n rfl rfl ?_
  refine s_get (v := .ref 8) rfl e6 rfl rfl ?_
  refine q_aload_n rfl rfl ?_
  refine s_get (v := .int 0) rfl e6 rfl rfl ?_
  refine q_iload_n rfl rfl ?_
  refine s_copy (sp := 0) (dp := 0) (k := 5) rfl e7 e8 (by decide) (by decide) (by decide) rfl (by decide) (by decide) (by decide) (fun i _ => rfl) (fun h1 o1 f1 => ?_)
  have s1 := s0.put f1
  refine q_aload_n rfl rfl ?_
  refine q_dup rfl rfl ?_
  have e6_1 := (e6.ne f1 rfl)
  refine s_get (v := .int 0) rfl e6_1 rfl rfl ?_
  refine q_iload_n rfl rfl ?_
  refine s_iadd (k := 5) rfl (by decide) ?_
  refine s_put (vs' := [.ref 7, .ref 8, .int 5, .ref 9, .int (-1), .ref 51, .ref 93, .ref 135, .ref 177, .ref 180, .int 0, .ref 183, .ref 186, .ref 189]) rfl e6_1 rfl rfl rfl rfl (fun h2 o2 f2 => ?_)
  have s2 := s1.put f2
  refine q_aload_n rfl rfl ?_
  refine s_get (v := .ref 7) rfl o2 rfl rfl ?_
  refine q_iconst rfl ?_
  refine s_callS (as := [.ref 7, .int 0]) (rest := []) (d' := 15) (w' := 614) (lv' := [(0, .ref 7), (1, .int 0)]) rfl rfl rfl rfl rfl rfl rfl rfl ?_
  refine q_iconst rfl ?_
  refine s_istore_n (lv' := [(2, .int 0), (0, .ref 7), (1, .int 0)]) rfl (by decide) rfl ?_
  refine q_aload_n rfl rfl ?_
  have e7_2 := (f2.ne rfl (f1.ne rfl e7))
  refine s_alen (x := 20) rfl e7_2 rfl (by decide) ?_
  refine s_istore_n (lv' := [(3, .int 20), (2, .int 0), (0, .ref 7), (1, .int 0)]) rfl (by decide) rfl ?_
  refine q_iload_n rfl rfl ?_
  refine q_iload_n rfl rfl ?_
  refine q_icmp_ge rfl (fun c => absurd c (by decide)) (fun _ => ?_)
  refine q_aload_n rfl rfl ?_
  refine q_iload_n rfl rfl ?_
  refine q_iload_n rfl rfl ?_
  refine s_bastore (j := 0) rfl e7_2 (by decide) rfl (fun h3 o3 f3 => ?_)
  have s3 := s2.put f3
  refine s_iinc (y := 1) (lv' := [(2, .int 1), (3, .int 20), (0, .ref 7), (1, .int 0)]) rfl rfl (by decide) (by decide) rfl ?_
  refine q_goto rfl ?_
  refine q_iload_n rfl rfl ?_
  refine q_iload_n rfl rfl ?_
  refine q_icmp_ge rfl (fun c => absurd c (by decide)) (fun _ => ?_)
  refine q_aload_n rfl rfl ?_
  refine q_iload_n rfl rfl ?_
  refine q_iload_n rfl rfl ?_
  refine s_bastore (j := 1) rfl o3 (by decide) rfl (fun h4 o4 f4 => ?_)
  have s4 := s3.put f4
  refine s_iinc (y := 2) (lv' := [(2, .int 2), (3, .int 20), (0, .ref 7), (1, .int 0)]) rfl rfl (by decide) (by decide) rfl ?_
  refine q_goto rfl ?_
  refine q_iload_n rfl rfl ?_
  refine q_iload_n rfl rfl ?_
  refine q_icmp_ge rfl (fun c => absurd c (by decide)) (fun _ => ?_)
  refine q_aload_n rfl rfl ?_
  refine q_iload_n rfl rfl ?_
  refine q_iload_n rfl rfl ?_
  refine s_bastore (j := 2) rfl o4 (by decide) rfl (fun h5 o5 f5 => ?_)
  have s5 := s4.put f5
  refine s_iinc (y := 3) (lv' := [(2, .int 3), (3, .int 20), (0, .ref 7), (1, .int 0)]) rfl rfl (by decide) (by decide) rfl ?_
  refine q_goto rfl ?_
  refine q_iload_n rfl rfl ?_
  refine q_iload_n rfl rfl ?_
  refine q_icmp_ge rfl (fun c => absurd c (by decide)) (fun _ => ?_)
  refine q_aload_n rfl rfl ?_
  refine q_iload_n rfl rfl ?_
  refine q_iload_n rfl rfl ?_
  refine s_bastore (j := 3) rfl o5 (by decide) rfl (fun h6 o6 f6 => ?_)
  have s6 := s5.put f6
  refine s_iinc (y := 4) (lv' := [(2, .int 4), (3, .int 20), (0, .ref 7), (1, .int 0)]) rfl rfl (by decide) (by decide) rfl ?_
  refine q_goto rfl ?_
  refine q_iload_n rfl rfl ?_
  refine q_iload_n rfl rfl ?_
  refine q_icmp_ge rfl (fun c => absurd c (by decide)) (fun _ => ?_)
  refine q_aload_n rfl rfl ?_
  refine q_iload_n rfl rfl ?_
  refine q_iload_n rfl rfl ?_
  refine s_bastore (j := 4) rfl o6 (by decide) rfl (fun h7 o7 f7 => ?_)
  have s7 := s6.put f7
  refine s_iinc (y := 5) (lv' := [(2, .int 5), (3, .int 20), (0, .ref 7), (1, .int 0)]) rfl rfl (by decide) (by decide) rfl ?_
  refine q_goto rfl ?_
  refine q_iload_n rfl rfl ?_
  refine q_iload_n rfl rfl ?_
  refine q_icmp_ge rfl (fun c => absurd c (by decide)) (fun _ => ?_)
  refine q_aload_n rfl rfl ?_
  refine q_iload_n rfl rfl ?_
  refine q_iload_n rfl rfl ?_
  refine s_bastore (j := 5) rfl o7 (by decide) rfl (fun h8 o8 f8 => ?_)
  have s8 := s7.put f8
  refine s_iinc (y := 6) (lv' := [(2, .int 6), (3, .int 20), (0, .ref 7), (1, .int 0)]) rfl rfl (by decide) (by decide) rfl ?_
  refine q_goto rfl ?_
  refine q_iload_n rfl rfl ?_
  refine q_iload_n rfl rfl ?_
  refine q_icmp_ge rfl (fun c => absurd c (by decide)) (fun _ => ?_)
  refine q_aload_n rfl rfl ?_
  refine q_iload_n rfl rfl ?_
  refine q_iload_n rfl rfl ?_
  refine s_bastore (j := 6) rfl o8 (by decide) rfl (fun h9 o9 f9 => ?_)
  have s9 := s8.put f9
  refine s_iinc (y := 7) (lv' := [(2, .int 7), (3, .int 20), (0, .ref 7), (1, .int 0)]) rfl rfl (by decide) (by decide) rfl ?_
  refine q_goto rfl ?_
  refine q_iload_n rfl rfl ?_
  refine q_iload_n rfl rfl ?_
  refine q_icmp_ge rfl (fun c => absurd c (by decide)) (fun _ => ?_)
  refine q_aload_n rfl rfl ?_
  refine q_iload_n rfl rfl ?_
  refine q_iload_n rfl rfl ?_
  refine s_bastore (j := 7) rfl o9 (by decide) rfl (fun h10 o10 f10 => ?_)
  have s10 := s9.put f10
  refine s_iinc (y := 8) (lv' := [(2, .int 8), (3, .int 20), (0, .ref 7), (1, .int 0)]) rfl rfl (by decide) (by decide) rfl ?_
  refine q_goto rfl ?_
  refine q_iload_n rfl rfl ?_
  refine q_iload_n rfl rfl ?_
  refine q_icmp_ge rfl (fun c => absurd c (by decide)) (fun _ => ?_)
  refine q_aload_n rfl rfl ?_
  refine q_iload_n rfl rfl ?_
  refine q_iload_n rfl rfl ?_
  refine s_bastore (j := 8) rfl o10 (by decide) rfl (fun h11 o11 f11 => ?_)
  have s11 := s10.put f11
  refine s_iinc (y := 9) (lv' := [(2, .int 9), (3, .int 20), (0, .ref 7), (1, .int 0)]) rfl rfl (by decide) (by decide) rfl ?_
  refine q_goto rfl ?_
  refine q_iload_n rfl rfl ?_
  refine q_iload_n rfl rfl ?_
  refine q_icmp_ge rfl (fun c => absurd c (by decide)) (fun _ => ?_)
  refine q_aload_n rfl rfl ?_
  refine q_iload_n rfl rfl ?_
  refine q_iload_n rfl rfl ?_
  refine s_bastore (j := 9) rfl o11 (by decide) rfl (fun h12 o12 f12 => ?_)
  have s12 := s11.put f12
  refine s_iinc (y := 10) (lv' := [(2, .int 10), (3, .int 20), (0, .ref 7), (1, .int 0)]) rfl rfl (by decide) (by decide) rfl ?_
  refine q_goto rfl ?_
  refine q_iload_n rfl rfl ?_
  refine q_iload_n rfl rfl ?_
  refine q_icmp_ge rfl (fun c => absurd c (by decide)) (fun _ => ?_)
  refine q_aload_n rfl rfl ?_
  refine q_iload_n rfl rfl ?_
  refine q_iload_n rfl rfl ?_
  refine s_bastore (j := 10) rfl o12 (by decide) rfl (fun h13 o13 f13 => ?_)
  have s13 := s12.put f13
  refine s_iinc (y := 11) (lv' := [(2, .int 11), (3, .int 20), (0, .ref 7), (1, .int 0)]) rfl rfl (by decide) (by decide) rfl ?_
  refine q_goto rfl ?_
  refine q_iload_n rfl rfl ?_
  refine q_iload_n rfl rfl ?_
  refine q_icmp_ge rfl (fun c => absurd c (by decide)) (fun _ => ?_)
  refine q_aload_n rfl rfl ?_
  refine q_iload_n rfl rfl ?_
  refine q_iload_n rfl rfl ?_
  refine s_bastore (j := 11) rfl o13 (by decide) rfl (fun h14 o14 f14 => ?_)
  have s14 := s13.put f14
  refine s_iinc (y := 12) (lv' := [(2, .int 12), (3, .int 20), (0, .ref 7), (1, .int 0)]) rfl rfl (by decide) (by decide) rfl ?_
  refine q_goto rfl ?_
  refine q_iload_n rfl rfl ?_
  refine q_iload_n rfl rfl ?_
  refine q_icmp_ge rfl (fun c => absurd c (by decide)) (fun _ => ?_)
  refine q_aload_n rfl rfl ?_
  refine q_iload_n rfl rfl ?_
  refine q_iload_n rfl rfl ?_
  refine s_bastore (j := 12) rfl o14 (by decide) rfl (fun h15 o15 f15 => ?_)
  have s15 := s14.put f15
  refine s_iinc (y := 13) (lv' := [(2, .int 13), (3, .int 20), (0, .ref 7), (1, .int 0)]) rfl rfl (by decide) (by decide) rfl ?_
  refine q_goto rfl ?_
  refine q_iload_n rfl rfl ?_
  refine q_iload_n rfl rfl ?_
  refine q_icmp_ge rfl (fun c => absurd c (by decide)) (fun _ => ?_)
  refine q_aload_n rfl rfl ?_
  refine q_iload_n rfl rfl ?_
  refine q_iload_n rfl rfl ?_
  refine s_bastore (j := 13) rfl o15 (by decide) rfl (fun h16 o16 f16 => ?_)
  have s16 := s15.put f16
  refine s_iinc (y := 14) (lv' := [(2, .int 14), (3, .int 20), (0, .ref 7), (1, .int 0)]) rfl rfl (by decide) (by decide) rfl ?_
  refine q_goto rfl ?_
  refine q_iload_n rfl rfl ?_
  refine q_iload_n rfl rfl ?_
  refine q_icmp_ge rfl (fun c => absurd c (by decide)) (fun _ => ?_)
  refine q_aload_n rfl rfl ?_
  refine q_iload_n rfl rfl ?_
  refine q_iload_n rfl rfl ?_
  refine s_bastore (j := 14) rfl o16 (by decide) rfl (fun h17 o17 f17 => ?_)
  have s17 := s16.put f17
  refine s_iinc (y := 15) (lv' := [(2, .int 15), (3, .int 20), (0, .ref 7), (1, .int 0)]) rfl rfl (by decide) (by decide) rfl ?_
  refine q_goto rfl ?_
  refine q_iload_n rfl rfl ?_
  refine q_iload_n rfl rfl ?_
  refine q_icmp_ge rfl (fun c => absurd c (by decide)) (fun _ => ?_)
  refine q_aload_n rfl rfl ?_
  refine q_iload_n rfl rfl ?_
  refine q_iload_n rfl rfl ?_
  refine s_bastore (j := 15) rfl o17 (by decide) rfl (fun h18 o18 f18 => ?_)
  have s18 := s17.put f18
  refine s_iinc (y := 16) (lv' := [(2, .int 16), (3, .int 20), (0, .ref 7), (1, .int 0)]) rfl rfl (by decide) (by decide) rfl ?_
  refine q_goto rfl ?_
  refine q_iload_n rfl rfl ?_
  refine q_iload_n rfl rfl ?_
  refine q_icmp_ge rfl (fun c => absurd c (by decide)) (fun _ => ?_)
  refine q_aload_n rfl rfl ?_
  refine q_iload_n rfl rfl ?_
  refine q_iload_n rfl rfl ?_
  refine s_bastore (j := 16) rfl o18 (by decide) rfl (fun h19 o19 f19 => ?_)
  have s19 := s18.put f19
  refine s_iinc (y := 17) (lv' := [(2, .int 17), (3, .int 20), (0, .ref 7), (1, .int 0)]) rfl rfl (by decide) (by decide) rfl ?_
  refine q_goto rfl ?_
  refine q_iload_n rfl rfl ?_
  refine q_iload_n rfl rfl ?_
  refine q_icmp_ge rfl (fun c => absurd c (by decide)) (fun _ => ?_)
  refine q_aload_n rfl rfl ?_
  refine q_iload_n rfl rfl ?_
  refine q_iload_n rfl rfl ?_
  refine s_bastore (j := 17) rfl o19 (by decide) rfl (fun h20 o20 f20 => ?_)
  have s20 := s19.put f20
  refine s_iinc (y := 18) (lv' := [(2, .int 18), (3, .int 20), (0, .ref 7), (1, .int 0)]) rfl rfl (by decide) (by decide) rfl ?_
  refine q_goto rfl ?_
  refine q_iload_n rfl rfl ?_
  refine q_iload_n rfl rfl ?_
  refine q_icmp_ge rfl (fun c => absurd c (by decide)) (fun _ => ?_)
  refine q_aload_n rfl rfl ?_
  refine q_iload_n rfl rfl ?_
  refine q_iload_n rfl rfl ?_
  refine s_bastore (j := 18) rfl o20 (by decide) rfl (fun h21 o21 f21 => ?_)
  have s21 := s20.put f21
  refine s_iinc (y := 19) (lv' := [(2, .int 19), (3, .int 20), (0, .ref 7), (1, .int 0)]) rfl rfl (by decide) (by decide) rfl ?_
  refine q_goto rfl ?_
  refine q_iload_n rfl rfl ?_
  refine q_iload_n rfl rfl ?_
  refine q_icmp_ge rfl (fun c => absurd c (by decide)) (fun _ => ?_)
  refine q_aload_n rfl rfl ?_
  refine q_iload_n rfl rfl ?_
  refine q_iload_n rfl rfl ?_
  refine s_bastore (j := 19) rfl o21 (by decide) rfl (fun h22 o22 f22 => ?_)
  have s22 := s21.put f22
  refine s_iinc (y := 20) (lv' := [(2, .int 20), (3, .int 20), (0, .ref 7), (1, .int 0)]) rfl rfl (by decide) (by decide) rfl ?_
  refine q_goto rfl ?_
  refine q_iload_n rfl rfl ?_
  refine q_iload_n rfl rfl ?_
  refine q_icmp_ge rfl (fun _ => ?_) (fun c => absurd (by decide) c)
  refine q_return rfl rfl ?_
  show aW aiP 15 16 637 59 [(0, .ref 6), (1, .int 5)] [] h22 _
  refine q_aload_n rfl rfl ?_
  have e6_22 := ((((((((((((((((((((o2.ne f3 rfl).ne f4 rfl).ne f5 rfl).ne f6 rfl).ne f7 rfl).ne f8 rfl).ne f9 rfl).ne f10 rfl).ne f11 rfl).ne f12 rfl).ne f13 rfl).ne f14 rfl).ne f15 rfl).ne f16 rfl).ne f17 rfl).ne f18 rfl).ne f19 rfl).ne f20 rfl).ne f21 rfl).ne f22 rfl)
  refine s_get (v := .int 5) rfl e6_22 rfl rfl ?_
  refine q_ireturn rfl rfl ?_
  show aW aiP 0 17 658 233 [(4, .int 0), (3, .ref 233), (2, .ref 191), (1, .ref 6), (0, .ref 0)] [.int 5] h22 _
  refine q_aload_n rfl rfl ?_
  refine q_aload_n rfl rfl ?_
  refine q_iload rfl rfl ?_
  refine q_iconst rfl ?_
  refine s_iadd (k := 1) rfl (by decide) ?_
  have e0_22 := (f22.ne rfl (f21.ne rfl (f20.ne rfl (f19.ne rfl (f18.ne rfl (f17.ne rfl (f16.ne rfl (f15.ne rfl (f14.ne rfl (f13.ne rfl (f12.ne rfl (f11.ne rfl (f10.ne rfl (f9.ne rfl (f8.ne rfl (f7.ne rfl (f6.ne rfl (f5.ne rfl (f4.ne rfl (f3.ne rfl (f2.ne rfl (f1.ne rfl e0))))))))))))))))))))))
  refine s_iaload (j := 1) (v := .int (xs 1)) rfl e0_22 (by decide) rfl (by first | rfl | decide) ?_
  rw [hw]
  have e191_22 := ((((((((((((((((((((((e191.ne f1 rfl).ne f2 rfl).ne f3 rfl).ne f4 rfl).ne f5 rfl).ne f6 rfl).ne f7 rfl).ne f8 rfl).ne f9 rfl).ne f10 rfl).ne f11 rfl).ne f12 rfl).ne f13 rfl).ne f14 rfl).ne f15 rfl).ne f16 rfl).ne f17 rfl).ne f18 rfl).ne f19 rfl).ne f20 rfl).ne f21 rfl).ne f22 rfl)
  refine s_callV (as := [.int 5]) (rest := [.int 5]) (d' := 16) (w' := 636) (lv' := [(0, .ref 191), (1, .int 5)]) rfl e191_22 rfl rfl rfl rfl rfl rfl ?_
  refine q_aload_n rfl rfl ?_
  refine q_iconst rfl ?_
  refine s_put (vs' := [.int 0, .ref 192, .ref 193, .int 0, .ref 194, .ref 195, .ref 196, .ref 197, .ref 198, .ref 199, .ref 200, .ref 201, .ref 202, .ref 203, .ref 204, .ref 205, .int (-1), .int 0, .ref 206, .ref 207, .ref 208, .ref 209, .ref 210, .ref 211, .ref 212, .ref 213, .ref 214, .ref 215, .int 0, .int 0, .int 0, .int 0, .ref 216, .ref 217, .ref 218, .ref 219, .ref 220, .int (-1), .int 0, .int 0, .int 0, .int 0, .int 0, .int 0, .ref 221, .ref 222, .ref 223, .ref 224, .int 0, .ref 225, .int 0, .ref 226, .ref 227, .int 0, .ref 228, .ref 229, .ref 230, .ref 231, .ref 232]) rfl e191_22 rfl rfl rfl rfl (fun h23 o23 f23 => ?_)
  have s23 := s22.put f23
  refine q_iload_n rfl rfl ?_
  refine q_if_lt rfl (fun c => absurd c (by decide)) (fun _ => ?_)
  refine q_iload_n rfl rfl ?_
  refine q_bipush rfl ?_
  refine q_icmp_gt rfl (fun c => absurd c (by decide)) (fun _ => ?_)
  refine q_aload_n rfl rfl ?_
  refine s_get (v := .int 0) rfl o23 rfl rfl ?_
  refine q_iload_n rfl rfl ?_
  refine s_iadd (k := 5) rfl (by decide) ?_
  refine q_sipush rfl ?_
  refine q_icmp_le rfl (fun _ => ?_) (fun c => absurd (by decide) c)
  refine q_iconst rfl ?_
  refine s_istore_n (lv' := [(2, .int 0), (0, .ref 191), (1, .int 5)]) rfl (by decide) rfl ?_
  refine q_iload_n rfl rfl ?_
  refine q_iload_n rfl rfl ?_
  refine q_icmp_ge rfl (fun c => absurd c (by decide)) (fun _ => ?_)
  refine q_aload_n rfl rfl ?_
  refine s_get (v := .ref 193) rfl o23 rfl rfl ?_
  refine q_aload_n rfl rfl ?_
  refine s_get (v := .int 0) rfl o23 rfl rfl ?_
  refine q_aload_n rfl rfl ?_
  refine s_get (v := .ref 192) rfl o23 rfl rfl ?_
  refine q_iload_n rfl rfl ?_
  have e192_23 := (f23.ne rfl (f22.ne rfl (f21.ne rfl (f20.ne rfl (f19.ne rfl (f18.ne rfl (f17.ne rfl (f16.ne rfl (f15.ne rfl (f14.ne rfl (f13.ne rfl (f12.ne rfl (f11.ne rfl (f10.ne rfl (f9.ne rfl (f8.ne rfl (f7.ne rfl (f6.ne rfl (f5.ne rfl (f4.ne rfl (f3.ne rfl (f2.ne rfl (f1.ne rfl e192)))))))))))))))))))))))
  refine s_iaload (j := 0) (v := .int 0) rfl e192_23 (by decide) rfl (by first | rfl | decide) ?_
  have e193_23 := (f23.ne rfl (f22.ne rfl (f21.ne rfl (f20.ne rfl (f19.ne rfl (f18.ne rfl (f17.ne rfl (f16.ne rfl (f15.ne rfl (f14.ne rfl (f13.ne rfl (f12.ne rfl (f11.ne rfl (f10.ne rfl (f9.ne rfl (f8.ne rfl (f7.ne rfl (f6.ne rfl (f5.ne rfl (f4.ne rfl (f3.ne rfl (f2.ne rfl (f1.ne rfl e193)))))))))))))))))))))))
  refine s_iastore (j := 0) rfl e193_23 (by decide) rfl (fun h24 o24 f24 => ?_)
  have s24 := s23.put f24
  refine q_aload_n rfl rfl ?_
  refine q_dup rfl rfl ?_
  have e191_24 := (o23.ne f24 rfl)
  refine s_get (v := .int 0) rfl e191_24 rfl rfl ?_
  refine q_iconst rfl ?_
  refine s_iadd (k := 1) rfl (by decide) ?_
  refine s_put (vs' := [.int 0, .ref 192, .ref 193, .int 1, .ref 194, .ref 195, .ref 196, .ref 197, .ref 198, .ref 199, .ref 200, .ref 201, .ref 202, .ref 203, .ref 204, .ref 205, .int (-1), .int 0, .ref 206, .ref 207, .ref 208, .ref 209, .ref 210, .ref 211, .ref 212, .ref 213, .ref 214, .ref 215, .int 0, .int 0, .int 0, .int 0, .ref 216, .ref 217, .ref 218, .ref 219, .ref 220, .int (-1), .int 0, .int 0, .int 0, .int 0, .int 0, .int 0, .ref 221, .ref 222, .ref 223, .ref 224, .int 0, .ref 225, .int 0, .ref 226, .ref 227, .int 0, .ref 228, .ref 229, .ref 230, .ref 231, .ref 232]) rfl e191_24 rfl rfl rfl rfl (fun h25 o25 f25 => ?_)
  have s25 := s24.put f25
  refine s_iinc (y := 1) (lv' := [(2, .int 1), (0, .ref 191), (1, .int 5)]) rfl rfl (by decide) (by decide) rfl ?_
  refine q_goto rfl ?_
  refine q_iload_n rfl rfl ?_
  refine q_iload_n rfl rfl ?_
  refine q_icmp_ge rfl (fun c => absurd c (by decide)) (fun _ => ?_)
  refine q_aload_n rfl rfl ?_
  refine s_get (v := .ref 193) rfl o25 rfl rfl ?_
  refine q_aload_n rfl rfl ?_
  refine s_get (v := .int 1) rfl o25 rfl rfl ?_
  refine q_aload_n rfl rfl ?_
  refine s_get (v := .ref 192) rfl o25 rfl rfl ?_
  refine q_iload_n rfl rfl ?_
  have e192_25 := (f25.ne rfl (f24.ne rfl e192_23))
  refine s_iaload (j := 1) (v := .int 0) rfl e192_25 (by decide) rfl (by first | rfl | decide) ?_
  have e193_25 := (f25.ne rfl o24)
  refine s_iastore (j := 1) rfl e193_25 (by decide) rfl (fun h26 o26 f26 => ?_)
  have s26 := s25.put f26
  refine q_aload_n rfl rfl ?_
  refine q_dup rfl rfl ?_
  have e191_26 := (o25.ne f26 rfl)
  refine s_get (v := .int 1) rfl e191_26 rfl rfl ?_
  refine q_iconst rfl ?_
  refine s_iadd (k := 2) rfl (by decide) ?_
  refine s_put (vs' := [.int 0, .ref 192, .ref 193, .int 2, .ref 194, .ref 195, .ref 196, .ref 197, .ref 198, .ref 199, .ref 200, .ref 201, .ref 202, .ref 203, .ref 204, .ref 205, .int (-1), .int 0, .ref 206, .ref 207, .ref 208, .ref 209, .ref 210, .ref 211, .ref 212, .ref 213, .ref 214, .ref 215, .int 0, .int 0, .int 0, .int 0, .ref 216, .ref 217, .ref 218, .ref 219, .ref 220, .int (-1), .int 0, .int 0, .int 0, .int 0, .int 0, .int 0, .ref 221, .ref 222, .ref 223, .ref 224, .int 0, .ref 225, .int 0, .ref 226, .ref 227, .int 0, .ref 228, .ref 229, .ref 230, .ref 231, .ref 232]) rfl e191_26 rfl rfl rfl rfl (fun h27 o27 f27 => ?_)
  have s27 := s26.put f27
  refine s_iinc (y := 2) (lv' := [(2, .int 2), (0, .ref 191), (1, .int 5)]) rfl rfl (by decide) (by decide) rfl ?_
  refine q_goto rfl ?_
  refine q_iload_n rfl rfl ?_
  refine q_iload_n rfl rfl ?_
  refine q_icmp_ge rfl (fun c => absurd c (by decide)) (fun _ => ?_)
  refine q_aload_n rfl rfl ?_
  refine s_get (v := .ref 193) rfl o27 rfl rfl ?_
  refine q_aload_n rfl rfl ?_
  refine s_get (v := .int 2) rfl o27 rfl rfl ?_
  refine q_aload_n rfl rfl ?_
  refine s_get (v := .ref 192) rfl o27 rfl rfl ?_
  refine q_iload_n rfl rfl ?_
  have e192_27 := (f27.ne rfl (f26.ne rfl e192_25))
  refine s_iaload (j := 2) (v := .int 0) rfl e192_27 (by decide) rfl (by first | rfl | decide) ?_
  have e193_27 := (f27.ne rfl o26)
  refine s_iastore (j := 2) rfl e193_27 (by decide) rfl (fun h28 o28 f28 => ?_)
  have s28 := s27.put f28
  refine q_aload_n rfl rfl ?_
  refine q_dup rfl rfl ?_
  have e191_28 := (o27.ne f28 rfl)
  refine s_get (v := .int 2) rfl e191_28 rfl rfl ?_
  refine q_iconst rfl ?_
  refine s_iadd (k := 3) rfl (by decide) ?_
  refine s_put (vs' := [.int 0, .ref 192, .ref 193, .int 3, .ref 194, .ref 195, .ref 196, .ref 197, .ref 198, .ref 199, .ref 200, .ref 201, .ref 202, .ref 203, .ref 204, .ref 205, .int (-1), .int 0, .ref 206, .ref 207, .ref 208, .ref 209, .ref 210, .ref 211, .ref 212, .ref 213, .ref 214, .ref 215, .int 0, .int 0, .int 0, .int 0, .ref 216, .ref 217, .ref 218, .ref 219, .ref 220, .int (-1), .int 0, .int 0, .int 0, .int 0, .int 0, .int 0, .ref 221, .ref 222, .ref 223, .ref 224, .int 0, .ref 225, .int 0, .ref 226, .ref 227, .int 0, .ref 228, .ref 229, .ref 230, .ref 231, .ref 232]) rfl e191_28 rfl rfl rfl rfl (fun h29 o29 f29 => ?_)
  have s29 := s28.put f29
  refine s_iinc (y := 3) (lv' := [(2, .int 3), (0, .ref 191), (1, .int 5)]) rfl rfl (by decide) (by decide) rfl ?_
  refine q_goto rfl ?_
  refine q_iload_n rfl rfl ?_
  refine q_iload_n rfl rfl ?_
  refine q_icmp_ge rfl (fun c => absurd c (by decide)) (fun _ => ?_)
  refine q_aload_n rfl rfl ?_
  refine s_get (v := .ref 193) rfl o29 rfl rfl ?_
  refine q_aload_n rfl rfl ?_
  refine s_get (v := .int 3) rfl o29 rfl rfl ?_
  refine q_aload_n rfl rfl ?_
  refine s_get (v := .ref 192) rfl o29 rfl rfl ?_
  refine q_iload_n rfl rfl ?_
  have e192_29 := (f29.ne rfl (f28.ne rfl e192_27))
  refine s_iaload (j := 3) (v := .int 0) rfl e192_29 (by decide) rfl (by first | rfl | decide) ?_
  have e193_29 := (f29.ne rfl o28)
  refine s_iastore (j := 3) rfl e193_29 (by decide) rfl (fun h30 o30 f30 => ?_)
  have s30 := s29.put f30
  refine q_aload_n rfl rfl ?_
  refine q_dup rfl rfl ?_
  have e191_30 := (o29.ne f30 rfl)
  refine s_get (v := .int 3) rfl e191_30 rfl rfl ?_
  refine q_iconst rfl ?_
  refine s_iadd (k := 4) rfl (by decide) ?_
  refine s_put (vs' := [.int 0, .ref 192, .ref 193, .int 4, .ref 194, .ref 195, .ref 196, .ref 197, .ref 198, .ref 199, .ref 200, .ref 201, .ref 202, .ref 203, .ref 204, .ref 205, .int (-1), .int 0, .ref 206, .ref 207, .ref 208, .ref 209, .ref 210, .ref 211, .ref 212, .ref 213, .ref 214, .ref 215, .int 0, .int 0, .int 0, .int 0, .ref 216, .ref 217, .ref 218, .ref 219, .ref 220, .int (-1), .int 0, .int 0, .int 0, .int 0, .int 0, .int 0, .ref 221, .ref 222, .ref 223, .ref 224, .int 0, .ref 225, .int 0, .ref 226, .ref 227, .int 0, .ref 228, .ref 229, .ref 230, .ref 231, .ref 232]) rfl e191_30 rfl rfl rfl rfl (fun h31 o31 f31 => ?_)
  have s31 := s30.put f31
  refine s_iinc (y := 4) (lv' := [(2, .int 4), (0, .ref 191), (1, .int 5)]) rfl rfl (by decide) (by decide) rfl ?_
  refine q_goto rfl ?_
  refine q_iload_n rfl rfl ?_
  refine q_iload_n rfl rfl ?_
  refine q_icmp_ge rfl (fun c => absurd c (by decide)) (fun _ => ?_)
  refine q_aload_n rfl rfl ?_
  refine s_get (v := .ref 193) rfl o31 rfl rfl ?_
  refine q_aload_n rfl rfl ?_
  refine s_get (v := .int 4) rfl o31 rfl rfl ?_
  refine q_aload_n rfl rfl ?_
  refine s_get (v := .ref 192) rfl o31 rfl rfl ?_
  refine q_iload_n rfl rfl ?_
  have e192_31 := (f31.ne rfl (f30.ne rfl e192_29))
  refine s_iaload (j := 4) (v := .int 0) rfl e192_31 (by decide) rfl (by first | rfl | decide) ?_
  have e193_31 := (f31.ne rfl o30)
  refine s_iastore (j := 4) rfl e193_31 (by decide) rfl (fun h32 o32 f32 => ?_)
  have s32 := s31.put f32
  refine q_aload_n rfl rfl ?_
  refine q_dup rfl rfl ?_
  have e191_32 := (o31.ne f32 rfl)
  refine s_get (v := .int 4) rfl e191_32 rfl rfl ?_
  refine q_iconst rfl ?_
  refine s_iadd (k := 5) rfl (by decide) ?_
  refine s_put (vs' := [.int 0, .ref 192, .ref 193, .int 5, .ref 194, .ref 195, .ref 196, .ref 197, .ref 198, .ref 199, .ref 200, .ref 201, .ref 202, .ref 203, .ref 204, .ref 205, .int (-1), .int 0, .ref 206, .ref 207, .ref 208, .ref 209, .ref 210, .ref 211, .ref 212, .ref 213, .ref 214, .ref 215, .int 0, .int 0, .int 0, .int 0, .ref 216, .ref 217, .ref 218, .ref 219, .ref 220, .int (-1), .int 0, .int 0, .int 0, .int 0, .int 0, .int 0, .ref 221, .ref 222, .ref 223, .ref 224, .int 0, .ref 225, .int 0, .ref 226, .ref 227, .int 0, .ref 228, .ref 229, .ref 230, .ref 231, .ref 232]) rfl e191_32 rfl rfl rfl rfl (fun h33 o33 f33 => ?_)
  have s33 := s32.put f33
  refine s_iinc (y := 5) (lv' := [(2, .int 5), (0, .ref 191), (1, .int 5)]) rfl rfl (by decide) (by decide) rfl ?_
  refine q_goto rfl ?_
  refine q_iload_n rfl rfl ?_
  refine q_iload_n rfl rfl ?_
  refine q_icmp_ge rfl (fun _ => ?_) (fun c => absurd (by decide) c)
  refine q_iconst rfl ?_
  refine s_istore_n (lv' := [(2, .int 0), (0, .ref 191), (1, .int 5)]) rfl (by decide) rfl ?_
  refine q_iload_n rfl rfl ?_
  refine q_bipush rfl ?_
  refine q_icmp_ge rfl (fun c => absurd c (by decide)) (fun _ => ?_)
  refine q_aload_n rfl rfl ?_
  refine s_get (v := .ref 192) rfl o33 rfl rfl ?_
  refine q_iload_n rfl rfl ?_
  refine q_iconst rfl ?_
  have e192_33 := (f33.ne rfl (f32.ne rfl e192_31))
  refine s_iastore (j := 0) rfl e192_33 (by decide) rfl (fun h34 o34 f34 => ?_)
  have s34 := s33.put f34
  refine s_iinc (y := 1) (lv' := [(2, .int 1), (0, .ref 191), (1, .int 5)]) rfl rfl (by decide) (by decide) rfl ?_
  refine q_goto rfl ?_
  refine q_iload_n rfl rfl ?_
  refine q_bipush rfl ?_
  refine q_icmp_ge rfl (fun c => absurd c (by decide)) (fun _ => ?_)
  refine q_aload_n rfl rfl ?_
  have e191_34 := (o33.ne f34 rfl)
  refine s_get (v := .ref 192) rfl e191_34 rfl rfl ?_
  refine q_iload_n rfl rfl ?_
  refine q_iconst rfl ?_
  refine s_iastore (j := 1) rfl o34 (by decide) rfl (fun h35 o35 f35 => ?_)
  have s35 := s34.put f35
  refine s_iinc (y := 2) (lv' := [(2, .int 2), (0, .ref 191), (1, .int 5)]) rfl rfl (by decide) (by decide) rfl ?_
  refine q_goto rfl ?_
  refine q_iload_n rfl rfl ?_
  refine q_bipush rfl ?_
  refine q_icmp_ge rfl (fun c => absurd c (by decide)) (fun _ => ?_)
  refine q_aload_n rfl rfl ?_
  have e191_35 := (e191_34.ne f35 rfl)
  refine s_get (v := .ref 192) rfl e191_35 rfl rfl ?_
  refine q_iload_n rfl rfl ?_
  refine q_iconst rfl ?_
  refine s_iastore (j := 2) rfl o35 (by decide) rfl (fun h36 o36 f36 => ?_)
  have s36 := s35.put f36
  refine s_iinc (y := 3) (lv' := [(2, .int 3), (0, .ref 191), (1, .int 5)]) rfl rfl (by decide) (by decide) rfl ?_
  refine q_goto rfl ?_
  refine q_iload_n rfl rfl ?_
  refine q_bipush rfl ?_
  refine q_icmp_ge rfl (fun c => absurd c (by decide)) (fun _ => ?_)
  refine q_aload_n rfl rfl ?_
  have e191_36 := (e191_35.ne f36 rfl)
  refine s_get (v := .ref 192) rfl e191_36 rfl rfl ?_
  refine q_iload_n rfl rfl ?_
  refine q_iconst rfl ?_
  refine s_iastore (j := 3) rfl o36 (by decide) rfl (fun h37 o37 f37 => ?_)
  have s37 := s36.put f37
  refine s_iinc (y := 4) (lv' := [(2, .int 4), (0, .ref 191), (1, .int 5)]) rfl rfl (by decide) (by decide) rfl ?_
  refine q_goto rfl ?_
  refine q_iload_n rfl rfl ?_
  refine q_bipush rfl ?_
  refine q_icmp_ge rfl (fun c => absurd c (by decide)) (fun _ => ?_)
  refine q_aload_n rfl rfl ?_
  have e191_37 := (e191_36.ne f37 rfl)
  refine s_get (v := .ref 192) rfl e191_37 rfl rfl ?_
  refine q_iload_n rfl rfl ?_
  refine q_iconst rfl ?_
  refine s_iastore (j := 4) rfl o37 (by decide) rfl (fun h38 o38 f38 => ?_)
  have s38 := s37.put f38
  refine s_iinc (y := 5) (lv' := [(2, .int 5), (0, .ref 191), (1, .int 5)]) rfl rfl (by decide) (by decide) rfl ?_
  refine q_goto rfl ?_
  refine q_iload_n rfl rfl ?_
  refine q_bipush rfl ?_
  refine q_icmp_ge rfl (fun c => absurd c (by decide)) (fun _ => ?_)
  refine q_aload_n rfl rfl ?_
  have e191_38 := (e191_37.ne f38 rfl)
  refine s_get (v := .ref 192) rfl e191_38 rfl rfl ?_
  refine q_iload_n rfl rfl ?_
  refine q_iconst rfl ?_
  refine s_iastore (j := 5) rfl o38 (by decide) rfl (fun h39 o39 f39 => ?_)
  have s39 := s38.put f39
  refine s_iinc (y := 6) (lv' := [(2, .int 6), (0, .ref 191), (1, .int 5)]) rfl rfl (by decide) (by decide) rfl ?_
  refine q_goto rfl ?_
  refine q_iload_n rfl rfl ?_
  refine q_bipush rfl ?_
  refine q_icmp_ge rfl (fun c => absurd c (by decide)) (fun _ => ?_)
  refine q_aload_n rfl rfl ?_
  have e191_39 := (e191_38.ne f39 rfl)
  refine s_get (v := .ref 192) rfl e191_39 rfl rfl ?_
  refine q_iload_n rfl rfl ?_
  refine q_iconst rfl ?_
  refine s_iastore (j := 6) rfl o39 (by decide) rfl (fun h40 o40 f40 => ?_)
  have s40 := s39.put f40
  refine s_iinc (y := 7) (lv' := [(2, .int 7), (0, .ref 191), (1, .int 5)]) rfl rfl (by decide) (by decide) rfl ?_
  refine q_goto rfl ?_
  refine q_iload_n rfl rfl ?_
  refine q_bipush rfl ?_
  refine q_icmp_ge rfl (fun c => absurd c (by decide)) (fun _ => ?_)
  refine q_aload_n rfl rfl ?_
  have e191_40 := (e191_39.ne f40 rfl)
  refine s_get (v := .ref 192) rfl e191_40 rfl rfl ?_
  refine q_iload_n rfl rfl ?_
  refine q_iconst rfl ?_
  refine s_iastore (j := 7) rfl o40 (by decide) rfl (fun h41 o41 f41 => ?_)
  have s41 := s40.put f41
  refine s_iinc (y := 8) (lv' := [(2, .int 8), (0, .ref 191), (1, .int 5)]) rfl rfl (by decide) (by decide) rfl ?_
  refine q_goto rfl ?_
  refine q_iload_n rfl rfl ?_
  refine q_bipush rfl ?_
  refine q_icmp_ge rfl (fun c => absurd c (by decide)) (fun _ => ?_)
  refine q_aload_n rfl rfl ?_
  have e191_41 := (e191_40.ne f41 rfl)
  refine s_get (v := .ref 192) rfl e191_41 rfl rfl ?_
  refine q_iload_n rfl rfl ?_
  refine q_iconst rfl ?_
  refine s_iastore (j := 8) rfl o41 (by decide) rfl (fun h42 o42 f42 => ?_)
  have s42 := s41.put f42
  refine s_iinc (y := 9) (lv' := [(2, .int 9), (0, .ref 191), (1, .int 5)]) rfl rfl (by decide) (by decide) rfl ?_
  refine q_goto rfl ?_
  refine q_iload_n rfl rfl ?_
  refine q_bipush rfl ?_
  refine q_icmp_ge rfl (fun c => absurd c (by decide)) (fun _ => ?_)
  refine q_aload_n rfl rfl ?_
  have e191_42 := (e191_41.ne f42 rfl)
  refine s_get (v := .ref 192) rfl e191_42 rfl rfl ?_
  refine q_iload_n rfl rfl ?_
  refine q_iconst rfl ?_
  refine s_iastore (j := 9) rfl o42 (by decide) rfl (fun h43 o43 f43 => ?_)
  have s43 := s42.put f43
  refine s_iinc (y := 10) (lv' := [(2, .int 10), (0, .ref 191), (1, .int 5)]) rfl rfl (by decide) (by decide) rfl ?_
  refine q_goto rfl ?_
  refine q_iload_n rfl rfl ?_
  refine q_bipush rfl ?_
  refine q_icmp_ge rfl (fun c => absurd c (by decide)) (fun _ => ?_)
  refine q_aload_n rfl rfl ?_
  have e191_43 := (e191_42.ne f43 rfl)
  refine s_get (v := .ref 192) rfl e191_43 rfl rfl ?_
  refine q_iload_n rfl rfl ?_
  refine q_iconst rfl ?_
  refine s_iastore (j := 10) rfl o43 (by decide) rfl (fun h44 o44 f44 => ?_)
  have s44 := s43.put f44
  refine s_iinc (y := 11) (lv' := [(2, .int 11), (0, .ref 191), (1, .int 5)]) rfl rfl (by decide) (by decide) rfl ?_
  refine q_goto rfl ?_
  refine q_iload_n rfl rfl ?_
  refine q_bipush rfl ?_
  refine q_icmp_ge rfl (fun c => absurd c (by decide)) (fun _ => ?_)
  refine q_aload_n rfl rfl ?_
  have e191_44 := (e191_43.ne f44 rfl)
  refine s_get (v := .ref 192) rfl e191_44 rfl rfl ?_
  refine q_iload_n rfl rfl ?_
  refine q_iconst rfl ?_
  refine s_iastore (j := 11) rfl o44 (by decide) rfl (fun h45 o45 f45 => ?_)
  have s45 := s44.put f45
  refine s_iinc (y := 12) (lv' := [(2, .int 12), (0, .ref 191), (1, .int 5)]) rfl rfl (by decide) (by decide) rfl ?_
  refine q_goto rfl ?_
  refine q_iload_n rfl rfl ?_
  refine q_bipush rfl ?_
  refine q_icmp_ge rfl (fun c => absurd c (by decide)) (fun _ => ?_)
  refine q_aload_n rfl rfl ?_
  have e191_45 := (e191_44.ne f45 rfl)
  refine s_get (v := .ref 192) rfl e191_45 rfl rfl ?_
  refine q_iload_n rfl rfl ?_
  refine q_iconst rfl ?_
  refine s_iastore (j := 12) rfl o45 (by decide) rfl (fun h46 o46 f46 => ?_)
  have s46 := s45.put f46
  refine s_iinc (y := 13) (lv' := [(2, .int 13), (0, .ref 191), (1, .int 5)]) rfl rfl (by decide) (by decide) rfl ?_
  refine q_goto rfl ?_
  refine q_iload_n rfl rfl ?_
  refine q_bipush rfl ?_
  refine q_icmp_ge rfl (fun c => absurd c (by decide)) (fun _ => ?_)
  refine q_aload_n rfl rfl ?_
  have e191_46 := (e191_45.ne f46 rfl)
  refine s_get (v := .ref 192) rfl e191_46 rfl rfl ?_
  refine q_iload_n rfl rfl ?_
  refine q_iconst rfl ?_
  refine s_iastore (j := 13) rfl o46 (by decide) rfl (fun h47 o47 f47 => ?_)
  have s47 := s46.put f47
  refine s_iinc (y := 14) (lv' := [(2, .int 14), (0, .ref 191), (1, .int 5)]) rfl rfl (by decide) (by decide) rfl ?_
  refine q_goto rfl ?_
  refine q_iload_n rfl rfl ?_
  refine q_bipush rfl ?_
  refine q_icmp_ge rfl (fun c => absurd c (by decide)) (fun _ => ?_)
  refine q_aload_n rfl rfl ?_
  have e191_47 := (e191_46.ne f47 rfl)
  refine s_get (v := .ref 192) rfl e191_47 rfl rfl ?_
  refine q_iload_n rfl rfl ?_
  refine q_iconst rfl ?_
  refine s_iastore (j := 14) rfl o47 (by decide) rfl (fun h48 o48 f48 => ?_)
  have s48 := s47.put f48
  refine s_iinc (y := 15) (lv' := [(2, .int 15), (0, .ref 191), (1, .int 5)]) rfl rfl (by decide) (by decide) rfl ?_
  refine q_goto rfl ?_
  refine q_iload_n rfl rfl ?_
  refine q_bipush rfl ?_
  refine q_icmp_ge rfl (fun c => absurd c (by decide)) (fun _ => ?_)
  refine q_aload_n rfl rfl ?_
  have e191_48 := (e191_47.ne f48 rfl)
  refine s_get (v := .ref 192) rfl e191_48 rfl rfl ?_
  refine q_iload_n rfl rfl ?_
  refine q_iconst rfl ?_
  refine s_iastore (j := 15) rfl o48 (by decide) rfl (fun h49 o49 f49 => ?_)
  have s49 := s48.put f49
  refine s_iinc (y := 16) (lv' := [(2, .int 16), (0, .ref 191), (1, .int 5)]) rfl rfl (by decide) (by decide) rfl ?_
  refine q_goto rfl ?_
  refine q_iload_n rfl rfl ?_
  refine q_bipush rfl ?_
  refine q_icmp_ge rfl (fun c => absurd c (by decide)) (fun _ => ?_)
  refine q_aload_n rfl rfl ?_
  have e191_49 := (e191_48.ne f49 rfl)
  refine s_get (v := .ref 192) rfl e191_49 rfl rfl ?_
  refine q_iload_n rfl rfl ?_
  refine q_iconst rfl ?_
  refine s_iastore (j := 16) rfl o49 (by decide) rfl (fun h50 o50 f50 => ?_)
  have s50 := s49.put f50
  refine s_iinc (y := 17) (lv' := [(2, .int 17), (0, .ref 191), (1, .int 5)]) rfl rfl (by decide) (by decide) rfl ?_
  refine q_goto rfl ?_
  refine q_iload_n rfl rfl ?_
  refine q_bipush rfl ?_
  refine q_icmp_ge rfl (fun c => absurd c (by decide)) (fun _ => ?_)
  refine q_aload_n rfl rfl ?_
  have e191_50 := (e191_49.ne f50 rfl)
  refine s_get (v := .ref 192) rfl e191_50 rfl rfl ?_
  refine q_iload_n rfl rfl ?_
  refine q_iconst rfl ?_
  refine s_iastore (j := 17) rfl o50 (by decide) rfl (fun h51 o51 f51 => ?_)
  have s51 := s50.put f51
  refine s_iinc (y := 18) (lv' := [(2, .int 18), (0, .ref 191), (1, .int 5)]) rfl rfl (by decide) (by decide) rfl ?_
  refine q_goto rfl ?_
  refine q_iload_n rfl rfl ?_
  refine q_bipush rfl ?_
  refine q_icmp_ge rfl (fun c => absurd c (by decide)) (fun _ => ?_)
  refine q_aload_n rfl rfl ?_
  have e191_51 := (e191_50.ne f51 rfl)
  refine s_get (v := .ref 192) rfl e191_51 rfl rfl ?_
  refine q_iload_n rfl rfl ?_
  refine q_iconst rfl ?_
  refine s_iastore (j := 18) rfl o51 (by decide) rfl (fun h52 o52 f52 => ?_)
  have s52 := s51.put f52
  refine s_iinc (y := 19) (lv' := [(2, .int 19), (0, .ref 191), (1, .int 5)]) rfl rfl (by decide) (by decide) rfl ?_
  refine q_goto rfl ?_
  refine q_iload_n rfl rfl ?_
  refine q_bipush rfl ?_
  refine q_icmp_ge rfl (fun c => absurd c (by decide)) (fun _ => ?_)
  refine q_aload_n rfl rfl ?_
  have e191_52 := (e191_51.ne f52 rfl)
  refine s_get (v := .ref 192) rfl e191_52 rfl rfl ?_
  refine q_iload_n rfl rfl ?_
  refine q_iconst rfl ?_
  refine s_iastore (j := 19) rfl o52 (by decide) rfl (fun h53 o53 f53 => ?_)
  have s53 := s52.put f53
  refine s_iinc (y := 20) (lv' := [(2, .int 20), (0, .ref 191), (1, .int 5)]) rfl rfl (by decide) (by decide) rfl ?_
  refine q_goto rfl ?_
  refine q_iload_n rfl rfl ?_
  refine q_bipush rfl ?_
  refine q_icmp_ge rfl (fun _ => ?_) (fun c => absurd (by decide) c)
  refine q_aload_n rfl rfl ?_
  have e191_53 := (e191_52.ne f53 rfl)
  refine s_get (v := .int 5) rfl e191_53 rfl rfl ?_
  refine q_ireturn rfl rfl ?_
  show aW aiP 0 17 658 243 [(4, .int 0), (3, .ref 233), (2, .ref 191), (1, .ref 6), (0, .ref 0)] [.int 5, .int 5] h53 _
  refine q_icmp_eq rfl (fun _ => ?_) (fun c => absurd (by decide) c)
  refine s_iinc (y := 6) (lv' := [(4, .int 6), (3, .ref 233), (2, .ref 191), (1, .ref 6), (0, .ref 0)]) rfl rfl (by decide) (by decide) rfl ?_
  refine q_goto rfl ?_
  refine q_iload rfl rfl ?_
  refine q_aload_n rfl rfl ?_
  have e0_53 := (f53.ne rfl (f52.ne rfl (f51.ne rfl (f50.ne rfl (f49.ne rfl (f48.ne rfl (f47.ne rfl (f46.ne rfl (f45.ne rfl (f44.ne rfl (f43.ne rfl (f42.ne rfl (f41.ne rfl (f40.ne rfl (f39.ne rfl (f38.ne rfl (f37.ne rfl (f36.ne rfl (f35.ne rfl (f34.ne rfl (f33.ne rfl (f32.ne rfl (f31.ne rfl (f30.ne rfl (f29.ne rfl (f28.ne rfl (f27.ne rfl (f26.ne rfl (f25.ne rfl (f24.ne rfl (f23.ne rfl e0_22)))))))))))))))))))))))))))))))
  refine s_alen (x := 6) rfl e0_53 rfl (by decide) ?_
  refine q_bipush rfl ?_
  refine s_isub (k := 0) rfl (by decide) ?_
  refine q_icmp_gt rfl (fun _ => ?_) (fun c => absurd (by decide) c)
  refine q_iconst rfl ?_
  refine q_ireturn rfl rfl ?_
  exact ⟨rfl, s53.bd rfl⟩
set_option maxRecDepth 20000 in
set_option maxHeartbeats 4000000 in
theorem p_case1_6 {xs : Nat → Int32} {h : ai_H} (F : Fresh 6 xs h) (hk : xs 0 &&& 31 = 1) (hw : xs 1 = 6) : aW aiP 0 17 658 33 [(4, .int 0), (3, .ref 233), (2, .ref 191), (1, .ref 6), (0, .ref 0)] [] h p_Q := by
  obtain ⟨e0, e1, ⟨g2, e2⟩, ⟨g3, e3⟩, ⟨g4, e4⟩, e5, e6, e7, e8, e9, e51, e93, e135, e177, e178, e179, e180, e181, e182, e183, e184, e185, e186, e187, e188, e189, e190, e191, e192, e193, e194, e195, e196, e197, e198, e199, e200, e201, e202, e203, e204, e205, e206, e207, e208, e209, e210, e211, e212, e213, e214, e215, e216, e217, e218, e219, e220, e221, e222, e223, e224, e225, e226, e227, ⟨g228, e228⟩, ⟨g229, e229⟩, e230, e231, e232, e233, s0⟩ := F
  refine q_aload_n rfl rfl ?_
  refine q_iload rfl rfl ?_
  refine s_iaload (j := 0) (v := .int (xs 0)) rfl e0 (by decide) rfl (by first | rfl | decide) ?_
  refine q_bipush rfl ?_
  refine s_iand (k := ((xs 0) &&& (31 : Int32))) rfl rfl ?_
  rw [hk]
  show aW aiP 0 17 658 40 [(4, .int 0), (3, .ref 233), (2, .ref 191), (1, .ref 6), (0, .ref 0)] [.int 1] h _
  refine s_sw (tg := 223) rfl rfl ?_
  refine q_aload_n rfl rfl ?_
  refine q_aload_n rfl rfl ?_
  refine q_iload rfl rfl ?_
  refine q_iconst rfl ?_
  refine s_iadd (k := 1) rfl (by decide) ?_
  refine s_iaload (j := 1) (v := .int (xs 1)) rfl e0 (by decide) rfl (by first | rfl | decide) ?_
  rw [hw]
  refine s_callV (as := [.int 6]) (rest := []) (d' := 16) (w' := 637) (lv' := [(0, .ref 6), (1, .int 6)]) rfl e6 rfl rfl rfl rfl rfl rfl ?_
  refine q_iload_n rfl rfl ?_
  refine q_if_lt rfl (fun c => absurd c (by decide)) (fun _ => ?_)
  refine q_iload_n rfl rfl ?_
  refine q_bipush rfl ?_
  refine q_icmp_gt rfl (fun c => absurd c (by decide)) (fun _ => ?_)
  refine q_aload_n rfl rfl ?_
  refine s_get (v := .int 0) rfl e6 rfl rfl ?_
  refine q_iload_n rfl rfl ?_
  refine s_iadd (k := 6) rfl (by decide) ?_
  refine q_sipush rfl ?_
  refine q_icmp_le rfl (fun _ => ?_) (fun c => absurd (by decide) c)
  refine q_aload_n rfl rfl ?_
  refine s_get (v := .ref 7) rfl e6 rfl rfl ?_
  refine q_iconst rfl ?_
  refine q_aload_n rfl rfl ?_
  refine s_get (v := .ref 8) rfl e6 rfl rfl ?_
  refine q_aload_n rfl rfl ?_
  refine s_get (v := .int 0) rfl e6 rfl rfl ?_
  refine q_iload_n rfl rfl ?_
  refine s_copy (sp := 0) (dp := 0) (k := 6) rfl e7 e8 (by decide) (by decide) (by decide) rfl (by decide) (by decide) (by decide) (fun i _ => rfl) (fun h1 o1 f1 => ?_)
  have s1 := s0.put f1
  refine q_aload_n rfl rfl ?_
  refine q_dup rfl rfl ?_
  have e6_1 := (e6.ne f1 rfl)
  refine s_get (v := .int 0) rfl e6_1 rfl rfl ?_
  refine q_iload_n rfl rfl ?_
  refine s_iadd (k := 6) rfl (by decide) ?_
  refine s_put (vs' := [.ref 7, .ref 8, .int 6, .ref 9, .int (-1), .ref 51, .ref 93, .ref 135, .ref 177, .ref 180, .int 0, .ref 183, .ref 186, .ref 189]) rfl e6_1 rfl rfl rfl rfl (fun h2 o2 f2 => ?_)
  have s2 := s1.put f2
  refine q_aload_n rfl rfl ?_
  refine s_get (v := .ref 7) rfl o2 rfl rfl ?_
  refine q_iconst rfl ?_
  refine s_callS (as := [.ref 7, .int 0]) (rest := []) (d' := 15) (w' := 614) (lv' := [(0, .ref 7), (1, .int 0)]) rfl rfl rfl rfl rfl rfl rfl rfl ?_
  refine q_iconst rfl ?_
  refine s_istore_n (lv' := [(2, .int 0), (0, .ref 7), (1, .int 0)]) rfl (by decide) rfl ?_
  refine q_aload_n rfl rfl ?_
  have e7_2 := (f2.ne rfl (f1.ne rfl e7))
  refine s_alen (x := 20) rfl e7_2 rfl (by decide) ?_
  refine s_istore_n (lv' := [(3, .int 20), (2, .int 0), (0, .ref 7), (1, .int 0)]) rfl (by decide) rfl ?_
  refine q_iload_n rfl rfl ?_
  refine q_iload_n rfl rfl ?_
  refine q_icmp_ge rfl (fun c => absurd c (by decide)) (fun _ => ?_)
  refine q_aload_n rfl rfl ?_
  refine q_iload_n rfl rfl ?_
  refine q_iload_n rfl rfl ?_
  refine s_bastore (j := 0) rfl e7_2 (by decide) rfl (fun h3 o3 f3 => ?_)
  have s3 := s2.put f3
  refine s_iinc (y := 1) (lv' := [(2, .int 1), (3, .int 20), (0, .ref 7), (1, .int 0)]) rfl rfl (by decide) (by decide) rfl ?_
  refine q_goto rfl ?_
  refine q_iload_n rfl rfl ?_
  refine q_iload_n rfl rfl ?_
  refine q_icmp_ge rfl (fun c => absurd c (by decide)) (fun _ => ?_)
  refine q_aload_n rfl rfl ?_
  refine q_iload_n rfl rfl ?_
  refine q_iload_n rfl rfl ?_
  refine s_bastore (j := 1) rfl o3 (by decide) rfl (fun h4 o4 f4 => ?_)
  have s4 := s3.put f4
  refine s_iinc (y := 2) (lv' := [(2, .int 2), (3, .int 20), (0, .ref 7), (1, .int 0)]) rfl rfl (by decide) (by decide) rfl ?_
  refine q_goto rfl ?_
  refine q_iload_n rfl rfl ?_
  refine q_iload_n rfl rfl ?_
  refine q_icmp_ge rfl (fun c => absurd c (by decide)) (fun _ => ?_)
  refine q_aload_n rfl rfl ?_
  refine q_iload_n rfl rfl ?_
  refine q_iload_n rfl rfl ?_
  refine s_bastore (j := 2) rfl o4 (by decide) rfl (fun h5 o5 f5 => ?_)
  have s5 := s4.put f5
  refine s_iinc (y := 3) (lv' := [(2, .int 3), (3, .int 20), (0, .ref 7), (1, .int 0)]) rfl rfl (by decide) (by decide) rfl ?_
  refine q_goto rfl ?_
  refine q_iload_n rfl rfl ?_
  refine q_iload_n rfl rfl ?_
  refine q_icmp_ge rfl (fun c => absurd c (by decide)) (fun _ => ?_)
  refine q_aload_n rfl rfl ?_
  refine q_iload_n rfl rfl ?_
  refine q_iload_n rfl rfl ?_
  refine s_bastore (j := 3) rfl o5 (by decide) rfl (fun h6 o6 f6 => ?_)
  have s6 := s5.put f6
  refine s_iinc (y := 4) (lv' := [(2, .int 4), (3, .int 20), (0, .ref 7), (1, .int 0)]) rfl rfl (by decide) (by decide) rfl ?_
  refine q_goto rfl ?_
  refine q_iload_n rfl rfl ?_
  refine q_iload_n rfl rfl ?_
  refine q_icmp_ge rfl (fun c => absurd c (by decide)) (fun _ => ?_)
  refine q_aload_n rfl rfl ?_
  refine q_iload_n rfl rfl ?_
  refine q_iload_n rfl rfl ?_
  refine s_bastore (j := 4) rfl o6 (by decide) rfl (fun h7 o7 f7 => ?_)
  have s7 := s6.put f7
  refine s_iinc (y := 5) (lv' := [(2, .int 5), (3, .int 20), (0, .ref 7), (1, .int 0)]) rfl rfl (by decide) (by decide) rfl ?_
  refine q_goto rfl ?_
  refine q_iload_n rfl rfl ?_
  refine q_iload_n rfl rfl ?_
  refine q_icmp_ge rfl (fun c => absurd c (by decide)) (fun _ => ?_)
  refine q_aload_n rfl rfl ?_
  refine q_iload_n rfl rfl ?_
  refine q_iload_n rfl rfl ?_
  refine s_bastore (j := 5) rfl o7 (by decide) rfl (fun h8 o8 f8 => ?_)
  have s8 := s7.put f8
  refine s_iinc (y := 6) (lv' := [(2, .int 6), (3, .int 20), (0, .ref 7), (1, .int 0)]) rfl rfl (by decide) (by decide) rfl ?_
  refine q_goto rfl ?_
  refine q_iload_n rfl rfl ?_
  refine q_iload_n rfl rfl ?_
  refine q_icmp_ge rfl (fun c => absurd c (by decide)) (fun _ => ?_)
  refine q_aload_n rfl rfl ?_
  refine q_iload_n rfl rfl ?_
  refine q_iload_n rfl rfl ?_
  refine s_bastore (j := 6) rfl o8 (by decide) rfl (fun h9 o9 f9 => ?_)
  have s9 := s8.put f9
  refine s_iinc (y := 7) (lv' := [(2, .int 7), (3, .int 20), (0, .ref 7), (1, .int 0)]) rfl rfl (by decide) (by decide) rfl ?_
  refine q_goto rfl ?_
  refine q_iload_n rfl rfl ?_
  refine q_iload_n rfl rfl ?_
  refine q_icmp_ge rfl (fun c => absurd c (by decide)) (fun _ => ?_)
  refine q_aload_n rfl rfl ?_
  refine q_iload_n rfl rfl ?_
  refine q_iload_n rfl rfl ?_
  refine s_bastore (j := 7) rfl o9 (by decide) rfl (fun h10 o10 f10 => ?_)
  have s10 := s9.put f10
  refine s_iinc (y := 8) (lv' := [(2, .int 8), (3, .int 20), (0, .ref 7), (1, .int 0)]) rfl rfl (by decide) (by decide) rfl ?_
  refine q_goto rfl ?_
  refine q_iload_n rfl rfl ?_
  refine q_iload_n rfl rfl ?_
  refine q_icmp_ge rfl (fun c => absurd c (by decide)) (fun _ => ?_)
  refine q_aload_n rfl rfl ?_
  refine q_iload_n rfl rfl ?_
  refine q_iload_n rfl rfl ?_
  refine s_bastore (j := 8) rfl o10 (by decide) rfl (fun h11 o11 f11 => ?_)
  have s11 := s10.put f11
  refine s_iinc (y := 9) (lv' := [(2, .int 9), (3, .int 20), (0, .ref 7), (1, .int 0)]) rfl rfl (by decide) (by decide) rfl ?_
  refine q_goto rfl ?_
  refine q_iload_n rfl rfl ?_
  refine q_iload_n rfl rfl ?_
  refine q_icmp_ge rfl (fun c => absurd c (by decide)) (fun _ => ?_)
  refine q_aload_n rfl rfl ?_
  refine q_iload_n rfl rfl ?_
  refine q_iload_n rfl rfl ?_
  refine s_bastore (j := 9) rfl o11 (by decide) rfl (fun h12 o12 f12 => ?_)
  have s12 := s11.put f12
  refine s_iinc (y := 10) (lv' := [(2, .int 10), (3, .int 20), (0, .ref 7), (1, .int 0)]) rfl rfl (by decide) (by decide) rfl ?_
  refine q_goto rfl ?_
  refine q_iload_n rfl rfl ?_
  refine q_iload_n rfl rfl ?_
  refine q_icmp_ge rfl (fun c => absurd c (by decide)) (fun _ => ?_)
  refine q_aload_n rfl rfl ?_
  refine q_iload_n rfl rfl ?_
  refine q_iload_n rfl rfl ?_
  refine s_bastore (j := 10) rfl o12 (by decide) rfl (fun h13 o13 f13 => ?_)
  have s13 := s12.put f13
  refine s_iinc (y := 11) (lv' := [(2, .int 11), (3, .int 20), (0, .ref 7), (1, .int 0)]) rfl rfl (by decide) (by decide) rfl ?_
  refine q_goto rfl ?_
  refine q_iload_n rfl rfl ?_
  refine q_iload_n rfl rfl ?_
  refine q_icmp_ge rfl (fun c => absurd c (by decide)) (fun _ => ?_)
  refine q_aload_n rfl rfl ?_
  refine q_iload_n rfl rfl ?_
  refine q_iload_n rfl rfl ?_
  refine s_bastore (j := 11) rfl o13 (by decide) rfl (fun h14 o14 f14 => ?_)
  have s14 := s13.put f14
  refine s_iinc (y := 12) (lv' := [(2, .int 12), (3, .int 20), (0, .ref 7), (1, .int 0)]) rfl rfl (by decide) (by decide) rfl ?_
  refine q_goto rfl ?_
  refine q_iload_n rfl rfl ?_
  refine q_iload_n rfl rfl ?_
  refine q_icmp_ge rfl (fun c => absurd c (by decide)) (fun _ => ?_)
  refine q_aload_n rfl rfl ?_
  refine q_iload_n rfl rfl ?_
  refine q_iload_n rfl rfl ?_
  refine s_bastore (j := 12) rfl o14 (by decide) rfl (fun h15 o15 f15 => ?_)
  have s15 := s14.put f15
  refine s_iinc (y := 13) (lv' := [(2, .int 13), (3, .int 20), (0, .ref 7), (1, .int 0)]) rfl rfl (by decide) (by decide) rfl ?_
  refine q_goto rfl ?_
  refine q_iload_n rfl rfl ?_
  refine q_iload_n rfl rfl ?_
  refine q_icmp_ge rfl (fun c => absurd c (by decide)) (fun _ => ?_)
  refine q_aload_n rfl rfl ?_
  refine q_iload_n rfl rfl ?_
  refine q_iload_n rfl rfl ?_
  refine s_bastore (j := 13) rfl o15 (by decide) rfl (fun h16 o16 f16 => ?_)
  have s16 := s15.put f16
  refine s_iinc (y := 14) (lv' := [(2, .int 14), (3, .int 20), (0, .ref 7), (1, .int 0)]) rfl rfl (by decide) (by decide) rfl ?_
  refine q_goto rfl ?_
  refine q_iload_n rfl rfl ?_
  refine q_iload_n rfl rfl ?_
  refine q_icmp_ge rfl (fun c => absurd c (by decide)) (fun _ => ?_)
  refine q_aload_n rfl rfl ?_
  refine q_iload_n rfl rfl ?_
  refine q_iload_n rfl rfl ?_
  refine s_bastore (j := 14) rfl o16 (by decide) rfl (fun h17 o17 f17 => ?_)
  have s17 := s16.put f17
  refine s_iinc (y := 15) (lv' := [(2, .int 15), (3, .int 20), (0, .ref 7), (1, .int 0)]) rfl rfl (by decide) (by decide) rfl ?_
  refine q_goto rfl ?_
  refine q_iload_n rfl rfl ?_
  refine q_iload_n rfl rfl ?_
  refine q_icmp_ge rfl (fun c => absurd c (by decide)) (fun _ => ?_)
  refine q_aload_n rfl rfl ?_
  refine q_iload_n rfl rfl ?_
  refine q_iload_n rfl rfl ?_
  refine s_bastore (j := 15) rfl o17 (by decide) rfl (fun h18 o18 f18 => ?_)
  have s18 := s17.put f18
  refine s_iinc (y := 16) (lv' := [(2, .int 16), (3, .int 20), (0, .ref 7), (1, .int 0)]) rfl rfl (by decide) (by decide) rfl ?_
  refine q_goto rfl ?_
  refine q_iload_n rfl rfl ?_
  refine q_iload_n rfl rfl ?_
  refine q_icmp_ge rfl (fun c => absurd c (by decide)) (fun _ => ?_)
  refine q_aload_n rfl rfl ?_
  refine q_iload_n rfl rfl ?_
  refine q_iload_n rfl rfl ?_
  refine s_bastore (j := 16) rfl o18 (by decide) rfl (fun h19 o19 f19 => ?_)
  have s19 := s18.put f19
  refine s_iinc (y := 17) (lv' := [(2, .int 17), (3, .int 20), (0, .ref 7), (1, .int 0)]) rfl rfl (by decide) (by decide) rfl ?_
  refine q_goto rfl ?_
  refine q_iload_n rfl rfl ?_
  refine q_iload_n rfl rfl ?_
  refine q_icmp_ge rfl (fun c => absurd c (by decide)) (fun _ => ?_)
  refine q_aload_n rfl rfl ?_
  refine q_iload_n rfl rfl ?_
  refine q_iload_n rfl rfl ?_
  refine s_bastore (j := 17) rfl o19 (by decide) rfl (fun h20 o20 f20 => ?_)
  have s20 := s19.put f20
  refine s_iinc (y := 18) (lv' := [(2, .int 18), (3, .int 20), (0, .ref 7), (1, .int 0)]) rfl rfl (by decide) (by decide) rfl ?_
  refine q_goto rfl ?_
  refine q_iload_n rfl rfl ?_
  refine q_iload_n rfl rfl ?_
  refine q_icmp_ge rfl (fun c => absurd c (by decide)) (fun _ => ?_)
  refine q_aload_n rfl rfl ?_
  refine q_iload_n rfl rfl ?_
  refine q_iload_n rfl rfl ?_
  refine s_bastore (j := 18) rfl o20 (by decide) rfl (fun h21 o21 f21 => ?_)
  have s21 := s20.put f21
  refine s_iinc (y := 19) (lv' := [(2, .int 19), (3, .int 20), (0, .ref 7), (1, .int 0)]) rfl rfl (by decide) (by decide) rfl ?_
  refine q_goto rfl ?_
  refine q_iload_n rfl rfl ?_
  refine q_iload_n rfl rfl ?_
  refine q_icmp_ge rfl (fun c => absurd c (by decide)) (fun _ => ?_)
  refine q_aload_n rfl rfl ?_
  refine q_iload_n rfl rfl ?_
  refine q_iload_n rfl rfl ?_
  refine s_bastore (j := 19) rfl o21 (by decide) rfl (fun h22 o22 f22 => ?_)
  have s22 := s21.put f22
  refine s_iinc (y := 20) (lv' := [(2, .int 20), (3, .int 20), (0, .ref 7), (1, .int 0)]) rfl rfl (by decide) (by decide) rfl ?_
  refine q_goto rfl ?_
  refine q_iload_n rfl rfl ?_
  refine q_iload_n rfl rfl ?_
  refine q_icmp_ge rfl (fun _ => ?_) (fun c => absurd (by decide) c)
  refine q_return rfl rfl ?_
  show aW aiP 15 16 637 59 [(0, .ref 6), (1, .int 6)] [] h22 _
  refine q_aload_n rfl rfl ?_
  have e6_22 := ((((((((((((((((((((o2.ne f3 rfl).ne f4 rfl).ne f5 rfl).ne f6 rfl).ne f7 rfl).ne f8 rfl).ne f9 rfl).ne f10 rfl).ne f11 rfl).ne f12 rfl).ne f13 rfl).ne f14 rfl).ne f15 rfl).ne f16 rfl).ne f17 rfl).ne f18 rfl).ne f19 rfl).ne f20 rfl).ne f21 rfl).ne f22 rfl)
  refine s_get (v := .int 6) rfl e6_22 rfl rfl ?_
  refine q_ireturn rfl rfl ?_
  show aW aiP 0 17 658 233 [(4, .int 0), (3, .ref 233), (2, .ref 191), (1, .ref 6), (0, .ref 0)] [.int 6] h22 _
  refine q_aload_n rfl rfl ?_
  refine q_aload_n rfl rfl ?_
  refine q_iload rfl rfl ?_
  refine q_iconst rfl ?_
  refine s_iadd (k := 1) rfl (by decide) ?_
  have e0_22 := (f22.ne rfl (f21.ne rfl (f20.ne rfl (f19.ne rfl (f18.ne rfl (f17.ne rfl (f16.ne rfl (f15.ne rfl (f14.ne rfl (f13.ne rfl (f12.ne rfl (f11.ne rfl (f10.ne rfl (f9.ne rfl (f8.ne rfl (f7.ne rfl (f6.ne rfl (f5.ne rfl (f4.ne rfl (f3.ne rfl (f2.ne rfl (f1.ne rfl e0))))))))))))))))))))))
  refine s_iaload (j := 1) (v := .int (xs 1)) rfl e0_22 (by decide) rfl (by first | rfl | decide) ?_
  rw [hw]
  have e191_22 := ((((((((((((((((((((((e191.ne f1 rfl).ne f2 rfl).ne f3 rfl).ne f4 rfl).ne f5 rfl).ne f6 rfl).ne f7 rfl).ne f8 rfl).ne f9 rfl).ne f10 rfl).ne f11 rfl).ne f12 rfl).ne f13 rfl).ne f14 rfl).ne f15 rfl).ne f16 rfl).ne f17 rfl).ne f18 rfl).ne f19 rfl).ne f20 rfl).ne f21 rfl).ne f22 rfl)
  refine s_callV (as := [.int 6]) (rest := [.int 6]) (d' := 16) (w' := 636) (lv' := [(0, .ref 191), (1, .int 6)]) rfl e191_22 rfl rfl rfl rfl rfl rfl ?_
  refine q_aload_n rfl rfl ?_
  refine q_iconst rfl ?_
  refine s_put (vs' := [.int 0, .ref 192, .ref 193, .int 0, .ref 194, .ref 195, .ref 196, .ref 197, .ref 198, .ref 199, .ref 200, .ref 201, .ref 202, .ref 203, .ref 204, .ref 205, .int (-1), .int 0, .ref 206, .ref 207, .ref 208, .ref 209, .ref 210, .ref 211, .ref 212, .ref 213, .ref 214, .ref 215, .int 0, .int 0, .int 0, .int 0, .ref 216, .ref 217, .ref 218, .ref 219, .ref 220, .int (-1), .int 0, .int 0, .int 0, .int 0, .int 0, .int 0, .ref 221, .ref 222, .ref 223, .ref 224, .int 0, .ref 225, .int 0, .ref 226, .ref 227, .int 0, .ref 228, .ref 229, .ref 230, .ref 231, .ref 232]) rfl e191_22 rfl rfl rfl rfl (fun h23 o23 f23 => ?_)
  have s23 := s22.put f23
  refine q_iload_n rfl rfl ?_
  refine q_if_lt rfl (fun c => absurd c (by decide)) (fun _ => ?_)
  refine q_iload_n rfl rfl ?_
  refine q_bipush rfl ?_
  refine q_icmp_gt rfl (fun c => absurd c (by decide)) (fun _ => ?_)
  refine q_aload_n rfl rfl ?_
  refine s_get (v := .int 0) rfl o23 rfl rfl ?_
  refine q_iload_n rfl rfl ?_
  refine s_iadd (k := 6) rfl (by decide) ?_
  refine q_sipush rfl ?_
  refine q_icmp_le rfl (fun _ => ?_) (fun c => absurd (by decide) c)
  refine q_iconst rfl ?_
  refine s_istore_n (lv' := [(2, .int 0), (0, .ref 191), (1, .int 6)]) rfl (by decide) rfl ?_
  refine q_iload_n rfl rfl ?_
  refine q_iload_n rfl rfl ?_
  refine q_icmp_ge rfl (fun c => absurd c (by decide)) (fun _ => ?_)
  refine q_aload_n rfl rfl ?_
  refine s_get (v := .ref 193) rfl o23 rfl rfl ?_
  refine q_aload_n rfl rfl ?_
  refine s_get (v := .int 0) rfl o23 rfl rfl ?_
  refine q_aload_n rfl rfl ?_
  refine s_get (v := .ref 192) rfl o23 rfl rfl ?_
  refine q_iload_n rfl rfl ?_
  have e192_23 := (f23.ne rfl (f22.ne rfl (f21.ne rfl (f20.ne rfl (f19.ne rfl (f18.ne rfl (f17.ne rfl (f16.ne rfl (f15.ne rfl (f14.ne rfl (f13.ne rfl (f12.ne rfl (f11.ne rfl (f10.ne rfl (f9.ne rfl (f8.ne rfl (f7.ne rfl (f6.ne rfl (f5.ne rfl (f4.ne rfl (f3.ne rfl (f2.ne rfl (f1.ne rfl e192)))))))))))))))))))))))
  refine s_iaload (j := 0) (v := .int 0) rfl e192_23 (by decide) rfl (by first | rfl | decide) ?_
  have e193_23 := (f23.ne rfl (f22.ne rfl (f21.ne rfl (f20.ne rfl (f19.ne rfl (f18.ne rfl (f17.ne rfl (f16.ne rfl (f15.ne rfl (f14.ne rfl (f13.ne rfl (f12.ne rfl (f11.ne rfl (f10.ne rfl (f9.ne rfl (f8.ne rfl (f7.ne rfl (f6.ne rfl (f5.ne rfl (f4.ne rfl (f3.ne rfl (f2.ne rfl (f1.ne rfl e193)))))))))))))))))))))))
  refine s_iastore (j := 0) rfl e193_23 (by decide) rfl (fun h24 o24 f24 => ?_)
  have s24 := s23.put f24
  refine q_aload_n rfl rfl ?_
  refine q_dup rfl rfl ?_
  have e191_24 := (o23.ne f24 rfl)
  refine s_get (v := .int 0) rfl e191_24 rfl rfl ?_
  refine q_iconst rfl ?_
  refine s_iadd (k := 1) rfl (by decide) ?_
  refine s_put (vs' := [.int 0, .ref 192, .ref 193, .int 1, .ref 194, .ref 195, .ref 196, .ref 197, .ref 198, .ref 199, .ref 200, .ref 201, .ref 202, .ref 203, .ref 204, .ref 205, .int (-1), .int 0, .ref 206, .ref 207, .ref 208, .ref 209, .ref 210, .ref 211, .ref 212, .ref 213, .ref 214, .ref 215, .int 0, .int 0, .int 0, .int 0, .ref 216, .ref 217, .ref 218, .ref 219, .ref 220, .int (-1), .int 0, .int 0, .int 0, .int 0, .int 0, .int 0, .ref 221, .ref 222, .ref 223, .ref 224, .int 0, .ref 225, .int 0, .ref 226, .ref 227, .int 0, .ref 228, .ref 229, .ref 230, .ref 231, .ref 232]) rfl e191_24 rfl rfl rfl rfl (fun h25 o25 f25 => ?_)
  have s25 := s24.put f25
  refine s_iinc (y := 1) (lv' := [(2, .int 1), (0, .ref 191), (1, .int 6)]) rfl rfl (by decide) (by decide) rfl ?_
  refine q_goto rfl ?_
  refine q_iload_n rfl rfl ?_
  refine q_iload_n rfl rfl ?_
  refine q_icmp_ge rfl (fun c => absurd c (by decide)) (fun _ => ?_)
  refine q_aload_n rfl rfl ?_
  refine s_get (v := .ref 193) rfl o25 rfl rfl ?_
  refine q_aload_n rfl rfl ?_
  refine s_get (v := .int 1) rfl o25 rfl rfl ?_
  refine q_aload_n rfl rfl ?_
  refine s_get (v := .ref 192) rfl o25 rfl rfl ?_
  refine q_iload_n rfl rfl ?_
  have e192_25 := (f25.ne rfl (f24.ne rfl e192_23))
  refine s_iaload (j := 1) (v := .int 0) rfl e192_25 (by decide) rfl (by first | rfl | decide) ?_
  have e193_25 := (f25.ne rfl o24)
  refine s_iastore (j := 1) rfl e193_25 (by decide) rfl (fun h26 o26 f26 => ?_)
  have s26 := s25.put f26
  refine q_aload_n rfl rfl ?_
  refine q_dup rfl rfl ?_
  have e191_26 := (o25.ne f26 rfl)
  refine s_get (v := .int 1) rfl e191_26 rfl rfl ?_
  refine q_iconst rfl ?_
  refine s_iadd (k := 2) rfl (by decide) ?_
  refine s_put (vs' := [.int 0, .ref 192, .ref 193, .int 2, .ref 194, .ref 195, .ref 196, .ref 197, .ref 198, .ref 199, .ref 200, .ref 201, .ref 202, .ref 203, .ref 204, .ref 205, .int (-1), .int 0, .ref 206, .ref 207, .ref 208, .ref 209, .ref 210, .ref 211, .ref 212, .ref 213, .ref 214, .ref 215, .int 0, .int 0, .int 0, .int 0, .ref 216, .ref 217, .ref 218, .ref 219, .ref 220, .int (-1), .int 0, .int 0, .int 0, .int 0, .int 0, .int 0, .ref 221, .ref 222, .ref 223, .ref 224, .int 0, .ref 225, .int 0, .ref 226, .ref 227, .int 0, .ref 228, .ref 229, .ref 230, .ref 231, .ref 232]) rfl e191_26 rfl rfl rfl rfl (fun h27 o27 f27 => ?_)
  have s27 := s26.put f27
  refine s_iinc (y := 2) (lv' := [(2, .int 2), (0, .ref 191), (1, .int 6)]) rfl rfl (by decide) (by decide) rfl ?_
  refine q_goto rfl ?_
  refine q_iload_n rfl rfl ?_
  refine q_iload_n rfl rfl ?_
  refine q_icmp_ge rfl (fun c => absurd c (by decide)) (fun _ => ?_)
  refine q_aload_n rfl rfl ?_
  refine s_get (v := .ref 193) rfl o27 rfl rfl ?_
  refine q_aload_n rfl rfl ?_
  refine s_get (v := .int 2) rfl o27 rfl rfl ?_
  refine q_aload_n rfl rfl ?_
  refine s_get (v := .ref 192) rfl o27 rfl rfl ?_
  refine q_iload_n rfl rfl ?_
  have e192_27 := (f27.ne rfl (f26.ne rfl e192_25))
  refine s_iaload (j := 2) (v := .int 0) rfl e192_27 (by decide) rfl (by first | rfl | decide) ?_
  have e193_27 := (f27.ne rfl o26)
  refine s_iastore (j := 2) rfl e193_27 (by decide) rfl (fun h28 o28 f28 => ?_)
  have s28 := s27.put f28
  refine q_aload_n rfl rfl ?_
  refine q_dup rfl rfl ?_
  have e191_28 := (o27.ne f28 rfl)
  refine s_get (v := .int 2) rfl e191_28 rfl rfl ?_
  refine q_iconst rfl ?_
  refine s_iadd (k := 3) rfl (by decide) ?_
  refine s_put (vs' := [.int 0, .ref 192, .ref 193, .int 3, .ref 194, .ref 195, .ref 196, .ref 197, .ref 198, .ref 199, .ref 200, .ref 201, .ref 202, .ref 203, .ref 204, .ref 205, .int (-1), .int 0, .ref 206, .ref 207, .ref 208, .ref 209, .ref 210, .ref 211, .ref 212, .ref 213, .ref 214, .ref 215, .int 0, .int 0, .int 0, .int 0, .ref 216, .ref 217, .ref 218, .ref 219, .ref 220, .int (-1), .int 0, .int 0, .int 0, .int 0, .int 0, .int 0, .ref 221, .ref 222, .ref 223, .ref 224, .int 0, .ref 225, .int 0, .ref 226, .ref 227, .int 0, .ref 228, .ref 229, .ref 230, .ref 231, .ref 232]) rfl e191_28 rfl rfl rfl rfl (fun h29 o29 f29 => ?_)
  have s29 := s28.put f29
  refine s_iinc (y := 3) (lv' := [(2, .int 3), (0, .ref 191), (1, .int 6)]) rfl rfl (by decide) (by decide) rfl ?_
  refine q_goto rfl ?_
  refine q_iload_n rfl rfl ?_
  refine q_iload_n rfl rfl ?_
  refine q_icmp_ge rfl (fun c => absurd c (by decide)) (fun _ => ?_)
  refine q_aload_n rfl rfl ?_
  refine s_get (v := .ref 193) rfl o29 rfl rfl ?_
  refine q_aload_n rfl rfl ?_
  refine s_get (v := .int 3) rfl o29 rfl rfl ?_
  refine q_aload_n rfl rfl ?_
  refine s_get (v := .ref 192) rfl o29 rfl rfl ?_
  refine q_iload_n rfl rfl ?_
  have e192_29 := (f29.ne rfl (f28.ne rfl e192_27))
  refine s_iaload (j := 3) (v := .int 0) rfl e192_29 (by decide) rfl (by first | rfl | decide) ?_
  have e193_29 := (f29.ne rfl o28)
  refine s_iastore (j := 3) rfl e193_29 (by decide) rfl (fun h30 o30 f30 => ?_)
  have s30 := s29.put f30
  refine q_aload_n rfl rfl ?_
  refine q_dup rfl rfl ?_
  have e191_30 := (o29.ne f30 rfl)
  refine s_get (v := .int 3) rfl e191_30 rfl rfl ?_
  refine q_iconst rfl ?_
  refine s_iadd (k := 4) rfl (by decide) ?_
  refine s_put (vs' := [.int 0, .ref 192, .ref 193, .int 4, .ref 194, .ref 195, .ref 196, .ref 197, .ref 198, .ref 199, .ref 200, .ref 201, .ref 202, .ref 203, .ref 204, .ref 205, .int (-1), .int 0, .ref 206, .ref 207, .ref 208, .ref 209, .ref 210, .ref 211, .ref 212, .ref 213, .ref 214, .ref 215, .int 0, .int 0, .int 0, .int 0, .ref 216, .ref 217, .ref 218, .ref 219, .ref 220, .int (-1), .int 0, .int 0, .int 0, .int 0, .int 0, .int 0, .ref 221, .ref 222, .ref 223, .ref 224, .int 0, .ref 225, .int 0, .ref 226, .ref 227, .int 0, .ref 228, .ref 229, .ref 230, .ref 231, .ref 232]) rfl e191_30 rfl rfl rfl rfl (fun h31 o31 f31 => ?_)
  have s31 := s30.put f31
  refine s_iinc (y := 4) (lv' := [(2, .int 4), (0, .ref 191), (1, .int 6)]) rfl rfl (by decide) (by decide) rfl ?_
  refine q_goto rfl ?_
  refine q_iload_n rfl rfl ?_
  refine q_iload_n rfl rfl ?_
  refine q_icmp_ge rfl (fun c => absurd c (by decide)) (fun _ => ?_)
  refine q_aload_n rfl rfl ?_
  refine s_get (v := .ref 193) rfl o31 rfl rfl ?_
  refine q_aload_n rfl rfl ?_
  refine s_get (v := .int 4) rfl o31 rfl rfl ?_
  refine q_aload_n rfl rfl ?_
  refine s_get (v := .ref 192) rfl o31 rfl rfl ?_
  refine q_iload_n rfl rfl ?_
  have e192_31 := (f31.ne rfl (f30.ne rfl e192_29))
  refine s_iaload (j := 4) (v := .int 0) rfl e192_31 (by decide) rfl (by first | rfl | decide) ?_
  have e193_31 := (f31.ne rfl o30)
  refine s_iastore (j := 4) rfl e193_31 (by decide) rfl (fun h32 o32 f32 => ?_)
  have s32 := s31.put f32
  refine q_aload_n rfl rfl ?_
  refine q_dup rfl rfl ?_
  have e191_32 := (o31.ne f32 rfl)
  refine s_get (v := .int 4) rfl e191_32 rfl rfl ?_
  refine q_iconst rfl ?_
  refine s_iadd (k := 5) rfl (by decide) ?_
  refine s_put (vs' := [.int 0, .ref 192, .ref 193, .int 5, .ref 194, .ref 195, .ref 196, .ref 197, .ref 198, .ref 199, .ref 200, .ref 201, .ref 202, .ref 203, .ref 204, .ref 205, .int (-1), .int 0, .ref 206, .ref 207, .ref 208, .ref 209, .ref 210, .ref 211, .ref 212, .ref 213, .ref 214, .ref 215, .int 0, .int 0, .int 0, .int 0, .ref 216, .ref 217, .ref 218, .ref 219, .ref 220, .int (-1), .int 0, .int 0, .int 0, .int 0, .int 0, .int 0, .ref 221, .ref 222, .ref 223, .ref 224, .int 0, .ref 225, .int 0, .ref 226, .ref 227, .int 0, .ref 228, .ref 229, .ref 230, .ref 231, .ref 232]) rfl e191_32 rfl rfl rfl rfl (fun h33 o33 f33 => ?_)
  have s33 := s32.put f33
  refine s_iinc (y := 5) (lv' := [(2, .int 5), (0, .ref 191), (1, .int 6)]) rfl rfl (by decide) (by decide) rfl ?_
  refine q_goto rfl ?_
  refine q_iload_n rfl rfl ?_
  refine q_iload_n rfl rfl ?_
  refine q_icmp_ge rfl (fun c => absurd c (by decide)) (fun _ => ?_)
  refine q_aload_n rfl rfl ?_
  refine s_get (v := .ref 193) rfl o33 rfl rfl ?_
  refine q_aload_n rfl rfl ?_
  refine s_get (v := .int 5) rfl o33 rfl rfl ?_
  refine q_aload_n rfl rfl ?_
  refine s_get (v := .ref 192) rfl o33 rfl rfl ?_
  refine q_iload_n rfl rfl ?_
  have e192_33 := (f33.ne rfl (f32.ne rfl e192_31))
  refine s_iaload (j := 5) (v := .int 0) rfl e192_33 (by decide) rfl (by first | rfl | decide) ?_
  have e193_33 := (f33.ne rfl o32)
  refine s_iastore (j := 5) rfl e193_33 (by decide) rfl (fun h34 o34 f34 => ?_)
  have s34 := s33.put f34
  refine q_aload_n rfl rfl ?_
  refine q_dup rfl rfl ?_
  have e191_34 := (o33.ne f34 rfl)
  refine s_get (v := .int 5) rfl e191_34 rfl rfl ?_
  refine q_iconst rfl ?_
  refine s_iadd (k := 6) rfl (by decide) ?_
  refine s_put (vs' := [.int 0, .ref 192, .ref 193, .int 6, .ref 194, .ref 195, .ref 196, .ref 197, .ref 198, .ref 199, .ref 200, .ref 201, .ref 202, .ref 203, .ref 204, .ref 205, .int (-1), .int 0, .ref 206, .ref 207, .ref 208, .ref 209, .ref 210, .ref 211, .ref 212, .ref 213, .ref 214, .ref 215, .int 0, .int 0, .int 0, .int 0, .ref 216, .ref 217, .ref 218, .ref 219, .ref 220, .int (-1), .int 0, .int 0, .int 0, .int 0, .int 0, .int 0, .ref 221, .ref 222, .ref 223, .ref 224, .int 0, .ref 225, .int 0, .ref 226, .ref 227, .int 0, .ref 228, .ref 229, .ref 230, .ref 231, .ref 232]) rfl e191_34 rfl rfl rfl rfl (fun h35 o35 f35 => ?_)
  have s35 := s34.put f35
  refine s_iinc (y := 6) (lv' := [(2, .int 6), (0, .ref 191), (1, .int 6)]) rfl rfl (by decide) (by decide) rfl ?_
  refine q_goto rfl ?_
  refine q_iload_n rfl rfl ?_
  refine q_iload_n rfl rfl ?_
  refine q_icmp_ge rfl (fun _ => ?_) (fun c => absurd (by decide) c)
  refine q_iconst rfl ?_
  refine s_istore_n (lv' := [(2, .int 0), (0, .ref 191), (1, .int 6)]) rfl (by decide) rfl ?_
  refine q_iload_n rfl rfl ?_
  refine q_bipush rfl ?_
  refine q_icmp_ge rfl (fun c => absurd c (by decide)) (fun _ => ?_)
  refine q_aload_n rfl rfl ?_
  refine s_get (v := .ref 192) rfl o35 rfl rfl ?_
  refine q_iload_n rfl rfl ?_
  refine q_iconst rfl ?_
  have e192_35 := (f35.ne rfl (f34.ne rfl e192_33))
  refine s_iastore (j := 0) rfl e192_35 (by decide) rfl (fun h36 o36 f36 => ?_)
  have s36 := s35.put f36
  refine s_iinc (y := 1) (lv' := [(2, .int 1), (0, .ref 191), (1, .int 6)]) rfl rfl (by decide) (by decide) rfl ?_
  refine q_goto rfl ?_
  refine q_iload_n rfl rfl ?_
  refine q_bipush rfl ?_
  refine q_icmp_ge rfl (fun c => absurd c (by decide)) (fun _ => ?_)
  refine q_aload_n rfl rfl ?_
  have e191_36 := (o35.ne f36 rfl)
  refine s_get (v := .ref 192) rfl e191_36 rfl rfl ?_
  refine q_iload_n rfl rfl ?_
  refine q_iconst rfl ?_
  refine s_iastore (j := 1) rfl o36 (by decide) rfl (fun h37 o37 f37 => ?_)
  have s37 := s36.put f37
  refine s_iinc (y := 2) (lv' := [(2, .int 2), (0, .ref 191), (1, .int 6)]) rfl rfl (by decide) (by decide) rfl ?_
  refine q_goto rfl ?_
  refine q_iload_n rfl rfl ?_
  refine q_bipush rfl ?_
  refine q_icmp_ge rfl (fun c => absurd c (by decide)) (fun _ => ?_)
  refine q_aload_n rfl rfl ?_
  have e191_37 := (e191_36.ne f37 rfl)
  refine s_get (v := .ref 192) rfl e191_37 rfl rfl ?_
  refine q_iload_n rfl rfl ?_
  refine q_iconst rfl ?_
  refine s_iastore (j := 2) rfl o37 (by decide) rfl (fun h38 o38 f38 => ?_)
  have s38 := s37.put f38
  refine s_iinc (y := 3) (lv' := [(2, .int 3), (0, .ref 191), (1, .int 6)]) rfl rfl (by decide) (by decide) rfl ?_
  refine q_goto rfl ?_
  refine q_iload_n rfl rfl ?_
  refine q_bipush rfl ?_
  refine q_icmp_ge rfl (fun c => absurd c (by decide)) (fun _ => ?_)
  refine q_aload_n rfl rfl ?_
  have e191_38 := (e191_37.ne f38 rfl)
  refine s_get (v := .ref 192) rfl e191_38 rfl rfl ?_
  refine q_iload_n rfl rfl ?_
  refine q_iconst rfl ?_
  refine s_iastore (j := 3) rfl o38 (by decide) rfl (fun h39 o39 f39 => ?_)
  have s39 := s38.put f39
  refine s_iinc (y := 4) (lv' := [(2, .int 4), (0, .ref 191), (1, .int 6)]) rfl rfl (by decide) (by decide) rfl ?_
  refine q_goto rfl ?_
  refine q_iload_n rfl rfl ?_
  refine q_bipush rfl ?_
  refine q_icmp_ge rfl (fun c => absurd c (by decide)) (fun _ => ?_)
  refine q_aload_n rfl rfl ?_
  have e191_39 := (e191_38.ne f39 rfl)
  refine s_get (v := .ref 192) rfl e191_39 rfl rfl ?_
  refine q_iload_n rfl rfl ?_
  refine q_iconst rfl ?_
  refine s_iastore (j := 4) rfl o39 (by decide) rfl (fun h40 o40 f40 => ?_)
  have s40 := s39.put f40
  refine s_iinc (y := 5) (lv' := [(2, .int 5), (0, .ref 191), (1, .int 6)]) rfl rfl (by decide) (by decide) rfl ?_
  refine q_goto rfl ?_
  refine q_iload_n rfl rfl ?_
  refine q_bipush rfl ?_
  refine q_icmp_ge rfl (fun c => absurd c (by decide)) (fun _ => ?_)
  refine q_aload_n rfl rfl ?_
  have e191_40 := (e191_39.ne f40 rfl)
  refine s_get (v := .ref 192) rfl e191_40 rfl rfl ?_
  refine q_iload_n rfl rfl ?_
  refine q_iconst rfl ?_
  refine s_iastore (j := 5) rfl o40 (by decide) rfl (fun h41 o41 f41 => ?_)
  have s41 := s40.put f41
  refine s_iinc (y := 6) (lv' := [(2, .int 6), (0, .ref 191), (1, .int 6)]) rfl rfl (by decide) (by decide) rfl ?_
  refine q_goto rfl ?_
  refine q_iload_n rfl rfl ?_
  refine q_bipush rfl ?_
  refine q_icmp_ge rfl (fun c => absurd c (by decide)) (fun _ => ?_)
  refine q_aload_n rfl rfl ?_
  have e191_41 := (e191_40.ne f41 rfl)
  refine s_get (v := .ref 192) rfl e191_41 rfl rfl ?_
  refine q_iload_n rfl rfl ?_
  refine q_iconst rfl ?_
  refine s_iastore (j := 6) rfl o41 (by decide) rfl (fun h42 o42 f42 => ?_)
  have s42 := s41.put f42
  refine s_iinc (y := 7) (lv' := [(2, .int 7), (0, .ref 191), (1, .int 6)]) rfl rfl (by decide) (by decide) rfl ?_
  refine q_goto rfl ?_
  refine q_iload_n rfl rfl ?_
  refine q_bipush rfl ?_
  refine q_icmp_ge rfl (fun c => absurd c (by decide)) (fun _ => ?_)
  refine q_aload_n rfl rfl ?_
  have e191_42 := (e191_41.ne f42 rfl)
  refine s_get (v := .ref 192) rfl e191_42 rfl rfl ?_
  refine q_iload_n rfl rfl ?_
  refine q_iconst rfl ?_
  refine s_iastore (j := 7) rfl o42 (by decide) rfl (fun h43 o43 f43 => ?_)
  have s43 := s42.put f43
  refine s_iinc (y := 8) (lv' := [(2, .int 8), (0, .ref 191), (1, .int 6)]) rfl rfl (by decide) (by decide) rfl ?_
  refine q_goto rfl ?_
  refine q_iload_n rfl rfl ?_
  refine q_bipush rfl ?_
  refine q_icmp_ge rfl (fun c => absurd c (by decide)) (fun _ => ?_)
  refine q_aload_n rfl rfl ?_
  have e191_43 := (e191_42.ne f43 rfl)
  refine s_get (v := .ref 192) rfl e191_43 rfl rfl ?_
  refine q_iload_n rfl rfl ?_
  refine q_iconst rfl ?_
  refine s_iastore (j := 8) rfl o43 (by decide) rfl (fun h44 o44 f44 => ?_)
  have s44 := s43.put f44
  refine s_iinc (y := 9) (lv' := [(2, .int 9), (0, .ref 191), (1, .int 6)]) rfl rfl (by decide) (by decide) rfl ?_
  refine q_goto rfl ?_
  refine q_iload_n rfl rfl ?_
  refine q_bipush rfl ?_
  refine q_icmp_ge rfl (fun c => absurd c (by decide)) (fun _ => ?_)
  refine q_aload_n rfl rfl ?_
  have e191_44 := (e191_43.ne f44 rfl)
  refine s_get (v := .ref 192) rfl e191_44 rfl rfl ?_
  refine q_iload_n rfl rfl ?_
  refine q_iconst rfl ?_
  refine s_iastore (j := 9) rfl o44 (by decide) rfl (fun h45 o45 f45 => ?_)
  have s45 := s44.put f45
  refine s_iinc (y := 10) (lv' := [(2, .int 10), (0, .ref 191), (1, .int 6)]) rfl rfl (by decide) (by decide) rfl ?_
  refine q_goto rfl ?_
  refine q_iload_n rfl rfl ?_
  refine q_bipush rfl ?_
  refine q_icmp_ge rfl (fun c => absurd c (by decide)) (fun _ => ?_)
  refine q_aload_n rfl rfl ?_
  have e191_45 := (e191_44.ne f45 rfl)
  refine s_get (v := .ref 192) rfl e191_45 rfl rfl ?_
  refine q_iload_n rfl rfl ?_
  refine q_iconst rfl ?_
  refine s_iastore (j := 10) rfl o45 (by decide) rfl (fun h46 o46 f46 => ?_)
  have s46 := s45.put f46
  refine s_iinc (y := 11) (lv' := [(2, .int 11), (0, .ref 191), (1, .int 6)]) rfl rfl (by decide) (by decide) rfl ?_
  refine q_goto rfl ?_
  refine q_iload_n rfl rfl ?_
  refine q_bipush rfl ?_
  refine q_icmp_ge rfl (fun c => absurd c (by decide)) (fun _ => ?_)
  refine q_aload_n rfl rfl ?_
  have e191_46 := (e191_45.ne f46 rfl)
  refine s_get (v := .ref 192) rfl e191_46 rfl rfl ?_
  refine q_iload_n rfl rfl ?_
  refine q_iconst rfl ?_
  refine s_iastore (j := 11) rfl o46 (by decide) rfl (fun h47 o47 f47 => ?_)
  have s47 := s46.put f47
  refine s_iinc (y := 12) (lv' := [(2, .int 12), (0, .ref 191), (1, .int 6)]) rfl rfl (by decide) (by decide) rfl ?_
  refine q_goto rfl ?_
  refine q_iload_n rfl rfl ?_
  refine q_bipush rfl ?_
  refine q_icmp_ge rfl (fun c => absurd c (by decide)) (fun _ => ?_)
  refine q_aload_n rfl rfl ?_
  have e191_47 := (e191_46.ne f47 rfl)
  refine s_get (v := .ref 192) rfl e191_47 rfl rfl ?_
  refine q_iload_n rfl rfl ?_
  refine q_iconst rfl ?_
  refine s_iastore (j := 12) rfl o47 (by decide) rfl (fun h48 o48 f48 => ?_)
  have s48 := s47.put f48
  refine s_iinc (y := 13) (lv' := [(2, .int 13), (0, .ref 191), (1, .int 6)]) rfl rfl (by decide) (by decide) rfl ?_
  refine q_goto rfl ?_
  refine q_iload_n rfl rfl ?_
  refine q_bipush rfl ?_
  refine q_icmp_ge rfl (fun c => absurd c (by decide)) (fun _ => ?_)
  refine q_aload_n rfl rfl ?_
  have e191_48 := (e191_47.ne f48 rfl)
  refine s_get (v := .ref 192) rfl e191_48 rfl rfl ?_
  refine q_iload_n rfl rfl ?_
  refine q_iconst rfl ?_
  refine s_iastore (j := 13) rfl o48 (by decide) rfl (fun h49 o49 f49 => ?_)
  have s49 := s48.put f49
  refine s_iinc (y := 14) (lv' := [(2, .int 14), (0, .ref 191), (1, .int 6)]) rfl rfl (by decide) (by decide) rfl ?_
  refine q_goto rfl ?_
  refine q_iload_n rfl rfl ?_
  refine q_bipush rfl ?_
  refine q_icmp_ge rfl (fun c => absurd c (by decide)) (fun _ => ?_)
  refine q_aload_n rfl rfl ?_
  have e191_49 := (e191_48.ne f49 rfl)
  refine s_get (v := .ref 192) rfl e191_49 rfl rfl ?_
  refine q_iload_n rfl rfl ?_
  refine q_iconst rfl ?_
  refine s_iastore (j := 14) rfl o49 (by decide) rfl (fun h50 o50 f50 => ?_)
  have s50 := s49.put f50
  refine s_iinc (y := 15) (lv' := [(2, .int 15), (0, .ref 191), (1, .int 6)]) rfl rfl (by decide) (by decide) rfl ?_
  refine q_goto rfl ?_
  refine q_iload_n rfl rfl ?_
  refine q_bipush rfl ?_
  refine q_icmp_ge rfl (fun c => absurd c (by decide)) (fun _ => ?_)
  refine q_aload_n rfl rfl ?_
  have e191_50 := (e191_49.ne f50 rfl)
  refine s_get (v := .ref 192) rfl e191_50 rfl rfl ?_
  refine q_iload_n rfl rfl ?_
  refine q_iconst rfl ?_
  refine s_iastore (j := 15) rfl o50 (by decide) rfl (fun h51 o51 f51 => ?_)
  have s51 := s50.put f51
  refine s_iinc (y := 16) (lv' := [(2, .int 16), (0, .ref 191), (1, .int 6)]) rfl rfl (by decide) (by decide) rfl ?_
  refine q_goto rfl ?_
  refine q_iload_n rfl rfl ?_
  refine q_bipush rfl ?_
  refine q_icmp_ge rfl (fun c => absurd c (by decide)) (fun _ => ?_)
  refine q_aload_n rfl rfl ?_
  have e191_51 := (e191_50.ne f51 rfl)
  refine s_get (v := .ref 192) rfl e191_51 rfl rfl ?_
  refine q_iload_n rfl rfl ?_
  refine q_iconst rfl ?_
  refine s_iastore (j := 16) rfl o51 (by decide) rfl (fun h52 o52 f52 => ?_)
  have s52 := s51.put f52
  refine s_iinc (y := 17) (lv' := [(2, .int 17), (0, .ref 191), (1, .int 6)]) rfl rfl (by decide) (by decide) rfl ?_
  refine q_goto rfl ?_
  refine q_iload_n rfl rfl ?_
  refine q_bipush rfl ?_
  refine q_icmp_ge rfl (fun c => absurd c (by decide)) (fun _ => ?_)
  refine q_aload_n rfl rfl ?_
  have e191_52 := (e191_51.ne f52 rfl)
  refine s_get (v := .ref 192) rfl e191_52 rfl rfl ?_
  refine q_iload_n rfl rfl ?_
  refine q_iconst rfl ?_
  refine s_iastore (j := 17) rfl o52 (by decide) rfl (fun h53 o53 f53 => ?_)
  have s53 := s52.put f53
  refine s_iinc (y := 18) (lv' := [(2, .int 18), (0, .ref 191), (1, .int 6)]) rfl rfl (by decide) (by decide) rfl ?_
  refine q_goto rfl ?_
  refine q_iload_n rfl rfl ?_
  refine q_bipush rfl ?_
  refine q_icmp_ge rfl (fun c => absurd c (by decide)) (fun _ => ?_)
  refine q_aload_n rfl rfl ?_
  have e191_53 := (e191_52.ne f53 rfl)
  refine s_get (v := .ref 192) rfl e191_53 rfl rfl ?_
  refine q_iload_n rfl rfl ?_
  refine q_iconst rfl ?_
  refine s_iastore (j := 18) rfl o53 (by decide) rfl (fun h54 o54 f54 => ?_)
  have s54 := s53.put f54
  refine s_iinc (y := 19) (lv' := [(2, .int 19), (0, .ref 191), (1, .int 6)]) rfl rfl (by decide) (by decide) rfl ?_
  refine q_goto rfl ?_
  refine q_iload_n rfl rfl ?_
  refine q_bipush rfl ?_
  refine q_icmp_ge rfl (fun c => absurd c (by decide)) (fun _ => ?_)
  refine q_aload_n rfl rfl ?_
  have e191_54 := (e191_53.ne f54 rfl)
  refine s_get (v := .ref 192) rfl e191_54 rfl rfl ?_
  refine q_iload_n rfl rfl ?_
  refine q_iconst rfl ?_
  refine s_iastore (j := 19) rfl o54 (by decide) rfl (fun h55 o55 f55 => ?_)
  have s55 := s54.put f55
  refine s_iinc (y := 20) (lv' := [(2, .int 20), (0, .ref 191), (1, .int 6)]) rfl rfl (by decide) (by decide) rfl ?_
  refine q_goto rfl ?_
  refine q_iload_n rfl rfl ?_
  refine q_bipush rfl ?_
  refine q_icmp_ge rfl (fun _ => ?_) (fun c => absurd (by decide) c)
  refine q_aload_n rfl rfl ?_
  have e191_55 := (e191_54.ne f55 rfl)
  refine s_get (v := .int 6) rfl e191_55 rfl rfl ?_
  refine q_ireturn rfl rfl ?_
  show aW aiP 0 17 658 243 [(4, .int 0), (3, .ref 233), (2, .ref 191), (1, .ref 6), (0, .ref 0)] [.int 6, .int 6] h55 _
  refine q_icmp_eq rfl (fun _ => ?_) (fun c => absurd (by decide) c)
  refine s_iinc (y := 6) (lv' := [(4, .int 6), (3, .ref 233), (2, .ref 191), (1, .ref 6), (0, .ref 0)]) rfl rfl (by decide) (by decide) rfl ?_
  refine q_goto rfl ?_
  refine q_iload rfl rfl ?_
  refine q_aload_n rfl rfl ?_
  have e0_55 := (f55.ne rfl (f54.ne rfl (f53.ne rfl (f52.ne rfl (f51.ne rfl (f50.ne rfl (f49.ne rfl (f48.ne rfl (f47.ne rfl (f46.ne rfl (f45.ne rfl (f44.ne rfl (f43.ne rfl (f42.ne rfl (f41.ne rfl (f40.ne rfl (f39.ne rfl (f38.ne rfl (f37.ne rfl (f36.ne rfl (f35.ne rfl (f34.ne rfl (f33.ne rfl (f32.ne rfl (f31.ne rfl (f30.ne rfl (f29.ne rfl (f28.ne rfl (f27.ne rfl (f26.ne rfl (f25.ne rfl (f24.ne rfl (f23.ne rfl e0_22)))))))))))))))))))))))))))))))))
  refine s_alen (x := 6) rfl e0_55 rfl (by decide) ?_
  refine q_bipush rfl ?_
  refine s_isub (k := 0) rfl (by decide) ?_
  refine q_icmp_gt rfl (fun _ => ?_) (fun c => absurd (by decide) c)
  refine q_iconst rfl ?_
  refine q_ireturn rfl rfl ?_
  exact ⟨rfl, s55.bd rfl⟩
set_option maxRecDepth 20000 in
set_option maxHeartbeats 4000000 in
theorem p_case1_7 {xs : Nat → Int32} {h : ai_H} (F : Fresh 6 xs h) (hk : xs 0 &&& 31 = 1) (hw : xs 1 = 7) : aW aiP 0 17 658 33 [(4, .int 0), (3, .ref 233), (2, .ref 191), (1, .ref 6), (0, .ref 0)] [] h p_Q := by
  obtain ⟨e0, e1, ⟨g2, e2⟩, ⟨g3, e3⟩, ⟨g4, e4⟩, e5, e6, e7, e8, e9, e51, e93, e135, e177, e178, e179, e180, e181, e182, e183, e184, e185, e186, e187, e188, e189, e190, e191, e192, e193, e194, e195, e196, e197, e198, e199, e200, e201, e202, e203, e204, e205, e206, e207, e208, e209, e210, e211, e212, e213, e214, e215, e216, e217, e218, e219, e220, e221, e222, e223, e224, e225, e226, e227, ⟨g228, e228⟩, ⟨g229, e229⟩, e230, e231, e232, e233, s0⟩ := F
  refine q_aload_n rfl rfl ?_
  refine q_iload rfl rfl ?_
  refine s_iaload (j := 0) (v := .int (xs 0)) rfl e0 (by decide) rfl (by first | rfl | decide) ?_
  refine q_bipush rfl ?_
  refine s_iand (k := ((xs 0) &&& (31 : Int32))) rfl rfl ?_
  rw [hk]
  show aW aiP 0 17 658 40 [(4, .int 0), (3, .ref 233), (2, .ref 191), (1, .ref 6), (0, .ref 0)] [.int 1] h _
  refine s_sw (tg := 223) rfl rfl ?_
  refine q_aload_n rfl rfl ?_
  refine q_aload_n rfl rfl ?_
  refine q_iload rfl rfl ?_
  refine q_iconst rfl ?_
  refine s_iadd (k := 1) rfl (by decide) ?_
  refine s_iaload (j := 1) (v := .int (xs 1)) rfl e0 (by decide) rfl (by first | rfl | decide) ?_
  rw [hw]
  refine s_callV (as := [.int 7]) (rest := []) (d' := 16) (w' := 637) (lv' := [(0, .ref 6), (1, .int 7)]) rfl e6 rfl rfl rfl rfl rfl rfl ?_
  refine q_iload_n rfl rfl ?_
  refine q_if_lt rfl (fun c => absurd c (by decide)) (fun _ => ?_)
  refine q_iload_n rfl rfl ?_
  refine q_bipush rfl ?_
  refine q_icmp_gt rfl (fun c => absurd c (by decide)) (fun _ => ?_)
  refine q_aload_n rfl rfl ?_
  refine s_get (v := .int 0) rfl e6 rfl rfl ?_
  refine q_iload_n rfl rfl ?_
  refine s_iadd (k := 7) rfl (by decide) ?_
  refine q_sipush rfl ?_
  refine q_icmp_le rfl (fun _ => ?_) (fun c => absurd (by decide) c)
  refine q_aload_n rfl rfl ?_
  refine s_get (v := .ref 7) rfl e6 rfl rfl ?_
  refine q_iconst rfl ?_
  refine q_aload_n rfl rfl ?_
  refine s_get (v := .ref 8) rfl e6 rfl rfl ?_
  refine q_aload_n rfl rfl ?_
  refine s_get (v := .int 0) rfl e6 rfl rfl ?_
  refine q_iload_n rfl rfl ?_
  refine s_copy (sp := 0) (dp := 0) (k := 7) rfl e7 e8 (by decide) (by decide) (by decide) rfl (by decide) (by decide) (by decide) (fun i _ => rfl) (fun h1 o1 f1 => ?_)
  have s1 := s0.put f1
  refine q_aload_n rfl rfl ?_
  refine q_dup rfl rfl ?_
  have e6_1 := (e6.ne f1 rfl)
  refine s_get (v := .int 0) rfl e6_1 rfl rfl ?_
  refine q_iload_n rfl rfl ?_
  refine s_iadd (k := 7) rfl (by decide) ?_
  refine s_put (vs' := [.ref 7, .ref 8, .int 7, .ref 9, .int (-1), .ref 51, .ref 93, .ref 135, .ref 177, .ref 180, .int 0, .ref 183, .ref 186, .ref 189]) rfl e6_1 rfl rfl rfl rfl (fun h2 o2 f2 => ?_)
  have s2 := s1.put f2
  refine q_aload_n rfl rfl ?_
  refine s_get (v := .ref 7) rfl o2 rfl rfl ?_
  refine q_iconst rfl ?_
  refine s_callS (as := [.ref 7, .int 0]) (rest := []) (d' := 15) (w' := 614) (lv' := [(0, .ref 7), (1, .int 0)]) rfl rfl rfl rfl rfl rfl rfl rfl ?_
  refine q_iconst rfl ?_
  refine s_istore_n (lv' := [(2, .int 0), (0, .ref 7), (1, .int 0)]) rfl (by decide) rfl ?_
  refine q_aload_n rfl rfl ?_
  have e7_2 := (f2.ne rfl (f1.ne rfl e7))
  refine s_alen (x := 20) rfl e7_2 rfl (by decide) ?_
  refine s_istore_n (lv' := [(3, .int 20), (2, .int 0), (0, .ref 7), (1, .int 0)]) rfl (by decide) rfl ?_
  refine q_iload_n rfl rfl ?_
  refine q_iload_n rfl rfl ?_
  refine q_icmp_ge rfl (fun c => absurd c (by decide)) (fun _ => ?_)
  refine q_aload_n rfl rfl ?_
  refine q_iload_n rfl rfl ?_
  refine q_iload_n rfl rfl ?_
  refine s_bastore (j := 0) rfl e7_2 (by decide) rfl (fun h3 o3 f3 => ?_)
  have s3 := s2.put f3
  refine s_iinc (y := 1) (lv' := [(2, .int 1), (3, .int 20), (0, .ref 7), (1, .int 0)]) rfl rfl (by decide) (by decide) rfl ?_
  refine q_goto rfl ?_
  refine q_iload_n rfl rfl ?_
  refine q_iload_n rfl rfl ?_
  refine q_icmp_ge rfl (fun c => absurd c (by decide)) (fun _ => ?_)
  refine q_aload_n rfl rfl ?_
  refine q_iload_n rfl rfl ?_
  refine q_iload_n rfl rfl ?_
  refine s_bastore (j := 1) rfl o3 (by decide) rfl (fun h4 o4 f4 => ?_)
  have s4 := s3.put f4
  refine s_iinc (y := 2) (lv' := [(2, .int 2), (3, .int 20), (0, .ref 7), (1, .int 0)]) rfl rfl (by decide) (by decide) rfl ?_
  refine q_goto rfl ?_
  refine q_iload_n rfl rfl ?_
  refine q_iload_n rfl rfl ?_
  refine q_icmp_ge rfl (fun c => absurd c (by decide)) (fun _ => ?_)
  refine q_aload_n rfl rfl ?_
  refine q_iload_n rfl rfl ?_
  refine q_iload_n rfl rfl ?_
  refine s_bastore (j := 2) rfl o4 (by decide) rfl (fun h5 o5 f5 => ?_)
  have s5 := s4.put f5
  refine s_iinc (y := 3) (lv' := [(2, .int 3), (3, .int 20), (0, .ref 7), (1, .int 0)]) rfl rfl (by decide) (by decide) rfl ?_
  refine q_goto rfl ?_
  refine q_iload_n rfl rfl ?_
  refine q_iload_n rfl rfl ?_
  refine q_icmp_ge rfl (fun c => absurd c (by decide)) (fun _ => ?_)
  refine q_aload_n rfl rfl ?_
  refine q_iload_n rfl rfl ?_
  refine q_iload_n rfl rfl ?_
  refine s_bastore (j := 3) rfl o5 (by decide) rfl (fun h6 o6 f6 => ?_)
  have s6 := s5.put f6
  refine s_iinc (y := 4) (lv' := [(2, .int 4), (3, .int 20), (0, .ref 7), (1, .int 0)]) rfl rfl (by decide) (by decide) rfl ?_
  refine q_goto rfl ?_
  refine q_iload_n rfl rfl ?_
  refine q_iload_n rfl rfl ?_
  refine q_icmp_ge rfl (fun c => absurd c (by decide)) (fun _ => ?_)
  refine q_aload_n rfl rfl ?_
  refine q_iload_n rfl rfl ?_
  refine q_iload_n rfl rfl ?_
  refine s_bastore (j := 4) rfl o6 (by decide) rfl (fun h7 o7 f7 => ?_)
  have s7 := s6.put f7
  refine s_iinc (y := 5) (lv' := [(2, .int 5), (3, .int 20), (0, .ref 7), (1, .int 0)]) rfl rfl (by decide) (by decide) rfl ?_
  refine q_goto rfl ?_
  refine q_iload_n rfl rfl ?_
  refine q_iload_n rfl rfl ?_
  refine q_icmp_ge rfl (fun c => absurd c (by decide)) (fun _ => ?_)
  refine q_aload_n rfl rfl ?_
  refine q_iload_n rfl rfl ?_
  refine q_iload_n rfl rfl ?_
  refine s_bastore (j := 5) rfl o7 (by decide) rfl (fun h8 o8 f8 => ?_)
  have s8 := s7.put f8
  refine s_iinc (y := 6) (lv' := [(2, .int 6), (3, .int 20), (0, .ref 7), (1, .int 0)]) rfl rfl (by decide) (by decide) rfl ?_
  refine q_goto rfl ?_
  refine q_iload_n rfl rfl ?_
  refine q_iload_n rfl rfl ?_
  refine q_icmp_ge rfl (fun c => absurd c (by decide)) (fun _ => ?_)
  refine q_aload_n rfl rfl ?_
  refine q_iload_n rfl rfl ?_
  refine q_iload_n rfl rfl ?_
  refine s_bastore (j := 6) rfl o8 (by decide) rfl (fun h9 o9 f9 => ?_)
  have s9 := s8.put f9
  refine s_iinc (y := 7) (lv' := [(2, .int 7), (3, .int 20), (0, .ref 7), (1, .int 0)]) rfl rfl (by decide) (by decide) rfl ?_
  refine q_goto rfl ?_
  refine q_iload_n rfl rfl ?_
  refine q_iload_n rfl rfl ?_
  refine q_icmp_ge rfl (fun c => absurd c (by decide)) (fun _ => ?_)
  refine q_aload_n rfl rfl ?_
  refine q_iload_n rfl rfl ?_
  refine q_iload_n rfl rfl ?_
  refine s_bastore (j := 7) rfl o9 (by decide) rfl (fun h10 o10 f10 => ?_)
  have s10 := s9.put f10
  refine s_iinc (y := 8) (lv' := [(2, .int 8), (3, .int 20), (0, .ref 7), (1, .int 0)]) rfl rfl (by decide) (by decide) rfl ?_
  refine q_goto rfl ?_
  refine q_iload_n rfl rfl ?_
  refine q_iload_n rfl rfl ?_
  refine q_icmp_ge rfl (fun c => absurd c (by decide)) (fun _ => ?_)
  refine q_aload_n rfl rfl ?_
  refine q_iload_n rfl rfl ?_
  refine q_iload_n rfl rfl ?_
  refine s_bastore (j := 8) rfl o10 (by decide) rfl (fun h11 o11 f11 => ?_)
  have s11 := s10.put f11
  refine s_iinc (y := 9) (lv' := [(2, .int 9), (3, .int 20), (0, .ref 7), (1, .int 0)]) rfl rfl (by decide) (by decide) rfl ?_
  refine q_goto rfl ?_
  refine q_iload_n rfl rfl ?_
  refine q_iload_n rfl rfl ?_
  refine q_icmp_ge rfl (fun c => absurd c (by decide)) (fun _ => ?_)
  refine q_aload_n rfl rfl ?_
  refine q_iload_n rfl rfl ?_
  refine q_iload_n rfl rfl ?_
  refine s_bastore (j := 9) rfl o11 (by decide) rfl (fun h12 o12 f12 => ?_)
  have s12 := s11.put f12
  refine s_iinc (y := 10) (lv' := [(2, .int 10), (3, .int 20), (0, .ref 7), (1, .int 0)]) rfl rfl (by decide) (by decide) rfl ?_
  refine q_goto rfl ?_
  refine q_iload_n rfl rfl ?_
  refine q_iload_n rfl rfl ?_
  refine q_icmp_ge rfl (fun c => absurd c (by decide)) (fun _ => ?_)
  refine q_aload_n rfl rfl ?_
  refine q_iload_n rfl rfl ?_
  refine q_iload_n rfl rfl ?_
  refine s_bastore (j := 10) rfl o12 (by decide) rfl (fun h13 o13 f13 => ?_)
  have s13 := s12.put f13
  refine s_iinc (y := 11) (lv' := [(2, .int 11), (3, .int 20), (0, .ref 7), (1, .int 0)]) rfl rfl (by decide) (by decide) rfl ?_
  refine q_goto rfl ?_
  refine q_iload_n rfl rfl ?_
  refine q_iload_n rfl rfl ?_
  refine q_icmp_ge rfl (fun c => absurd c (by decide)) (fun _ => ?_)
  refine q_aload_n rfl rfl ?_
  refine q_iload_n rfl rfl ?_
  refine q_iload_n rfl rfl ?_
  refine s_bastore (j := 11) rfl o13 (by decide) rfl (fun h14 o14 f14 => ?_)
  have s14 := s13.put f14
  refine s_iinc (y := 12) (lv' := [(2, .int 12), (3, .int 20), (0, .ref 7), (1, .int 0)]) rfl rfl (by decide) (by decide) rfl ?_
  refine q_goto rfl ?_
  refine q_iload_n rfl rfl ?_
  refine q_iload_n rfl rfl ?_
  refine q_icmp_ge rfl (fun c => absurd c (by decide)) (fun _ => ?_)
  refine q_aload_n rfl rfl ?_
  refine q_iload_n rfl rfl ?_
  refine q_iload_n rfl rfl ?_
  refine s_bastore (j := 12) rfl o14 (by decide) rfl (fun h15 o15 f15 => ?_)
  have s15 := s14.put f15
  refine s_iinc (y := 13) (lv' := [(2, .int 13), (3, .int 20), (0, .ref 7), (1, .int 0)]) rfl rfl (by decide) (by decide) rfl ?_
  refine q_goto rfl ?_
  refine q_iload_n rfl rfl ?_
  refine q_iload_n rfl rfl ?_
  refine q_icmp_ge rfl (fun c => absurd c (by decide)) (fun _ => ?_)
  refine q_aload_n rfl rfl ?_
  refine q_iload_n rfl rfl ?_
  refine q_iload_n rfl rfl ?_
  refine s_bastore (j := 13) rfl o15 (by decide) rfl (fun h16 o16 f16 => ?_)
  have s16 := s15.put f16
  refine s_iinc (y := 14) (lv' := [(2, .int 14), (3, .int 20), (0, .ref 7), (1, .int 0)]) rfl rfl (by decide) (by decide) rfl ?_
  refine q_goto rfl ?_
  refine q_iload_n rfl rfl ?_
  refine q_iload_n rfl rfl ?_
  refine q_icmp_ge rfl (fun c => absurd c (by decide)) (fun _ => ?_)
  refine q_aload_n rfl rfl ?_
  refine q_iload_n rfl rfl ?_
  refine q_iload_n rfl rfl ?_
  refine s_bastore (j := 14) rfl o16 (by decide) rfl (fun h17 o17 f17 => ?_)
  have s17 := s16.put f17
  refine s_iinc (y := 15) (lv' := [(2, .int 15), (3, .int 20), (0, .ref 7), (1, .int 0)]) rfl rfl (by decide) (by decide) rfl ?_
  refine q_goto rfl ?_
  refine q_iload_n rfl rfl ?_
  refine q_iload_n rfl rfl ?_
  refine q_icmp_ge rfl (fun c => absurd c (by decide)) (fun _ => ?_)
  refine q_aload_n rfl rfl ?_
  refine q_iload_n rfl rfl ?_
  refine q_iload_n rfl rfl ?_
  refine s_bastore (j := 15) rfl o17 (by decide) rfl (fun h18 o18 f18 => ?_)
  have s18 := s17.put f18
  refine s_iinc (y := 16) (lv' := [(2, .int 16), (3, .int 20), (0, .ref 7), (1, .int 0)]) rfl rfl (by decide) (by decide) rfl ?_
  refine q_goto rfl ?_
  refine q_iload_n rfl rfl ?_
  refine q_iload_n rfl rfl ?_
  refine q_icmp_ge rfl (fun c => absurd c (by decide)) (fun _ => ?_)
  refine q_aload_n rfl rfl ?_
  refine q_iload_n rfl rfl ?_
  refine q_iload_n rfl rfl ?_
  refine s_bastore (j := 16) rfl o18 (by decide) rfl (fun h19 o19 f19 => ?_)
  have s19 := s18.put f19
  refine s_iinc (y := 17) (lv' := [(2, .int 17), (3, .int 20), (0, .ref 7), (1, .int 0)]) rfl rfl (by decide) (by decide) rfl ?_
  refine q_goto rfl ?_
  refine q_iload_n rfl rfl ?_
  refine q_iload_n rfl rfl ?_
  refine q_icmp_ge rfl (fun c => absurd c (by decide)) (fun _ => ?_)
  refine q_aload_n rfl rfl ?_
  refine q_iload_n rfl rfl ?_
  refine q_iload_n rfl rfl ?_
  refine s_bastore (j := 17) rfl o19 (by decide) rfl (fun h20 o20 f20 => ?_)
  have s20 := s19.put f20
  refine s_iinc (y := 18) (lv' := [(2, .int 18), (3, .int 20), (0, .ref 7), (1, .int 0)]) rfl rfl (by decide) (by decide) rfl ?_
  refine q_goto rfl ?_
  refine q_iload_n rfl rfl ?_
  refine q_iload_n rfl rfl ?_
  refine q_icmp_ge rfl (fun c => absurd c (by decide)) (fun _ => ?_)
  refine q_aload_n rfl rfl ?_
  refine q_iload_n rfl rfl ?_
  refine q_iload_n rfl rfl ?_
  refine s_bastore (j := 18) rfl o20 (by decide) rfl (fun h21 o21 f21 => ?_)
  have s21 := s20.put f21
  refine s_iinc (y := 19) (lv' := [(2, .int 19), (3, .int 20), (0, .ref 7), (1, .int 0)]) rfl rfl (by decide) (by decide) rfl ?_
  refine q_goto rfl ?_
  refine q_iload_n rfl rfl ?_
  refine q_iload_n rfl rfl ?_
  refine q_icmp_ge rfl (fun c => absurd c (by decide)) (fun _ => ?_)
  refine q_aload_n rfl rfl ?_
  refine q_iload_n rfl rfl ?_
  refine q_iload_n rfl rfl ?_
  refine s_bastore (j := 19) rfl o21 (by decide) rfl (fun h22 o22 f22 => ?_)
  have s22 := s21.put f22
  refine s_iinc (y := 20) (lv' := [(2, .int 20), (3, .int 20), (0, .ref 7), (1, .int 0)]) rfl rfl (by decide) (by decide) rfl ?_
  refine q_goto rfl ?_
  refine q_iload_n rfl rfl ?_
  refine q_iload_n rfl rfl ?_
  refine q_icmp_ge rfl (fun _ => ?_) (fun c => absurd (by decide) c)
  refine q_return rfl rfl ?_
  show aW aiP 15 16 637 59 [(0, .ref 6), (1, .int 7)] [] h22 _
  refine q_aload_n rfl rfl ?_
  have e6_22 := ((((((((((((((((((((o2.ne f3 rfl).ne f4 rfl).ne f5 rfl).ne f6 rfl).ne f7 rfl).ne f8 rfl).ne f9 rfl).ne f10 rfl).ne f11 rfl).ne f12 rfl).ne f13 rfl).ne f14 rfl).ne f15 rfl).ne f16 rfl).ne f17 rfl).ne f18 rfl).ne f19 rfl).ne f20 rfl).ne f21 rfl).ne f22 rfl)
  refine s_get (v := .int 7) rfl e6_22 rfl rfl ?_
  refine q_ireturn rfl rfl ?_
  show aW aiP 0 17 658 233 [(4, .int 0), (3, .ref 233), (2, .ref 191), (1, .ref 6), (0, .ref 0)] [.int 7] h22 _
  refine q_aload_n rfl rfl ?_
  refine q_aload_n rfl rfl ?_
  refine q_iload rfl rfl ?_
  refine q_iconst rfl ?_
  refine s_iadd (k := 1) rfl (by decide) ?_
  have e0_22 := (f22.ne rfl (f21.ne rfl (f20.ne rfl (f19.ne rfl (f18.ne rfl (f17.ne rfl (f16.ne rfl (f15.ne rfl (f14.ne rfl (f13.ne rfl (f12.ne rfl (f11.ne rfl (f10.ne rfl (f9.ne rfl (f8.ne rfl (f7.ne rfl (f6.ne rfl (f5.ne rfl (f4.ne rfl (f3.ne rfl (f2.ne rfl (f1.ne rfl e0))))))))))))))))))))))
  refine s_iaload (j := 1) (v := .int (xs 1)) rfl e0_22 (by decide) rfl (by first | rfl | decide) ?_
  rw [hw]
  have e191_22 := ((((((((((((((((((((((e191.ne f1 rfl).ne f2 rfl).ne f3 rfl).ne f4 rfl).ne f5 rfl).ne f6 rfl).ne f7 rfl).ne f8 rfl).ne f9 rfl).ne f10 rfl).ne f11 rfl).ne f12 rfl).ne f13 rfl).ne f14 rfl).ne f15 rfl).ne f16 rfl).ne f17 rfl).ne f18 rfl).ne f19 rfl).ne f20 rfl).ne f21 rfl).ne f22 rfl)
  refine s_callV (as := [.int 7]) (rest := [.int 7]) (d' := 16) (w' := 636) (lv' := [(0, .ref 191), (1, .int 7)]) rfl e191_22 rfl rfl rfl rfl rfl rfl ?_
  refine q_aload_n rfl rfl ?_
  refine q_iconst rfl ?_
  refine s_put (vs' := [.int 0, .ref 192, .ref 193, .int 0, .ref 194, .ref 195, .ref 196, .ref 197, .ref 198, .ref 199, .ref 200, .ref 201, .ref 202, .ref 203, .ref 204, .ref 205, .int (-1), .int 0, .ref 206, .ref 207, .ref 208, .ref 209, .ref 210, .ref 211, .ref 212, .ref 213, .ref 214, .ref 215, .int 0, .int 0, .int 0, .int 0, .ref 216, .ref 217, .ref 218, .ref 219, .ref 220, .int (-1), .int 0, .int 0, .int 0, .int 0, .int 0, .int 0, .ref 221, .ref 222, .ref 223, .ref 224, .int 0, .ref 225, .int 0, .ref 226, .ref 227, .int 0, .ref 228, .ref 229, .ref 230, .ref 231, .ref 232]) rfl e191_22 rfl rfl rfl rfl (fun h23 o23 f23 => ?_)
  have s23 := s22.put f23
  refine q_iload_n rfl rfl ?_
  refine q_if_lt rfl (fun c => absurd c (by decide)) (fun _ => ?_)
  refine q_iload_n rfl rfl ?_
  refine q_bipush rfl ?_
  refine q_icmp_gt rfl (fun c => absurd c (by decide)) (fun _ => ?_)
  refine q_aload_n rfl rfl ?_
  refine s_get (v := .int 0) rfl o23 rfl rfl ?_
  refine q_iload_n rfl rfl ?_
  refine s_iadd (k := 7) rfl (by decide) ?_
  refine q_sipush rfl ?_
  refine q_icmp_le rfl (fun _ => ?_) (fun c => absurd (by decide) c)
  refine q_iconst rfl ?_
  refine s_istore_n (lv' := [(2, .int 0), (0, .ref 191), (1, .int 7)]) rfl (by decide) rfl ?_
  refine q_iload_n rfl rfl ?_
  refine q_iload_n rfl rfl ?_
  refine q_icmp_ge rfl (fun c => absurd c (by decide)) (fun _ => ?_)
  refine q_aload_n rfl rfl ?_
  refine s_get (v := .ref 193) rfl o23 rfl rfl ?_
  refine q_aload_n rfl rfl ?_
  refine s_get (v := .int 0) rfl o23 rfl rfl ?_
  refine q_aload_n rfl rfl ?_
  refine s_get (v := .ref 192) rfl o23 rfl rfl ?_
  refine q_iload_n rfl rfl ?_
  have e192_23 := (f23.ne rfl (f22.ne rfl (f21.ne rfl (f20.ne rfl (f19.ne rfl (f18.ne rfl (f17.ne rfl (f16.ne rfl (f15.ne rfl (f14.ne rfl (f13.ne rfl (f12.ne rfl (f11.ne rfl (f10.ne rfl (f9.ne rfl (f8.ne rfl (f7.ne rfl (f6.ne rfl (f5.ne rfl (f4.ne rfl (f3.ne rfl (f2.ne rfl (f1.ne rfl e192)))))))))))))))))))))))
  refine s_iaload (j := 0) (v := .int 0) rfl e192_23 (by decide) rfl (by first | rfl | decide) ?_
  have e193_23 := (f23.ne rfl (f22.ne rfl (f21.ne rfl (f20.ne rfl (f19.ne rfl (f18.ne rfl (f17.ne rfl (f16.ne rfl (f15.ne rfl (f14.ne rfl (f13.ne rfl (f12.ne rfl (f11.ne rfl (f10.ne rfl (f9.ne rfl (f8.ne rfl (f7.ne rfl (f6.ne rfl (f5.ne rfl (f4.ne rfl (f3.ne rfl (f2.ne rfl (f1.ne rfl e193)))))))))))))))))))))))
  refine s_iastore (j := 0) rfl e193_23 (by decide) rfl (fun h24 o24 f24 => ?_)
  have s24 := s23.put f24
  refine q_aload_n rfl rfl ?_
  refine q_dup rfl rfl ?_
  have e191_24 := (o23.ne f24 rfl)
  refine s_get (v := .int 0) rfl e191_24 rfl rfl ?_
  refine q_iconst rfl ?_
  refine s_iadd (k := 1) rfl (by decide) ?_
  refine s_put (vs' := [.int 0, .ref 192, .ref 193, .int 1, .ref 194, .ref 195, .ref 196, .ref 197, .ref 198, .ref 199, .ref 200, .ref 201, .ref 202, .ref 203, .ref 204, .ref 205, .int (-1), .int 0, .ref 206, .ref 207, .ref 208, .ref 209, .ref 210, .ref 211, .ref 212, .ref 213, .ref 214, .ref 215, .int 0, .int 0, .int 0, .int 0, .ref 216, .ref 217, .ref 218, .ref 219, .ref 220, .int (-1), .int 0, .int 0, .int 0, .int 0, .int 0, .int 0, .ref 221, .ref 222, .ref 223, .ref 224, .int 0, .ref 225, .int 0, .ref 226, .ref 227, .int 0, .ref 228, .ref 229, .ref 230, .ref 231, .ref 232]) rfl e191_24 rfl rfl rfl rfl (fun h25 o25 f25 => ?_)
  have s25 := s24.put f25
  refine s_iinc (y := 1) (lv' := [(2, .int 1), (0, .ref 191), (1, .int 7)]) rfl rfl (by decide) (by decide) rfl ?_
  refine q_goto rfl ?_
  refine q_iload_n rfl rfl ?_
  refine q_iload_n rfl rfl ?_
  refine q_icmp_ge rfl (fun c => absurd c (by decide)) (fun _ => ?_)
  refine q_aload_n rfl rfl ?_
  refine s_get (v := .ref 193) rfl o25 rfl rfl ?_
  refine q_aload_n rfl rfl ?_
  refine s_get (v := .int 1) rfl o25 rfl rfl ?_
  refine q_aload_n rfl rfl ?_
  refine s_get (v := .ref 192) rfl o25 rfl rfl ?_
  refine q_iload_n rfl rfl ?_
  have e192_25 := (f25.ne rfl (f24.ne rfl e192_23))
  refine s_iaload (j := 1) (v := .int 0) rfl e192_25 (by decide) rfl (by first | rfl | decide) ?_
  have e193_25 := (f25.ne rfl o24)
  refine s_iastore (j := 1) rfl e193_25 (by decide) rfl (fun h26 o26 f26 => ?_)
  have s26 := s25.put f26
  refine q_aload_n rfl rfl ?_
  refine q_dup rfl rfl ?_
  have e191_26 := (o25.ne f26 rfl)
  refine s_get (v := .int 1) rfl e191_26 rfl rfl ?_
  refine q_iconst rfl ?_
  refine s_iadd (k := 2) rfl (by decide) ?_
  refine s_put (vs' := [.int 0, .ref 192, .ref 193, .int 2, .ref 194, .ref 195, .ref 196, .ref 197, .ref 198, .ref 199, .ref 200, .ref 201, .ref 202, .ref 203, .ref 204, .ref 205, .int (-1), .int 0, .ref 206, .ref 207, .ref 208, .ref 209, .ref 210, .ref 211, .ref 212, .ref 213, .ref 214, .ref 215, .int 0, .int 0, .int 0, .int 0, .ref 216, .ref 217, .ref 218, .ref 219, .ref 220, .int (-1), .int 0, .int 0, .int 0, .int 0, .int 0, .int 0, .ref 221, .ref 222, .ref 223, .ref 224, .int 0, .ref 225, .int 0, .ref 226, .ref 227, .int 0, .ref 228, .ref 229, .ref 230, .ref 231, .ref 232]) rfl e191_26 rfl rfl rfl rfl (fun h27 o27 f27 => ?_)
  have s27 := s26.put f27
  refine s_iinc (y := 2) (lv' := [(2, .int 2), (0, .ref 191), (1, .int 7)]) rfl rfl (by decide) (by decide) rfl ?_
  refine q_goto rfl ?_
  refine q_iload_n rfl rfl ?_
  refine q_iload_n rfl rfl ?_
  refine q_icmp_ge rfl (fun c => absurd c (by decide)) (fun _ => ?_)
  refine q_aload_n rfl rfl ?_
  refine s_get (v := .ref 193) rfl o27 rfl rfl ?_
  refine q_aload_n rfl rfl ?_
  refine s_get (v := .int 2) rfl o27 rfl rfl ?_
  refine q_aload_n rfl rfl ?_
  refine s_get (v := .ref 192) rfl o27 rfl rfl ?_
  refine q_iload_n rfl rfl ?_
  have e192_27 := (f27.ne rfl (f26.ne rfl e192_25))
  refine s_iaload (j := 2) (v := .int 0) rfl e192_27 (by decide) rfl (by first | rfl | decide) ?_
  have e193_27 := (f27.ne rfl o26)
  refine s_iastore (j := 2) rfl e193_27 (by decide) rfl (fun h28 o28 f28 => ?_)
  have s28 := s27.put f28
  refine q_aload_n rfl rfl ?_
  refine q_dup rfl rfl ?_
  have e191_28 := (o27.ne f28 rfl)
  refine s_get (v := .int 2) rfl e191_28 rfl rfl ?_
  refine q_iconst rfl ?_
  refine s_iadd (k := 3) rfl (by decide) ?_
  refine s_put (vs' := [.int 0, .ref 192, .ref 193, .int 3, .ref 194, .ref 195, .ref 196, .ref 197, .ref 198, .ref 199, .ref 200, .ref 201, .ref 202, .ref 203, .ref 204, .ref 205, .int (-1), .int 0, .ref 206, .ref 207, .ref 208, .ref 209, .ref 210, .ref 211, .ref 212, .ref 213, .ref 214, .ref 215, .int 0, .int 0, .int 0, .int 0, .ref 216, .ref 217, .ref 218, .ref 219, .ref 220, .int (-1), .int 0, .int 0, .int 0, .int 0, .int 0, .int 0, .ref 221, .ref 222, .ref 223, .ref 224, .int 0, .ref 225, .int 0, .ref 226, .ref 227, .int 0, .ref 228, .ref 229, .ref 230, .ref 231, .ref 232]) rfl e191_28 rfl rfl rfl rfl (fun h29 o29 f29 => ?_)
  have s29 := s28.put f29
  refine s_iinc (y := 3) (lv' := [(2, .int 3), (0, .ref 191), (1, .int 7)]) rfl rfl (by decide) (by decide) rfl ?_
  refine q_goto rfl ?_
  refine q_iload_n rfl rfl ?_
  refine q_iload_n rfl rfl ?_
  refine q_icmp_ge rfl (fun c => absurd c (by decide)) (fun _ => ?_)
  refine q_aload_n rfl rfl ?_
  refine s_get (v := .ref 193) rfl o29 rfl rfl ?_
  refine q_aload_n rfl rfl ?_
  refine s_get (v := .int 3) rfl o29 rfl rfl ?_
  refine q_aload_n rfl rfl ?_
  refine s_get (v := .ref 192) rfl o29 rfl rfl ?_
  refine q_iload_n rfl rfl ?_
  have e192_29 := (f29.ne rfl (f28.ne rfl e192_27))
  refine s_iaload (j := 3) (v := .int 0) rfl e192_29 (by decide) rfl (by first | rfl | decide) ?_
  have e193_29 := (f29.ne rfl o28)
  refine s_iastore (j := 3) rfl e193_29 (by decide) rfl (fun h30 o30 f30 => ?_)
  have s30 := s29.put f30
  refine q_aload_n rfl rfl ?_
  refine q_dup rfl rfl ?_
  have e191_30 := (o29.ne f30 rfl)
  refine s_get (v := .int 3) rfl e191_30 rfl rfl ?_
  refine q_iconst rfl ?_
  refine s_iadd (k := 4) rfl (by decide) ?_
  refine s_put (vs' := [.int 0, .ref 192, .ref 193, .int 4, .ref 194, .ref 195, .ref 196, .ref 197, .ref 198, .ref 199, .ref 200, .ref 201, .ref 202, .ref 203, .ref 204, .ref 205, .int (-1), .int 0, .ref 206, .ref 207, .ref 208, .ref 209, .ref 210, .ref 211, .ref 212, .ref 213, .ref 214, .ref 215, .int 0, .int 0, .int 0, .int 0, .ref 216, .ref 217, .ref 218, .ref 219, .ref 220, .int (-1), .int 0, .int 0, .int 0, .int 0, .int 0, .int 0, .ref 221, .ref 222, .ref 223, .ref 224, .int 0, .ref 225, .int 0, .ref 226, .ref 227, .int 0, .ref 228, .ref 229, .ref 230, .ref 231, .ref 232]) rfl e191_30 rfl rfl rfl rfl (fun h31 o31 f31 => ?_)
  have s31 := s30.put f31
  refine s_iinc (y := 4) (lv' := [(2, .int 4), (0, .ref 191), (1, .int 7)]) rfl rfl (by decide) (by decide) rfl ?_
  refine q_goto rfl ?_
  refine q_iload_n rfl rfl ?_
  refine q_iload_n rfl rfl ?_
  refine q_icmp_ge rfl (fun c => absurd c (by decide)) (fun _ => ?_)
  refine q_aload_n rfl rfl ?_
  refine s_get (v := .ref 193) rfl o31 rfl rfl ?_
  refine q_aload_n rfl rfl ?_
  refine s_get (v := .int 4) rfl o31 rfl rfl ?_
  refine q_aload_n rfl rfl ?_
  refine s_get (v := .ref 192) rfl o31 rfl rfl ?_
  refine q_iload_n rfl rfl ?_
  have e192_31 := (f31.ne rfl (f30.ne rfl e192_29))
  refine s_iaload (j := 4) (v := .int 0) rfl e192_31 (by decide) rfl (by first | rfl | decide) ?_
  have e193_31 := (f31.ne rfl o30)
  refine s_iastore (j := 4) rfl e193_31 (by decide) rfl (fun h32 o32 f32 => ?_)
  have s32 := s31.put f32
  refine q_aload_n rfl rfl ?_
  refine q_dup rfl rfl ?_
  have e191_32 := (o31.ne f32 rfl)
  refine s_get (v := .int 4) rfl e191_32 rfl rfl ?_
  refine q_iconst rfl ?_
  refine s_iadd (k := 5) rfl (by decide) ?_
  refine s_put (vs' := [.int 0, .ref 192, .ref 193, .int 5, .ref 194, .ref 195, .ref 196, .ref 197, .ref 198, .ref 199, .ref 200, .ref 201, .ref 202, .ref 203, .ref 204, .ref 205, .int (-1), .int 0, .ref 206, .ref 207, .ref 208, .ref 209, .ref 210, .ref 211, .ref 212, .ref 213, .ref 214, .ref 215, .int 0, .int 0, .int 0, .int 0, .ref 216, .ref 217, .ref 218, .ref 219, .ref 220, .int (-1), .int 0, .int 0, .int 0, .int 0, .int 0, .int 0, .ref 221, .ref 222, .ref 223, .ref 224, .int 0, .ref 225, .int 0, .ref 226, .ref 227, .int 0, .ref 228, .ref 229, .ref 230, .ref 231, .ref 232]) rfl e191_32 rfl rfl rfl rfl (fun h33 o33 f33 => ?_)
  have s33 := s32.put f33
  refine s_iinc (y := 5) (lv' := [(2, .int 5), (0, .ref 191), (1, .int 7)]) rfl rfl (by decide) (by decide) rfl ?_
  refine q_goto rfl ?_
  refine q_iload_n rfl rfl ?_
  refine q_iload_n rfl rfl ?_
  refine q_icmp_ge rfl (fun c => absurd c (by decide)) (fun _ => ?_)
  refine q_aload_n rfl rfl ?_
  refine s_get (v := .ref 193) rfl o33 rfl rfl ?_
  refine q_aload_n rfl rfl ?_
  refine s_get (v := .int 5) rfl o33 rfl rfl ?_
  refine q_aload_n rfl rfl ?_
  refine s_get (v := .ref 192) rfl o33 rfl rfl ?_
  refine q_iload_n rfl rfl ?_
  have e192_33 := (f33.ne rfl (f32.ne rfl e192_31))
  refine s_iaload (j := 5) (v := .int 0) rfl e192_33 (by decide) rfl (by first | rfl | decide) ?_
  have e193_33 := (f33.ne rfl o32)
  refine s_iastore (j := 5) rfl e193_33 (by decide) rfl (fun h34 o34 f34 => ?_)
  have s34 := s33.put f34
  refine q_aload_n rfl rfl ?_
  refine q_dup rfl rfl ?_
  have e191_34 := (o33.ne f34 rfl)
  refine s_get (v := .int 5) rfl e191_34 rfl rfl ?_
  refine q_iconst rfl ?_
  refine s_iadd (k := 6) rfl (by decide) ?_
  refine s_put (vs' := [.int 0, .ref 192, .ref 193, .int 6, .ref 194, .ref 195, .ref 196, .ref 197, .ref 198, .ref 199, .ref 200, .ref 201, .ref 202, .ref 203, .ref 204, .ref 205, .int (-1), .int 0, .ref 206, .ref 207, .ref 208, .ref 209, .ref 210, .ref 211, .ref 212, .ref 213, .ref 214, .ref 215, .int 0, .int 0, .int 0, .int 0, .ref 216, .ref 217, .ref 218, .ref 219, .ref 220, .int (-1), .int 0, .int 0, .int 0, .int 0, .int 0, .int 0, .ref 221, .ref 222, .ref 223, .ref 224, .int 0, .ref 225, .int 0, .ref 226, .ref 227, .int 0, .ref 228, .ref 229, .ref 230, .ref 231, .ref 232]) rfl e191_34 rfl rfl rfl rfl (fun h35 o35 f35 => ?_)
  have s35 := s34.put f35
  refine s_iinc (y := 6) (lv' := [(2, .int 6), (0, .ref 191), (1, .int 7)]) rfl rfl (by decide) (by decide) rfl ?_
  refine q_goto rfl ?_
  refine q_iload_n rfl rfl ?_
  refine q_iload_n rfl rfl ?_
  refine q_icmp_ge rfl (fun c => absurd c (by decide)) (fun _ => ?_)
  refine q_aload_n rfl rfl ?_
  refine s_get (v := .ref 193) rfl o35 rfl rfl ?_
  refine q_aload_n rfl rfl ?_
  refine s_get (v := .int 6) rfl o35 rfl rfl ?_
  refine q_aload_n rfl rfl ?_
  refine s_get (v := .ref 192) rfl o35 rfl rfl ?_
  refine q_iload_n rfl rfl ?_
  have e192_35 := (f35.ne rfl (f34.ne rfl e192_33))
  refine s_iaload (j := 6) (v := .int 0) rfl e192_35 (by decide) rfl (by first | rfl | decide) ?_
  have e193_35 := (f35.ne rfl o34)
  refine s_iastore (j := 6) rfl e193_35 (by decide) rfl (fun h36 o36 f36 => ?_)
  have s36 := s35.put f36
  refine q_aload_n rfl rfl ?_
  refine q_dup rfl rfl ?_
  have e191_36 := (o35.ne f36 rfl)
  refine s_get (v := .int 6) rfl e191_36 rfl rfl ?_
  refine q_iconst rfl ?_
  refine s_iadd (k := 7) rfl (by decide) ?_
  refine s_put (vs' := [.int 0, .ref 192, .ref 193, .int 7, .ref 194, .ref 195, .ref 196, .ref 197, .ref 198, .ref 199, .ref 200, .ref 201, .ref 202, .ref 203, .ref 204, .ref 205, .int (-1), .int 0, .ref 206, .ref 207, .ref 208, .ref 209, .ref 210, .ref 211, .ref 212, .ref 213, .ref 214, .ref 215, .int 0, .int 0, .int 0, .int 0, .ref 216, .ref 217, .ref 218, .ref 219, .ref 220, .int (-1), .int 0, .int 0, .int 0, .int 0, .int 0, .int 0, .ref 221, .ref 222, .ref 223, .ref 224, .int 0, .ref 225, .int 0, .ref 226, .ref 227, .int 0, .ref 228, .ref 229, .ref 230, .ref 231, .ref 232]) rfl e191_36 rfl rfl rfl rfl (fun h37 o37 f37 => ?_)
  have s37 := s36.put f37
  refine s_iinc (y := 7) (lv' := [(2, .int 7), (0, .ref 191), (1, .int 7)]) rfl rfl (by decide) (by decide) rfl ?_
  refine q_goto rfl ?_
  refine q_iload_n rfl rfl ?_
  refine q_iload_n rfl rfl ?_
  refine q_icmp_ge rfl (fun _ => ?_) (fun c => absurd (by decide) c)
  refine q_iconst rfl ?_
  refine s_istore_n (lv' := [(2, .int 0), (0, .ref 191), (1, .int 7)]) rfl (by decide) rfl ?_
  refine q_iload_n rfl rfl ?_
  refine q_bipush rfl ?_
  refine q_icmp_ge rfl (fun c => absurd c (by decide)) (fun _ => ?_)
  refine q_aload_n rfl rfl ?_
  refine s_get (v := .ref 192) rfl o37 rfl rfl ?_
  refine q_iload_n rfl rfl ?_
  refine q_iconst rfl ?_
  have e192_37 := (f37.ne rfl (f36.ne rfl e192_35))
  refine s_iastore (j := 0) rfl e192_37 (by decide) rfl (fun h38 o38 f38 => ?_)
  have s38 := s37.put f38
  refine s_iinc (y := 1) (lv' := [(2, .int 1), (0, .ref 191), (1, .int 7)]) rfl rfl (by decide) (by decide) rfl ?_
  refine q_goto rfl ?_
  refine q_iload_n rfl rfl ?_
  refine q_bipush rfl ?_
  refine q_icmp_ge rfl (fun c => absurd c (by decide)) (fun _ => ?_)
  refine q_aload_n rfl rfl ?_
  have e191_38 := (o37.ne f38 rfl)
  refine s_get (v := .ref 192) rfl e191_38 rfl rfl ?_
  refine q_iload_n rfl rfl ?_
  refine q_iconst rfl ?_
  refine s_iastore (j := 1) rfl o38 (by decide) rfl (fun h39 o39 f39 => ?_)
  have s39 := s38.put f39
  refine s_iinc (y := 2) (lv' := [(2, .int 2), (0, .ref 191), (1, .int 7)]) rfl rfl (by decide) (by decide) rfl ?_
  refine q_goto rfl ?_
  refine q_iload_n rfl rfl ?_
  refine q_bipush rfl ?_
  refine q_icmp_ge rfl (fun c => absurd c (by decide)) (fun _ => ?_)
  refine q_aload_n rfl rfl ?_
  have e191_39 := (e191_38.ne f39 rfl)
  refine s_get (v := .ref 192) rfl e191_39 rfl rfl ?_
  refine q_iload_n rfl rfl ?_
  refine q_iconst rfl ?_
  refine s_iastore (j := 2) rfl o39 (by decide) rfl (fun h40 o40 f40 => ?_)
  have s40 := s39.put f40
  refine s_iinc (y := 3) (lv' := [(2, .int 3), (0, .ref 191), (1, .int 7)]) rfl rfl (by decide) (by decide) rfl ?_
  refine q_goto rfl ?_
  refine q_iload_n rfl rfl ?_
  refine q_bipush rfl ?_
  refine q_icmp_ge rfl (fun c => absurd c (by decide)) (fun _ => ?_)
  refine q_aload_n rfl rfl ?_
  have e191_40 := (e191_39.ne f40 rfl)
  refine s_get (v := .ref 192) rfl e191_40 rfl rfl ?_
  refine q_iload_n rfl rfl ?_
  refine q_iconst rfl ?_
  refine s_iastore (j := 3) rfl o40 (by decide) rfl (fun h41 o41 f41 => ?_)
  have s41 := s40.put f41
  refine s_iinc (y := 4) (lv' := [(2, .int 4), (0, .ref 191), (1, .int 7)]) rfl rfl (by decide) (by decide) rfl ?_
  refine q_goto rfl ?_
  refine q_iload_n rfl rfl ?_
  refine q_bipush rfl ?_
  refine q_icmp_ge rfl (fun c => absurd c (by decide)) (fun _ => ?_)
  refine q_aload_n rfl rfl ?_
  have e191_41 := (e191_40.ne f41 rfl)
  refine s_get (v := .ref 192) rfl e191_41 rfl rfl ?_
  refine q_iload_n rfl rfl ?_
  refine q_iconst rfl ?_
  refine s_iastore (j := 4) rfl o41 (by decide) rfl (fun h42 o42 f42 => ?_)
  have s42 := s41.put f42
  refine s_iinc (y := 5) (lv' := [(2, .int 5), (0, .ref 191), (1, .int 7)]) rfl rfl (by decide) (by decide) rfl ?_
  refine q_goto rfl ?_
  refine q_iload_n rfl rfl ?_
  refine q_bipush rfl ?_
  refine q_icmp_ge rfl (fun c => absurd c (by decide)) (fun _ => ?_)
  refine q_aload_n rfl rfl ?_
  have e191_42 := (e191_41.ne f42 rfl)
  refine s_get (v := .ref 192) rfl e191_42 rfl rfl ?_
  refine q_iload_n rfl rfl ?_
  refine q_iconst rfl ?_
  refine s_iastore (j := 5) rfl o42 (by decide) rfl (fun h43 o43 f43 => ?_)
  have s43 := s42.put f43
  refine s_iinc (y := 6) (lv' := [(2, .int 6), (0, .ref 191), (1, .int 7)]) rfl rfl (by decide) (by decide) rfl ?_
  refine q_goto rfl ?_
  refine q_iload_n rfl rfl ?_
  refine q_bipush rfl ?_
  refine q_icmp_ge rfl (fun c => absurd c (by decide)) (fun _ => ?_)
  refine q_aload_n rfl rfl ?_
  have e191_43 := (e191_42.ne f43 rfl)
  refine s_get (v := .ref 192) rfl e191_43 rfl rfl ?_
  refine q_iload_n rfl rfl ?_
  refine q_iconst rfl ?_
  refine s_iastore (j := 6) rfl o43 (by decide) rfl (fun h44 o44 f44 => ?_)
  have s44 := s43.put f44
  refine s_iinc (y := 7) (lv' := [(2, .int 7), (0, .ref 191), (1, .int 7)]) rfl rfl (by decide) (by decide) rfl ?_
  refine q_goto rfl ?_
  refine q_iload_n rfl rfl ?_
  refine q_bipush rfl ?_
  refine q_icmp_ge rfl (fun c => absurd c (by decide)) (fun _ => ?_)
  refine q_aload_n rfl rfl ?_
  have e191_44 := (e191_43.ne f44 rfl)
  refine s_get (v := .ref 192) rfl e191_44 rfl rfl ?_
  refine q_iload_n rfl rfl ?_
  refine q_iconst rfl ?_
  refine s_iastore (j := 7) rfl o44 (by decide) rfl (fun h45 o45 f45 => ?_)
  have s45 := s44.put f45
  refine s_iinc (y := 8) (lv' := [(2, .int 8), (0, .ref 191), (1, .int 7)]) rfl rfl (by decide) (by decide) rfl ?_
  refine q_goto rfl ?_
  refine q_iload_n rfl rfl ?_
  refine q_bipush rfl ?_
  refine q_icmp_ge rfl (fun c => absurd c (by decide)) (fun _ => ?_)
  refine q_aload_n rfl rfl ?_
  have e191_45 := (e191_44.ne f45 rfl)
  refine s_get (v := .ref 192) rfl e191_45 rfl rfl ?_
  refine q_iload_n rfl rfl ?_
  refine q_iconst rfl ?_
  refine s_iastore (j := 8) rfl o45 (by decide) rfl (fun h46 o46 f46 => ?_)
  have s46 := s45.put f46
  refine s_iinc (y := 9) (lv' := [(2, .int 9), (0, .ref 191), (1, .int 7)]) rfl rfl (by decide) (by decide) rfl ?_
  refine q_goto rfl ?_
  refine q_iload_n rfl rfl ?_
  refine q_bipush rfl ?_
  refine q_icmp_ge rfl (fun c => absurd c (by decide)) (fun _ => ?_)
  refine q_aload_n rfl rfl ?_
  have e191_46 := (e191_45.ne f46 rfl)
  refine s_get (v := .ref 192) rfl e191_46 rfl rfl ?_
  refine q_iload_n rfl rfl ?_
  refine q_iconst rfl ?_
  refine s_iastore (j := 9) rfl o46 (by decide) rfl (fun h47 o47 f47 => ?_)
  have s47 := s46.put f47
  refine s_iinc (y := 10) (lv' := [(2, .int 10), (0, .ref 191), (1, .int 7)]) rfl rfl (by decide) (by decide) rfl ?_
  refine q_goto rfl ?_
  refine q_iload_n rfl rfl ?_
  refine q_bipush rfl ?_
  refine q_icmp_ge rfl (fun c => absurd c (by decide)) (fun _ => ?_)
  refine q_aload_n rfl rfl ?_
  have e191_47 := (e191_46.ne f47 rfl)
  refine s_get (v := .ref 192) rfl e191_47 rfl rfl ?_
  refine q_iload_n rfl rfl ?_
  refine q_iconst rfl ?_
  refine s_iastore (j := 10) rfl o47 (by decide) rfl (fun h48 o48 f48 => ?_)
  have s48 := s47.put f48
  refine s_iinc (y := 11) (lv' := [(2, .int 11), (0, .ref 191), (1, .int 7)]) rfl rfl (by decide) (by decide) rfl ?_
  refine q_goto rfl ?_
  refine q_iload_n rfl rfl ?_
  refine q_bipush rfl ?_
  refine q_icmp_ge rfl (fun c => absurd c (by decide)) (fun _ => ?_)
  refine q_aload_n rfl rfl ?_
  have e191_48 := (e191_47.ne f48 rfl)
  refine s_get (v := .ref 192) rfl e191_48 rfl rfl ?_
  refine q_iload_n rfl rfl ?_
  refine q_iconst rfl ?_
  refine s_iastore (j := 11) rfl o48 (by decide) rfl (fun h49 o49 f49 => ?_)
  have s49 := s48.put f49
  refine s_iinc (y := 12) (lv' := [(2, .int 12), (0, .ref 191), (1, .int 7)]) rfl rfl (by decide) (by decide) rfl ?_
  refine q_goto rfl ?_
  refine q_iload_n rfl rfl ?_
  refine q_bipush rfl ?_
  refine q_icmp_ge rfl (fun c => absurd c (by decide)) (fun _ => ?_)
  refine q_aload_n rfl rfl ?_
  have e191_49 := (e191_48.ne f49 rfl)
  refine s_get (v := .ref 192) rfl e191_49 rfl rfl ?_
  refine q_iload_n rfl rfl ?_
  refine q_iconst rfl ?_
  refine s_iastore (j := 12) rfl o49 (by decide) rfl (fun h50 o50 f50 => ?_)
  have s50 := s49.put f50
  refine s_iinc (y := 13) (lv' := [(2, .int 13), (0, .ref 191), (1, .int 7)]) rfl rfl (by decide) (by decide) rfl ?_
  refine q_goto rfl ?_
  refine q_iload_n rfl rfl ?_
  refine q_bipush rfl ?_
  refine q_icmp_ge rfl (fun c => absurd c (by decide)) (fun _ => ?_)
  refine q_aload_n rfl rfl ?_
  have e191_50 := (e191_49.ne f50 rfl)
  refine s_get (v := .ref 192) rfl e191_50 rfl rfl ?_
  refine q_iload_n rfl rfl ?_
  refine q_iconst rfl ?_
  refine s_iastore (j := 13) rfl o50 (by decide) rfl (fun h51 o51 f51 => ?_)
  have s51 := s50.put f51
  refine s_iinc (y := 14) (lv' := [(2, .int 14), (0, .ref 191), (1, .int 7)]) rfl rfl (by decide) (by decide) rfl ?_
  refine q_goto rfl ?_
  refine q_iload_n rfl rfl ?_
  refine q_bipush rfl ?_
  refine q_icmp_ge rfl (fun c => absurd c (by decide)) (fun _ => ?_)
  refine q_aload_n rfl rfl ?_
  have e191_51 := (e191_50.ne f51 rfl)
  refine s_get (v := .ref 192) rfl e191_51 rfl rfl ?_
  refine q_iload_n rfl rfl ?_
  refine q_iconst rfl ?_
  refine s_iastore (j := 14) rfl o51 (by decide) rfl (fun h52 o52 f52 => ?_)
  have s52 := s51.put f52
  refine s_iinc (y := 15) (lv' := [(2, .int 15), (0, .ref 191), (1, .int 7)]) rfl rfl (by decide) (by decide) rfl ?_
  refine q_goto rfl ?_
  refine q_iload_n rfl rfl ?_
  refine q_bipush rfl ?_
  refine q_icmp_ge rfl (fun c => absurd c (by decide)) (fun _ => ?_)
  refine q_aload_n rfl rfl ?_
  have e191_52 := (e191_51.ne f52 rfl)
  refine s_get (v := .ref 192) rfl e191_52 rfl rfl ?_
  refine q_iload_n rfl rfl ?_
  refine q_iconst rfl ?_
  refine s_iastore (j := 15) rfl o52 (by decide) rfl (fun h53 o53 f53 => ?_)
  have s53 := s52.put f53
  refine s_iinc (y := 16) (lv' := [(2, .int 16), (0, .ref 191), (1, .int 7)]) rfl rfl (by decide) (by decide) rfl ?_
  refine q_goto rfl ?_
  refine q_iload_n rfl rfl ?_
  refine q_bipush rfl ?_
  refine q_icmp_ge rfl (fun c => absurd c (by decide)) (fun _ => ?_)
  refine q_aload_n rfl rfl ?_
  have e191_53 := (e191_52.ne f53 rfl)
  refine s_get (v := .ref 192) rfl e191_53 rfl rfl ?_
  refine q_iload_n rfl rfl ?_
  refine q_iconst rfl ?_
  refine s_iastore (j := 16) rfl o53 (by decide) rfl (fun h54 o54 f54 => ?_)
  have s54 := s53.put f54
  refine s_iinc (y := 17) (lv' := [(2, .int 17), (0, .ref 191), (1, .int 7)]) rfl rfl (by decide) (by decide) rfl ?_
  refine q_goto rfl ?_
  refine q_iload_n rfl rfl ?_
  refine q_bipush rfl ?_
  refine q_icmp_ge rfl (fun c => absurd c (by decide)) (fun _ => ?_)
  refine q_aload_n rfl rfl ?_
  have e191_54 := (e191_53.ne f54 rfl)
  refine s_get (v := .ref 192) rfl e191_54 rfl rfl ?_
  refine q_iload_n rfl rfl ?_
  refine q_iconst rfl ?_
  refine s_iastore (j := 17) rfl o54 (by decide) rfl (fun h55 o55 f55 => ?_)
  have s55 := s54.put f55
  refine s_iinc (y := 18) (lv' := [(2, .int 18), (0, .ref 191), (1, .int 7)]) rfl rfl (by decide) (by decide) rfl ?_
  refine q_goto rfl ?_
  refine q_iload_n rfl rfl ?_
  refine q_bipush rfl ?_
  refine q_icmp_ge rfl (fun c => absurd c (by decide)) (fun _ => ?_)
  refine q_aload_n rfl rfl ?_
  have e191_55 := (e191_54.ne f55 rfl)
  refine s_get (v := .ref 192) rfl e191_55 rfl rfl ?_
  refine q_iload_n rfl rfl ?_
  refine q_iconst rfl ?_
  refine s_iastore (j := 18) rfl o55 (by decide) rfl (fun h56 o56 f56 => ?_)
  have s56 := s55.put f56
  refine s_iinc (y := 19) (lv' := [(2, .int 19), (0, .ref 191), (1, .int 7)]) rfl rfl (by decide) (by decide) rfl ?_
  refine q_goto rfl ?_
  refine q_iload_n rfl rfl ?_
  refine q_bipush rfl ?_
  refine q_icmp_ge rfl (fun c => absurd c (by decide)) (fun _ => ?_)
  refine q_aload_n rfl rfl ?_
  have e191_56 := (e191_55.ne f56 rfl)
  refine s_get (v := .ref 192) rfl e191_56 rfl rfl ?_
  refine q_iload_n rfl rfl ?_
  refine q_iconst rfl ?_
  refine s_iastore (j := 19) rfl o56 (by decide) rfl (fun h57 o57 f57 => ?_)
  have s57 := s56.put f57
  refine s_iinc (y := 20) (lv' := [(2, .int 20), (0, .ref 191), (1, .int 7)]) rfl rfl (by decide) (by decide) rfl ?_
  refine q_goto rfl ?_
  refine q_iload_n rfl rfl ?_
  refine q_bipush rfl ?_
  refine q_icmp_ge rfl (fun _ => ?_) (fun c => absurd (by decide) c)
  refine q_aload_n rfl rfl ?_
  have e191_57 := (e191_56.ne f57 rfl)
  refine s_get (v := .int 7) rfl e191_57 rfl rfl ?_
  refine q_ireturn rfl rfl ?_
  show aW aiP 0 17 658 243 [(4, .int 0), (3, .ref 233), (2, .ref 191), (1, .ref 6), (0, .ref 0)] [.int 7, .int 7] h57 _
  refine q_icmp_eq rfl (fun _ => ?_) (fun c => absurd (by decide) c)
  refine s_iinc (y := 6) (lv' := [(4, .int 6), (3, .ref 233), (2, .ref 191), (1, .ref 6), (0, .ref 0)]) rfl rfl (by decide) (by decide) rfl ?_
  refine q_goto rfl ?_
  refine q_iload rfl rfl ?_
  refine q_aload_n rfl rfl ?_
  have e0_57 := (f57.ne rfl (f56.ne rfl (f55.ne rfl (f54.ne rfl (f53.ne rfl (f52.ne rfl (f51.ne rfl (f50.ne rfl (f49.ne rfl (f48.ne rfl (f47.ne rfl (f46.ne rfl (f45.ne rfl (f44.ne rfl (f43.ne rfl (f42.ne rfl (f41.ne rfl (f40.ne rfl (f39.ne rfl (f38.ne rfl (f37.ne rfl (f36.ne rfl (f35.ne rfl (f34.ne rfl (f33.ne rfl (f32.ne rfl (f31.ne rfl (f30.ne rfl (f29.ne rfl (f28.ne rfl (f27.ne rfl (f26.ne rfl (f25.ne rfl (f24.ne rfl (f23.ne rfl e0_22)))))))))))))))))))))))))))))))))))
  refine s_alen (x := 6) rfl e0_57 rfl (by decide) ?_
  refine q_bipush rfl ?_
  refine s_isub (k := 0) rfl (by decide) ?_
  refine q_icmp_gt rfl (fun _ => ?_) (fun c => absurd (by decide) c)
  refine q_iconst rfl ?_
  refine q_ireturn rfl rfl ?_
  exact ⟨rfl, s57.bd rfl⟩
set_option maxRecDepth 20000 in
set_option maxHeartbeats 4000000 in
theorem p_case1_8 {xs : Nat → Int32} {h : ai_H} (F : Fresh 6 xs h) (hk : xs 0 &&& 31 = 1) (hw : xs 1 = 8) : aW aiP 0 17 658 33 [(4, .int 0), (3, .ref 233), (2, .ref 191), (1, .ref 6), (0, .ref 0)] [] h p_Q := by
  obtain ⟨e0, e1, ⟨g2, e2⟩, ⟨g3, e3⟩, ⟨g4, e4⟩, e5, e6, e7, e8, e9, e51, e93, e135, e177, e178, e179, e180, e181, e182, e183, e184, e185, e186, e187, e188, e189, e190, e191, e192, e193, e194, e195, e196, e197, e198, e199, e200, e201, e202, e203, e204, e205, e206, e207, e208, e209, e210, e211, e212, e213, e214, e215, e216, e217, e218, e219, e220, e221, e222, e223, e224, e225, e226, e227, ⟨g228, e228⟩, ⟨g229, e229⟩, e230, e231, e232, e233, s0⟩ := F
  refine q_aload_n rfl rfl ?_
  refine q_iload rfl rfl ?_
  refine s_iaload (j := 0) (v := .int (xs 0)) rfl e0 (by decide) rfl (by first | rfl | decide) ?_
  refine q_bipush rfl ?_
  refine s_iand (k := ((xs 0) &&& (31 : Int32))) rfl rfl ?_
  rw [hk]
  show aW aiP 0 17 658 40 [(4, .int 0), (3, .ref 233), (2, .ref 191), (1, .ref 6), (0, .ref 0)] [.int 1] h _
  refine s_sw (tg := 223) rfl rfl ?_
  refine q_aload_n rfl rfl ?_
  refine q_aload_n rfl rfl ?_
  refine q_iload rfl rfl ?_
  refine q_iconst rfl ?_
  refine s_iadd (k := 1) rfl (by decide) ?_
  refine s_iaload (j := 1) (v := .int (xs 1)) rfl e0 (by decide) rfl (by first | rfl | decide) ?_
  rw [hw]
  refine s_callV (as := [.int 8]) (rest := []) (d' := 16) (w' := 637) (lv' := [(0, .ref 6), (1, .int 8)]) rfl e6 rfl rfl rfl rfl rfl rfl ?_
  refine q_iload_n rfl rfl ?_
  refine q_if_lt rfl (fun c => absurd c (by decide)) (fun _ => ?_)
  refine q_iload_n rfl rfl ?_
  refine q_bipush rfl ?_
  refine q_icmp_gt rfl (fun c => absurd c (by decide)) (fun _ => ?_)
  refine q_aload_n rfl rfl ?_
  refine s_get (v := .int 0) rfl e6 rfl rfl ?_
  refine q_iload_n rfl rfl ?_
  refine s_iadd (k := 8) rfl (by decide) ?_
  refine q_sipush rfl ?_
  refine q_icmp_le rfl (fun _ => ?_) (fun c => absurd (by decide) c)
  refine q_aload_n rfl rfl ?_
  refine s_get (v := .ref 7) rfl e6 rfl rfl ?_
  refine q_iconst rfl ?_
  refine q_aload_n rfl rfl ?_
  refine s_get (v := .ref 8) rfl e6 rfl rfl ?_
  refine q_aload_n rfl rfl ?_
  refine s_get (v := .int 0) rfl e6 rfl rfl ?_
  refine q_iload_n rfl rfl ?_
  refine s_copy (sp := 0) (dp := 0) (k := 8) rfl e7 e8 (by decide) (by decide) (by decide) rfl (by decide) (by decide) (by decide) (fun i _ => rfl) (fun h1 o1 f1 => ?_)
  have s1 := s0.put f1
  refine q_aload_n rfl rfl ?_
  refine q_dup rfl rfl ?_
  have e6_1 := (e6.ne f1 rfl)
  refine s_get (v := .int 0) rfl e6_1 rfl rfl ?_
  refine q_iload_n rfl rfl ?_
  refine s_iadd (k := 8) rfl (by decide) ?_
  refine s_put (vs' := [.ref 7, .ref 8, .int 8, .ref 9, .int (-1), .ref 51, .ref 93, .ref 135, .ref 177, .ref 180, .int 0, .ref 183, .ref 186, .ref 189]) rfl e6_1 rfl rfl rfl rfl (fun h2 o2 f2 => ?_)
  have s2 := s1.put f2
  refine q_aload_n rfl rfl ?_
  refine s_get (v := .ref 7) rfl o2 rfl rfl ?_
  refine q_iconst rfl ?_
  refine s_callS (as := [.ref 7, .int 0]) (rest := []) (d' := 15) (w' := 614) (lv' := [(0, .ref 7), (1, .int 0)]) rfl rfl rfl rfl rfl rfl rfl rfl ?_
  refine q_iconst rfl ?_
  refine s_istore_n (lv' := [(2, .int 0), (0, .ref 7), (1, .int 0)]) rfl (by decide) rfl ?_
  refine q_aload_n rfl rfl ?_
  have e7_2 := (f2.ne rfl (f1.ne rfl e7))
  refine s_alen (x := 20) rfl e7_2 rfl (by decide) ?_
  refine s_istore_n (lv' := [(3, .int 20), (2, .int 0), (0, .ref 7), (1, .int 0)]) rfl (by decide) rfl ?_
  refine q_iload_n rfl rfl ?_
  refine q_iload_n rfl rfl ?_
  refine q_icmp_ge rfl (fun c => absurd c (by decide)) (fun _ => ?_)
  refine q_aload_n rfl rfl ?_
  refine q_iload_n rfl rfl ?_
  refine q_iload_n rfl rfl ?_
  refine s_bastore (j := 0) rfl e7_2 (by decide) rfl (fun h3 o3 f3 => ?_)
  have s3 := s2.put f3
  refine s_iinc (y := 1) (lv' := [(2, .int 1), (3, .int 20), (0, .ref 7), (1, .int 0)]) rfl rfl (by decide) (by decide) rfl ?_
  refine q_goto rfl ?_
  refine q_iload_n rfl rfl ?_
  refine q_iload_n rfl rfl ?_
  refine q_icmp_ge rfl (fun c => absurd c (by decide)) (fun _ => ?_)
  refine q_aload_n rfl rfl ?_
  refine q_iload_n rfl rfl ?_
  refine q_iload_n rfl rfl ?_
  refine s_bastore (j := 1) rfl o3 (by decide) rfl (fun h4 o4 f4 => ?_)
  have s4 := s3.put f4
  refine s_iinc (y := 2) (lv' := [(2, .int 2), (3, .int 20), (0, .ref 7), (1, .int 0)]) rfl rfl (by decide) (by decide) rfl ?_
  refine q_goto rfl ?_
  refine q_iload_n rfl rfl ?_
  refine q_iload_n rfl rfl ?_
  refine q_icmp_ge rfl (fun c => absurd c (by decide)) (fun _ => ?_)
  refine q_aload_n rfl rfl ?_
  refine q_iload_n rfl rfl ?_
  refine q_iload_n rfl rfl ?_
  refine s_bastore (j := 2) rfl o4 (by decide) rfl (fun h5 o5 f5 => ?_)
  have s5 := s4.put f5
  refine s_iinc (y := 3) (lv' := [(2, .int 3), (3, .int 20), (0, .ref 7), (1, .int 0)]) rfl rfl (by decide) (by decide) rfl ?_
  refine q_goto rfl ?_
  refine q_iload_n rfl rfl ?_
  refine q_iload_n rfl rfl ?_
  refine q_icmp_ge rfl (fun c => absurd c (by decide)) (fun _ => ?_)
  refine q_aload_n rfl rfl ?_
  refine q_iload_n rfl rfl ?_
  refine q_iload_n rfl rfl ?_
  refine s_bastore (j := 3) rfl o5 (by decide) rfl (fun h6 o6 f6 => ?_)
  have s6 := s5.put f6
  refine s_iinc (y := 4) (lv' := [(2, .int 4), (3, .int 20), (0, .ref 7), (1, .int 0)]) rfl rfl (by decide) (by decide) rfl ?_
  refine q_goto rfl ?_
  refine q_iload_n rfl rfl ?_
  refine q_iload_n rfl rfl ?_
  refine q_icmp_ge rfl (fun c => absurd c (by decide)) (fun _ => ?_)
  refine q_aload_n rfl rfl ?_
  refine q_iload_n rfl rfl ?_
  refine q_iload_n rfl rfl ?_
  refine s_bastore (j := 4) rfl o6 (by decide) rfl (fun h7 o7 f7 => ?_)
  have s7 := s6.put f7
  refine s_iinc (y := 5) (lv' := [(2, .int 5), (3, .int 20), (0, .ref 7), (1, .int 0)]) rfl rfl (by decide) (by decide) rfl ?_
  refine q_goto rfl ?_
  refine q_iload_n rfl rfl ?_
  refine q_iload_n rfl rfl ?_
  refine q_icmp_ge rfl (fun c => absurd c (by decide)) (fun _ => ?_)
  refine q_aload_n rfl rfl ?_
  refine q_iload_n rfl rfl ?_
  refine q_iload_n rfl rfl ?_
  refine s_bastore (j := 5) rfl o7 (by decide) rfl (fun h8 o8 f8 => ?_)
  have s8 := s7.put f8
  refine s_iinc (y := 6) (lv' := [(2, .int 6), (3, .int 20), (0, .ref 7), (1, .int 0)]) rfl rfl (by decide) (by decide) rfl ?_
  refine q_goto rfl ?_
  refine q_iload_n rfl rfl ?_
  refine q_iload_n rfl rfl ?_
  refine q_icmp_ge rfl (fun c => absurd c (by decide)) (fun _ => ?_)
  refine q_aload_n rfl rfl ?_
  refine q_iload_n rfl rfl ?_
  refine q_iload_n rfl rfl ?_
  refine s_bastore (j := 6) rfl o8 (by decide) rfl (fun h9 o9 f9 => ?_)
  have s9 := s8.put f9
  refine s_iinc (y := 7) (lv' := [(2, .int 7), (3, .int 20), (0, .ref 7), (1, .int 0)]) rfl rfl (by decide) (by decide) rfl ?_
  refine q_goto rfl ?_
  refine q_iload_n rfl rfl ?_
  refine q_iload_n rfl rfl ?_
  refine q_icmp_ge rfl (fun c => absurd c (by decide)) (fun _ => ?_)
  refine q_aload_n rfl rfl ?_
  refine q_iload_n rfl rfl ?_
  refine q_iload_n rfl rfl ?_
  refine s_bastore (j := 7) rfl o9 (by decide) rfl (fun h10 o10 f10 => ?_)
  have s10 := s9.put f10
  refine s_iinc (y := 8) (lv' := [(2, .int 8), (3, .int 20), (0, .ref 7), (1, .int 0)]) rfl rfl (by decide) (by decide) rfl ?_
  refine q_goto rfl ?_
  refine q_iload_n rfl rfl ?_
  refine q_iload_n rfl rfl ?_
  refine q_icmp_ge rfl (fun c => absurd c (by decide)) (fun _ => ?_)
  refine q_aload_n rfl rfl ?_
  refine q_iload_n rfl rfl ?_
  refine q_iload_n rfl rfl ?_
  refine s_bastore (j := 8) rfl o10 (by decide) rfl (fun h11 o11 f11 => ?_)
  have s11 := s10.put f11
  refine s_iinc (y := 9) (lv' := [(2, .int 9), (3, .int 20), (0, .ref 7), (1, .int 0)]) rfl rfl (by decide) (by decide) rfl ?_
  refine q_goto rfl ?_
  refine q_iload_n rfl rfl ?_
  refine q_iload_n rfl rfl ?_
  refine q_icmp_ge rfl (fun c => absurd c (by decide)) (fun _ => ?_)
  refine q_aload_n rfl rfl ?_
  refine q_iload_n rfl rfl ?_
  refine q_iload_n rfl rfl ?_
  refine s_bastore (j := 9) rfl o11 (by decide) rfl (fun h12 o12 f12 => ?_)
  have s12 := s11.put f12
  refine s_iinc (y := 10) (lv' := [(2, .int 10), (3, .int 20), (0, .ref 7), (1, .int 0)]) rfl rfl (by decide) (by decide) rfl ?_
  refine q_goto rfl ?_
  refine q_iload_n rfl rfl ?_
  refine q_iload_n rfl rfl ?_
  refine q_icmp_ge rfl (fun c => absurd c (by decide)) (fun _ => ?_)
  refine q_aload_n rfl rfl ?_
  refine q_iload_n rfl rfl ?_
  refine q_iload_n rfl rfl ?_
  refine s_bastore (j := 10) rfl o12 (by decide) rfl (fun h13 o13 f13 => ?_)
  have s13 := s12.put f13
  refine s_iinc (y := 11) (lv' := [(2, .int 11), (3, .int 20), (0, .ref 7), (1, .int 0)]) rfl rfl (by decide) (by decide) rfl ?_
  refine q_goto rfl ?_
  refine q_iload_n rfl rfl ?_
  refine q_iload_n rfl rfl ?_
  refine q_icmp_ge rfl (fun c => absurd c (by decide)) (fun _ => ?_)
  refine q_aload_n rfl rfl ?_
  refine q_iload_n rfl rfl ?_
  refine q_iload_n rfl rfl ?_
  refine s_bastore (j := 11) rfl o13 (by decide) rfl (fun h14 o14 f14 => ?_)
  have s14 := s13.put f14
  refine s_iinc (y := 12) (lv' := [(2, .int 12), (3, .int 20), (0, .ref 7), (1, .int 0)]) rfl rfl (by decide) (by decide) rfl ?_
  refine q_goto rfl ?_
  refine q_iload_n rfl rfl ?_
  refine q_iload_n rfl rfl ?_
  refine q_icmp_ge rfl (fun c => absurd c (by decide)) (fun _ => ?_)
  refine q_aload_n rfl rfl ?_
  refine q_iload_n rfl rfl ?_
  refine q_iload_n rfl rfl ?_
  refine s_bastore (j := 12) rfl o14 (by decide) rfl (fun h15 o15 f15 => ?_)
  have s15 := s14.put f15
  refine s_iinc (y := 13) (lv' := [(2, .int 13), (3, .int 20), (0, .ref 7), (1, .int 0)]) rfl rfl (by decide) (by decide) rfl ?_
  refine q_goto rfl ?_
  refine q_iload_n rfl rfl ?_
  refine q_iload_n rfl rfl ?_
  refine q_icmp_ge rfl (fun c => absurd c (by decide)) (fun _ => ?_)
  refine q_aload_n rfl rfl ?_
  refine q_iload_n rfl rfl ?_
  refine q_iload_n rfl rfl ?_
  refine s_bastore (j := 13) rfl o15 (by decide) rfl (fun h16 o16 f16 => ?_)
  have s16 := s15.put f16
  refine s_iinc (y := 14) (lv' := [(2, .int 14), (3, .int 20), (0, .ref 7), (1, .int 0)]) rfl rfl (by decide) (by decide) rfl ?_
  refine q_goto rfl ?_
  refine q_iload_n rfl rfl ?_
  refine q_iload_n rfl rfl ?_
  refine q_icmp_ge rfl (fun c => absurd c (by decide)) (fun _ => ?_)
  refine q_aload_n rfl rfl ?_
  refine q_iload_n rfl rfl ?_
  refine q_iload_n rfl rfl ?_
  refine s_bastore (j := 14) rfl o16 (by decide) rfl (fun h17 o17 f17 => ?_)
  have s17 := s16.put f17
  refine s_iinc (y := 15) (lv' := [(2, .int 15), (3, .int 20), (0, .ref 7), (1, .int 0)]) rfl rfl (by decide) (by decide) rfl ?_
  refine q_goto rfl ?_
  refine q_iload_n rfl rfl ?_
  refine q_iload_n rfl rfl ?_
  refine q_icmp_ge rfl (fun c => absurd c (by decide)) (fun _ => ?_)
  refine q_aload_n rfl rfl ?_
  refine q_iload_n rfl rfl ?_
  refine q_iload_n rfl rfl ?_
  refine s_bastore (j := 15) rfl o17 (by decide) rfl (fun h18 o18 f18 => ?_)
  have s18 := s17.put f18
  refine s_iinc (y := 16) (lv' := [(2, .int 16), (3, .int 20), (0, .ref 7), (1, .int 0)]) rfl rfl (by decide) (by decide) rfl ?_
  refine q_goto rfl ?_
  refine q_iload_n rfl rfl ?_
  refine q_iload_n rfl rfl ?_
  refine q_icmp_ge rfl (fun c => absurd c (by decide)) (fun _ => ?_)
  refine q_aload_n rfl rfl ?_
  refine q_iload_n rfl rfl ?_
  refine q_iload_n rfl rfl ?_
  refine s_bastore (j := 16) rfl o18 (by decide) rfl (fun h19 o19 f19 => ?_)
  have s19 := s18.put f19
  refine s_iinc (y := 17) (lv' := [(2, .int 17), (3, .int 20), (0, .ref 7), (1, .int 0)]) rfl rfl (by decide) (by decide) rfl ?_
  refine q_goto rfl ?_
  refine q_iload_n rfl rfl ?_
  refine q_iload_n rfl rfl ?_
  refine q_icmp_ge rfl (fun c => absurd c (by decide)) (fun _ => ?_)
  refine q_aload_n rfl rfl ?_
  refine q_iload_n rfl rfl ?_
  refine q_iload_n rfl rfl ?_
  refine s_bastore (j := 17) rfl o19 (by decide) rfl (fun h20 o20 f20 => ?_)
  have s20 := s19.put f20
  refine s_iinc (y := 18) (lv' := [(2, .int 18), (3, .int 20), (0, .ref 7), (1, .int 0)]) rfl rfl (by decide) (by decide) rfl ?_
  refine q_goto rfl ?_
  refine q_iload_n rfl rfl ?_
  refine q_iload_n rfl rfl ?_
  refine q_icmp_ge rfl (fun c => absurd c (by decide)) (fun _ => ?_)
  refine q_aload_n rfl rfl ?_
  refine q_iload_n rfl rfl ?_
  refine q_iload_n rfl rfl ?_
  refine s_bastore (j := 18) rfl o20 (by decide) rfl (fun h21 o21 f21 => ?_)
  have s21 := s20.put f21
  refine s_iinc (y := 19) (lv' := [(2, .int 19), (3, .int 20), (0, .ref 7), (1, .int 0)]) rfl rfl (by decide) (by decide) rfl ?_
  refine q_goto rfl ?_
  refine q_iload_n rfl rfl ?_
  refine q_iload_n rfl rfl ?_
  refine q_icmp_ge rfl (fun c => absurd c (by decide)) (fun _ => ?_)
  refine q_aload_n rfl rfl ?_
  refine q_iload_n rfl rfl ?_
  refine q_iload_n rfl rfl ?_
  refine s_bastore (j := 19) rfl o21 (by decide) rfl (fun h22 o22 f22 => ?_)
  have s22 := s21.put f22
  refine s_iinc (y := 20) (lv' := [(2, .int 20), (3, .int 20), (0, .ref 7), (1, .int 0)]) rfl rfl (by decide) (by decide) rfl ?_
  refine q_goto rfl ?_
  refine q_iload_n rfl rfl ?_
  refine q_iload_n rfl rfl ?_
  refine q_icmp_ge rfl (fun _ => ?_) (fun c => absurd (by decide) c)
  refine q_return rfl rfl ?_
  show aW aiP 15 16 637 59 [(0, .ref 6), (1, .int 8)] [] h22 _
  refine q_aload_n rfl rfl ?_
  have e6_22 := ((((((((((((((((((((o2.ne f3 rfl).ne f4 rfl).ne f5 rfl).ne f6 rfl).ne f7 rfl).ne f8 rfl).ne f9 rfl).ne f10 rfl).ne f11 rfl).ne f12 rfl).ne f13 rfl).ne f14 rfl).ne f15 rfl).ne f16 rfl).ne f17 rfl).ne f18 rfl).ne f19 rfl).ne f20 rfl).ne f21 rfl).ne f22 rfl)
  refine s_get (v := .int 8) rfl e6_22 rfl rfl ?_
  refine q_ireturn rfl rfl ?_
  show aW aiP 0 17 658 233 [(4, .int 0), (3, .ref 233), (2, .ref 191), (1, .ref 6), (0, .ref 0)] [.int 8] h22 _
  refine q_aload_n rfl rfl ?_
  refine q_aload_n rfl rfl ?_
  refine q_iload rfl rfl ?_
  refine q_iconst rfl ?_
  refine s_iadd (k := 1) rfl (by decide) ?_
  have e0_22 := (f22.ne rfl (f21.ne rfl (f20.ne rfl (f19.ne rfl (f18.ne rfl (f17.ne rfl (f16.ne rfl (f15.ne rfl (f14.ne rfl (f13.ne rfl (f12.ne rfl (f11.ne rfl (f10.ne rfl (f9.ne rfl (f8.ne rfl (f7.ne rfl (f6.ne rfl (f5.ne rfl (f4.ne rfl (f3.ne rfl (f2.ne rfl (f1.ne rfl e0))))))))))))))))))))))
  refine s_iaload (j := 1) (v := .int (xs 1)) rfl e0_22 (by decide) rfl (by first | rfl | decide) ?_
  rw [hw]
  have e191_22 := ((((((((((((((((((((((e191.ne f1 rfl).ne f2 rfl).ne f3 rfl).ne f4 rfl).ne f5 rfl).ne f6 rfl).ne f7 rfl).ne f8 rfl).ne f9 rfl).ne f10 rfl).ne f11 rfl).ne f12 rfl).ne f13 rfl).ne f14 rfl).ne f15 rfl).ne f16 rfl).ne f17 rfl).ne f18 rfl).ne f19 rfl).ne f20 rfl).ne f21 rfl).ne f22 rfl)
  refine s_callV (as := [.int 8]) (rest := [.int 8]) (d' := 16) (w' := 636) (lv' := [(0, .ref 191), (1, .int 8)]) rfl e191_22 rfl rfl rfl rfl rfl rfl ?_
  refine q_aload_n rfl rfl ?_
  refine q_iconst rfl ?_
  refine s_put (vs' := [.int 0, .ref 192, .ref 193, .int 0, .ref 194, .ref 195, .ref 196, .ref 197, .ref 198, .ref 199, .ref 200, .ref 201, .ref 202, .ref 203, .ref 204, .ref 205, .int (-1), .int 0, .ref 206, .ref 207, .ref 208, .ref 209, .ref 210, .ref 211, .ref 212, .ref 213, .ref 214, .ref 215, .int 0, .int 0, .int 0, .int 0, .ref 216, .ref 217, .ref 218, .ref 219, .ref 220, .int (-1), .int 0, .int 0, .int 0, .int 0, .int 0, .int 0, .ref 221, .ref 222, .ref 223, .ref 224, .int 0, .ref 225, .int 0, .ref 226, .ref 227, .int 0, .ref 228, .ref 229, .ref 230, .ref 231, .ref 232]) rfl e191_22 rfl rfl rfl rfl (fun h23 o23 f23 => ?_)
  have s23 := s22.put f23
  refine q_iload_n rfl rfl ?_
  refine q_if_lt rfl (fun c => absurd c (by decide)) (fun _ => ?_)
  refine q_iload_n rfl rfl ?_
  refine q_bipush rfl ?_
  refine q_icmp_gt rfl (fun c => absurd c (by decide)) (fun _ => ?_)
  refine q_aload_n rfl rfl ?_
  refine s_get (v := .int 0) rfl o23 rfl rfl ?_
  refine q_iload_n rfl rfl ?_
  refine s_iadd (k := 8) rfl (by decide) ?_
  refine q_sipush rfl ?_
  refine q_icmp_le rfl (fun _ => ?_) (fun c => absurd (by decide) c)
  refine q_iconst rfl ?_
  refine s_istore_n (lv' := [(2, .int 0), (0, .ref 191), (1, .int 8)]) rfl (by decide) rfl ?_
  refine q_iload_n rfl rfl ?_
  refine q_iload_n rfl rfl ?_
  refine q_icmp_ge rfl (fun c => absurd c (by decide)) (fun _ => ?_)
  refine q_aload_n rfl rfl ?_
  refine s_get (v := .ref 193) rfl o23 rfl rfl ?_
  refine q_aload_n rfl rfl ?_
  refine s_get (v := .int 0) rfl o23 rfl rfl ?_
  refine q_aload_n rfl rfl ?_
  refine s_get (v := .ref 192) rfl o23 rfl rfl ?_
  refine q_iload_n rfl rfl ?_
  have e192_23 := (f23.ne rfl (f22.ne rfl (f21.ne rfl (f20.ne rfl (f19.ne rfl (f18.ne rfl (f17.ne rfl (f16.ne rfl (f15.ne rfl (f14.ne rfl (f13.ne rfl (f12.ne rfl (f11.ne rfl (f10.ne rfl (f9.ne rfl (f8.ne rfl (f7.ne rfl (f6.ne rfl (f5.ne rfl (f4.ne rfl (f3.ne rfl (f2.ne rfl (f1.ne rfl e192)))))))))))))))))))))))
  refine s_iaload (j := 0) (v := .int 0) rfl e192_23 (by decide) rfl (by first | rfl | decide) ?_
  have e193_23 := (f23.ne rfl (f22.ne rfl (f21.ne rfl (f20.ne rfl (f19.ne rfl (f18.ne rfl (f17.ne rfl (f16.ne rfl (f15.ne rfl (f14.ne rfl (f13.ne rfl (f12.ne rfl (f11.ne rfl (f10.ne rfl (f9.ne rfl (f8.ne rfl (f7.ne rfl (f6.ne rfl (f5.ne rfl (f4.ne rfl (f3.ne rfl (f2.ne rfl (f1.ne rfl e193)))))))))))))))))))))))
  refine s_iastore (j := 0) rfl e193_23 (by decide) rfl (fun h24 o24 f24 => ?_)
  have s24 := s23.put f24
  refine q_aload_n rfl rfl ?_
  refine q_dup rfl rfl ?_
  have e191_24 := (o23.ne f24 rfl)
  refine s_get (v := .int 0) rfl e191_24 rfl rfl ?_
  refine q_iconst rfl ?_
  refine s_iadd (k := 1) rfl (by decide) ?_
  refine s_put (vs' := [.int 0, .ref 192, .ref 193, .int 1, .ref 194, .ref 195, .ref 196, .ref 197, .ref 198, .ref 199, .ref 200, .ref 201, .ref 202, .ref 203, .ref 204, .ref 205, .int (-1), .int 0, .ref 206, .ref 207, .ref 208, .ref 209, .ref 210, .ref 211, .ref 212, .ref 213, .ref 214, .ref 215, .int 0, .int 0, .int 0, .int 0, .ref 216, .ref 217, .ref 218, .ref 219, .ref 220, .int (-1), .int 0, .int 0, .int 0, .int 0, .int 0, .int 0, .ref 221, .ref 222, .ref 223, .ref 224, .int 0, .ref 225, .int 0, .ref 226, .ref 227, .int 0, .ref 228, .ref 229, .ref 230, .ref 231, .ref 232]) rfl e191_24 rfl rfl rfl rfl (fun h25 o25 f25 => ?_)
  have s25 := s24.put f25
  refine s_iinc (y := 1) (lv' := [(2, .int 1), (0, .ref 191), (1, .int 8)]) rfl rfl (by decide) (by decide) rfl ?_
  refine q_goto rfl ?_
  refine q_iload_n rfl rfl ?_
  refine q_iload_n rfl rfl ?_
  refine q_icmp_ge rfl (fun c => absurd c (by decide)) (fun _ => ?_)
  refine q_aload_n rfl rfl ?_
  refine s_get (v := .ref 193) rfl o25 rfl rfl ?_
  refine q_aload_n rfl rfl ?_
  refine s_get (v := .int 1) rfl o25 rfl rfl ?_
  refine q_aload_n rfl rfl ?_
  refine s_get (v := .ref 192) rfl o25 rfl rfl ?_
  refine q_iload_n rfl rfl ?_
  have e192_25 := (f25.ne rfl (f24.ne rfl e192_23))
  refine s_iaload (j := 1) (v := .int 0) rfl e192_25 (by decide) rfl (by first | rfl | decide) ?_
  have e193_25 := (f25.ne rfl o24)
  refine s_iastore (j := 1) rfl e193_25 (by decide) rfl (fun h26 o26 f26 => ?_)
  have s26 := s25.put f26
  refine q_aload_n rfl rfl ?_
  refine q_dup rfl rfl ?_
  have e191_26 := (o25.ne f26 rfl)
  refine s_get (v := .int 1) rfl e191_26 rfl rfl ?_
  refine q_iconst rfl ?_
  refine s_iadd (k := 2) rfl (by decide) ?_
  refine s_put (vs' := [.int 0, .ref 192, .ref 193, .int 2, .ref 194, .ref 195, .ref 196, .ref 197, .ref 198, .ref 199, .ref 200, .ref 201, .ref 202, .ref 203, .ref 204, .ref 205, .int (-1), .int 0, .ref 206, .ref 207, .ref 208, .ref 209, .ref 210, .ref 211, .ref 212, .ref 213, .ref 214, .ref 215, .int 0, .int 0, .int 0, .int 0, .ref 216, .ref 217, .ref 218, .ref 219, .ref 220, .int (-1), .int 0, .int 0, .int 0, .int 0, .int 0, .int 0, .ref 221, .ref 222, .ref 223, .ref 224, .int 0, .ref 225, .int 0, .ref 226, .ref 227, .int 0, .ref 228, .ref 229, .ref 230, .ref 231, .ref 232]) rfl e191_26 rfl rfl rfl rfl (fun h27 o27 f27 => ?_)
  have s27 := s26.put f27
  refine s_iinc (y := 2) (lv' := [(2, .int 2), (0, .ref 191), (1, .int 8)]) rfl rfl (by decide) (by decide) rfl ?_
  refine q_goto rfl ?_
  refine q_iload_n rfl rfl ?_
  refine q_iload_n rfl rfl ?_
  refine q_icmp_ge rfl (fun c => absurd c (by decide)) (fun _ => ?_)
  refine q_aload_n rfl rfl ?_
  refine s_get (v := .ref 193) rfl o27 rfl rfl ?_
  refine q_aload_n rfl rfl ?_
  refine s_get (v := .int 2) rfl o27 rfl rfl ?_
  refine q_aload_n rfl rfl ?_
  refine s_get (v := .ref 192) rfl o27 rfl rfl ?_
  refine q_iload_n rfl rfl ?_
  have e192_27 := (f27.ne rfl (f26.ne rfl e192_25))
  refine s_iaload (j := 2) (v := .int 0) rfl e192_27 (by decide) rfl (by first | rfl | decide) ?_
  have e193_27 := (f27.ne rfl o26)
  refine s_iastore (j := 2) rfl e193_27 (by decide) rfl (fun h28 o28 f28 => ?_)
  have s28 := s27.put f28
  refine q_aload_n rfl rfl ?_
  refine q_dup rfl rfl ?_
  have e191_28 := (o27.ne f28 rfl)
  refine s_get (v := .int 2) rfl e191_28 rfl rfl ?_
  refine q_iconst rfl ?_
  refine s_iadd (k := 3) rfl (by decide) ?_
  refine s_put (vs' := [.int 0, .ref 192, .ref 193, .int 3, .ref 194, .ref 195, .ref 196, .ref 197, .ref 198, .ref 199, .ref 200, .ref 201, .ref 202, .ref 203, .ref 204, .ref 205, .int (-1), .int 0, .ref 206, .ref 207, .ref 208, .ref 209, .ref 210, .ref 211, .ref 212, .ref 213, .ref 214, .ref 215, .int 0, .int 0, .int 0, .int 0, .ref 216, .ref 217, .ref 218, .ref 219, .ref 220, .int (-1), .int 0, .int 0, .int 0, .int 0, .int 0, .int 0, .ref 221, .ref 222, .ref 223, .ref 224, .int 0, .ref 225, .int 0, .ref 226, .ref 227, .int 0, .ref 228, .ref 229, .ref 230, .ref 231, .ref 232]) rfl e191_28 rfl rfl rfl rfl (fun h29 o29 f29 => ?_)
  have s29 := s28.put f29
  refine s_iinc (y := 3) (lv' := [(2, .int 3), (0, .ref 191), (1, .int 8)]) rfl rfl (by decide) (by decide) rfl ?_
  refine q_goto rfl ?_
  refine q_iload_n rfl rfl ?_
  refine q_iload_n rfl rfl ?_
  refine q_icmp_ge rfl (fun c => absurd c (by decide)) (fun _ => ?_)
  refine q_aload_n rfl rfl ?_
  refine s_get (v := .ref 193) rfl o29 rfl rfl ?_
  refine q_aload_n rfl rfl ?_
  refine s_get (v := .int 3) rfl o29 rfl rfl ?_
  refine q_aload_n rfl rfl ?_
  refine s_get (v := .ref 192) rfl o29 rfl rfl ?_
  refine q_iload_n rfl rfl ?_
  have e192_29 := (f29.ne rfl (f28.ne rfl e192_27))
  refine s_iaload (j := 3) (v := .int 0) rfl e192_29 (by decide) rfl (by first | rfl | decide) ?_
  have e193_29 := (f29.ne rfl o28)
  refine s_iastore (j := 3) rfl e193_29 (by decide) rfl (fun h30 o30 f30 => ?_)
  have s30 := s29.put f30
  refine q_aload_n rfl rfl ?_
  refine q_dup rfl rfl ?_
  have e191_30 := (o29.ne f30 rfl)
  refine s_get (v := .int 3) rfl e191_30 rfl rfl ?_
  refine q_iconst rfl ?_
  refine s_iadd (k := 4) rfl (by decide) ?_
  refine s_put (vs' := [.int 0, .ref 192, .ref 193, .int 4, .ref 194, .ref 195, .ref 196, .ref 197, .ref 198, .ref 199, .ref 200, .ref 201, .ref 202, .ref 203, .ref 204, .ref 205, .int (-1), .int 0, .ref 206, .ref 207, .ref 208, .ref 209, .ref 210, .ref 211, .ref 212, .ref 213, .ref 214, .ref 215, .int 0, .int 0, .int 0, .int 0, .ref 216, .ref 217, .ref 218, .ref 219, .ref 220, .int (-1), .int 0, .int 0, .int 0, .int 0, .int 0, .int 0, .ref 221, .ref 222, .ref 223, .ref 224, .int 0, .ref 225, .int 0, .ref 226, .ref 227, .int 0, .ref 228, .ref 229, .ref 230, .ref 231, .ref 232]) rfl e191_30 rfl rfl rfl rfl (fun h31 o31 f31 => ?_)
  have s31 := s30.put f31
  refine s_iinc (y := 4) (lv' := [(2, .int 4), (0, .ref 191), (1, .int 8)]) rfl rfl (by decide) (by decide) rfl ?_
  refine q_goto rfl ?_
  refine q_iload_n rfl rfl ?_
  refine q_iload_n rfl rfl ?_
  refine q_icmp_ge rfl (fun c => absurd c (by decide)) (fun _ => ?_)
  refine q_aload_n rfl rfl ?_
  refine s_get (v := .ref 193) rfl o31 rfl rfl ?_
  refine q_aload_n rfl rfl ?_
  refine s_get (v := .int 4) rfl o31 rfl rfl ?_
  refine q_aload_n rfl rfl ?_
  refine s_get (v := .ref 192) rfl o31 rfl rfl ?_
  refine q_iload_n rfl rfl ?_
  have e192_31 := (f31.ne rfl (f30.ne rfl e192_29))
  refine s_iaload (j := 4) (v := .int 0) rfl e192_31 (by decide) rfl (by first | rfl | decide) ?_
  have e193_31 := (f31.ne rfl o30)
  refine s_iastore (j := 4) rfl e193_31 (by decide) rfl (fun h32 o32 f32 => ?_)
  have s32 := s31.put f32
  refine q_aload_n rfl rfl ?_
  refine q_dup rfl rfl ?_
  have e191_32 := (o31.ne f32 rfl)
  refine s_get (v := .int 4) rfl e191_32 rfl rfl ?_
  refine q_iconst rfl ?_
  refine s_iadd (k := 5) rfl (by decide) ?_
  refine s_put (vs' := [.int 0, .ref 192, .ref 193, .int 5, .ref 194, .ref 195, .ref 196, .ref 197, .ref 198, .ref 199, .ref 200, .ref 201, .ref 202, .ref 203, .ref 204, .ref 205, .int (-1), .int 0, .ref 206, .ref 207, .ref 208, .ref 209, .ref 210, .ref 211, .ref 212, .ref 213, .ref 214, .ref 215, .int 0, .int 0, .int 0, .int 0, .ref 216, .ref 217, .ref 218, .ref 219, .ref 220, .int (-1), .int 0, .int 0, .int 0, .int 0, .int 0, .int 0, .ref 221, .ref 222, .ref 223, .ref 224, .int 0, .ref 225, .int 0, .ref 226, .ref 227, .int 0, .ref 228, .ref 229, .ref 230, .ref 231, .ref 232]) rfl e191_32 rfl rfl rfl rfl (fun h33 o33 f33 => ?_)
  have s33 := s32.put f33
  refine s_iinc (y := 5) (lv' := [(2, .int 5), (0, .ref 191), (1, .int 8)]) rfl rfl (by decide) (by decide) rfl ?_
  refine q_goto rfl ?_
  refine q_iload_n rfl rfl ?_
  refine q_iload_n rfl rfl ?_
  refine q_icmp_ge rfl (fun c => absurd c (by decide)) (fun _ => ?_)
  refine q_aload_n rfl rfl ?_
  refine s_get (v := .ref 193) rfl o33 rfl rfl ?_
  refine q_aload_n rfl rfl ?_
  refine s_get (v := .int 5) rfl o33 rfl rfl ?_
  refine q_aload_n rfl rfl ?_
  refine s_get (v := .ref 192) rfl o33 rfl rfl ?_
  refine q_iload_n rfl rfl ?_
  have e192_33 := (f33.ne rfl (f32.ne rfl e192_31))
  refine s_iaload (j := 5) (v := .int 0) rfl e192_33 (by decide) rfl (by first | rfl | decide) ?_
  have e193_33 := (f33.ne rfl o32)
  refine s_iastore (j := 5) rfl e193_33 (by decide) rfl (fun h34 o34 f34 => ?_)
  have s34 := s33.put f34
  refine q_aload_n rfl rfl ?_
  refine q_dup rfl rfl ?_
  have e191_34 := (o33.ne f34 rfl)
  refine s_get (v := .int 5) rfl e191_34 rfl rfl ?_
  refine q_iconst rfl ?_
  refine s_iadd (k := 6) rfl (by decide) ?_
  refine s_put (vs' := [.int 0, .ref 192, .ref 193, .int 6, .ref 194, .ref 195, .ref 196, .ref 197, .ref 198, .ref 199, .ref 200, .ref 201, .ref 202, .ref 203, .ref 204, .ref 205, .int (-1), .int 0, .ref 206, .ref 207, .ref 208, .ref 209, .ref 210, .ref 211, .ref 212, .ref 213, .ref 214, .ref 215, .int 0, .int 0, .int 0, .int 0, .ref 216, .ref 217, .ref 218, .ref 219, .ref 220, .int (-1), .int 0, .int 0, .int 0, .int 0, .int 0, .int 0, .ref 221, .ref 222, .ref 223, .ref 224, .int 0, .ref 225, .int 0, .ref 226, .ref 227, .int 0, .ref 228, .ref 229, .ref 230, .ref 231, .ref 232]) rfl e191_34 rfl rfl rfl rfl (fun h35 o35 f35 => ?_)
  have s35 := s34.put f35
  refine s_iinc (y := 6) (lv' := [(2, .int 6), (0, .ref 191), (1, .int 8)]) rfl rfl (by decide) (by decide) rfl ?_
  refine q_goto rfl ?_
  refine q_iload_n rfl rfl ?_
  refine q_iload_n rfl rfl ?_
  refine q_icmp_ge rfl (fun c => absurd c (by decide)) (fun _ => ?_)
  refine q_aload_n rfl rfl ?_
  refine s_get (v := .ref 193) rfl o35 rfl rfl ?_
  refine q_aload_n rfl rfl ?_
  refine s_get (v := .int 6) rfl o35 rfl rfl ?_
  refine q_aload_n rfl rfl ?_
  refine s_get (v := .ref 192) rfl o35 rfl rfl ?_
  refine q_iload_n rfl rfl ?_
  have e192_35 := (f35.ne rfl (f34.ne rfl e192_33))
  refine s_iaload (j := 6) (v := .int 0) rfl e192_35 (by decide) rfl (by first | rfl | decide) ?_
  have e193_35 := (f35.ne rfl o34)
  refine s_iastore (j := 6) rfl e193_35 (by decide) rfl (fun h36 o36 f36 => ?_)
  have s36 := s35.put f36
  refine q_aload_n rfl rfl ?_
  refine q_dup rfl rfl ?_
  have e191_36 := (o35.ne f36 rfl)
  refine s_get (v := .int 6) rfl e191_36 rfl rfl ?_
  refine q_iconst rfl ?_
  refine s_iadd (k := 7) rfl (by decide) ?_
  refine s_put (vs' := [.int 0, .ref 192, .ref 193, .int 7, .ref 194, .ref 195, .ref 196, .ref 197, .ref 198, .ref 199, .ref 200, .ref 201, .ref 202, .ref 203, .ref 204, .ref 205, .int (-1), .int 0, .ref 206, .ref 207, .ref 208, .ref 209, .ref 210, .ref 211, .ref 212, .ref 213, .ref 214, .ref 215, .int 0, .int 0, .int 0, .int 0, .ref 216, .ref 217, .ref 218, .ref 219, .ref 220, .int (-1), .int 0, .int 0, .int 0, .int 0, .int 0, .int 0, .ref 221, .ref 222, .ref 223, .ref 224, .int 0, .ref 225, .int 0, .ref 226, .ref 227, .int 0, .ref 228, .ref 229, .ref 230, .ref 231, .ref 232]) rfl e191_36 rfl rfl rfl rfl (fun h37 o37 f37 => ?_)
  have s37 := s36.put f37
  refine s_iinc (y := 7) (lv' := [(2, .int 7), (0, .ref 191), (1, .int 8)]) rfl rfl (by decide) (by decide) rfl ?_
  refine q_goto rfl ?_
  refine q_iload_n rfl rfl ?_
  refine q_iload_n rfl rfl ?_
  refine q_icmp_ge rfl (fun c => absurd c (by decide)) (fun _ => ?_)
  refine q_aload_n rfl rfl ?_
  refine s_get (v := .ref 193) rfl o37 rfl rfl ?_
  refine q_aload_n rfl rfl ?_
  refine s_get (v := .int 7) rfl o37 rfl rfl ?_
  refine q_aload_n rfl rfl ?_
  refine s_get (v := .ref 192) rfl o37 rfl rfl ?_
  refine q_iload_n rfl rfl ?_
  have e192_37 := (f37.ne rfl (f36.ne rfl e192_35))
  refine s_iaload (j := 7) (v := .int 0) rfl e192_37 (by decide) rfl (by first | rfl | decide) ?_
  have e193_37 := (f37.ne rfl o36)
  refine s_iastore (j := 7) rfl e193_37 (by decide) rfl (fun h38 o38 f38 => ?_)
  have s38 := s37.put f38
  refine q_aload_n rfl rfl ?_
  refine q_dup rfl rfl ?_
  have e191_38 := (o37.ne f38 rfl)
  refine s_get (v := .int 7) rfl e191_38 rfl rfl ?_
  refine q_iconst rfl ?_
  refine s_iadd (k := 8) rfl (by decide) ?_
  refine s_put (vs' := [.int 0, .ref 192, .ref 193, .int 8, .ref 194, .ref 195, .ref 196, .ref 197, .ref 198, .ref 199, .ref 200, .ref 201, .ref 202, .ref 203, .ref 204, .ref 205, .int (-1), .int 0, .ref 206, .ref 207, .ref 208, .ref 209, .ref 210, .ref 211, .ref 212, .ref 213, .ref 214, .ref 215, .int 0, .int 0, .int 0, .int 0, .ref 216, .ref 217, .ref 218, .ref 219, .ref 220, .int (-1), .int 0, .int 0, .int 0, .int 0, .int 0, .int 0, .ref 221, .ref 222, .ref 223, .ref 224, .int 0, .ref 225, .int 0, .ref 226, .ref 227, .int 0, .ref 228, .ref 229, .ref 230, .ref 231, .ref 232]) rfl e191_38 rfl rfl rfl rfl (fun h39 o39 f39 => ?_)
  have s39 := s38.put f39
  refine s_iinc (y := 8) (lv' := [(2, .int 8), (0, .ref 191), (1, .int 8)]) rfl rfl (by decide) (by decide) rfl ?_
  refine q_goto rfl ?_
  refine q_iload_n rfl rfl ?_
  refine q_iload_n rfl rfl ?_
  refine q_icmp_ge rfl (fun _ => ?_) (fun c => absurd (by decide) c)
  refine q_iconst rfl ?_
  refine s_istore_n (lv' := [(2, .int 0), (0, .ref 191), (1, .int 8)]) rfl (by decide) rfl ?_
  refine q_iload_n rfl rfl ?_
  refine q_bipush rfl ?_
  refine q_icmp_ge rfl (fun c => absurd c (by decide)) (fun _ => ?_)
  refine q_aload_n rfl rfl ?_
  refine s_get (v := .ref 192) rfl o39 rfl rfl ?_
  refine q_iload_n rfl rfl ?_
  refine q_iconst rfl ?_
  have e192_39 := (f39.ne rfl (f38.ne rfl e192_37))
  refine s_iastore (j := 0) rfl e192_39 (by decide) rfl (fun h40 o40 f40 => ?_)
  have s40 := s39.put f40
  refine s_iinc (y := 1) (lv' := [(2, .int 1), (0, .ref 191), (1, .int 8)]) rfl rfl (by decide) (by decide) rfl ?_
  refine q_goto rfl ?_
  refine q_iload_n rfl rfl ?_
  refine q_bipush rfl ?_
  refine q_icmp_ge rfl (fun c => absurd c (by decide)) (fun _ => ?_)
  refine q_aload_n rfl rfl ?_
  have e191_40 := (o39.ne f40 rfl)
  refine s_get (v := .ref 192) rfl e191_40 rfl rfl ?_
  refine q_iload_n rfl rfl ?_
  refine q_iconst rfl ?_
  refine s_iastore (j := 1) rfl o40 (by decide) rfl (fun h41 o41 f41 => ?_)
  have s41 := s40.put f41
  refine s_iinc (y := 2) (lv' := [(2, .int 2), (0, .ref 191), (1, .int 8)]) rfl rfl (by decide) (by decide) rfl ?_
  refine q_goto rfl ?_
  refine q_iload_n rfl rfl ?_
  refine q_bipush rfl ?_
  refine q_icmp_ge rfl (fun c => absurd c (by decide)) (fun _ => ?_)
  refine q_aload_n rfl rfl ?_
  have e191_41 := (e191_40.ne f41 rfl)
  refine s_get (v := .ref 192) rfl e191_41 rfl rfl ?_
  refine q_iload_n rfl rfl ?_
  refine q_iconst rfl ?_
  refine s_iastore (j := 2) rfl o41 (by decide) rfl (fun h42 o42 f42 => ?_)
  have s42 := s41.put f42
  refine s_iinc (y := 3) (lv' := [(2, .int 3), (0, .ref 191), (1, .int 8)]) rfl rfl (by decide) (by decide) rfl ?_
  refine q_goto rfl ?_
  refine q_iload_n rfl rfl ?_
  refine q_bipush rfl ?_
  refine q_icmp_ge rfl (fun c => absurd c (by decide)) (fun _ => ?_)
  refine q_aload_n rfl rfl ?_
  have e191_42 := (e191_41.ne f42 rfl)
  refine s_get (v := .ref 192) rfl e191_42 rfl rfl ?_
  refine q_iload_n rfl rfl ?_
  refine q_iconst rfl ?_
  refine s_iastore (j := 3) rfl o42 (by decide) rfl (fun h43 o43 f43 => ?_)
  have s43 := s42.put f43
  refine s_iinc (y := 4) (lv' := [(2, .int 4), (0, .ref 191), (1, .int 8)]) rfl rfl (by decide) (by decide) rfl ?_
  refine q_goto rfl ?_
  refine q_iload_n rfl rfl ?_
  refine q_bipush rfl ?_
  refine q_icmp_ge rfl (fun c => absurd c (by decide)) (fun _ => ?_)
  refine q_aload_n rfl rfl ?_
  have e191_43 := (e191_42.ne f43 rfl)
  refine s_get (v := .ref 192) rfl e191_43 rfl rfl ?_
  refine q_iload_n rfl rfl ?_
  refine q_iconst rfl ?_
  refine s_iastore (j := 4) rfl o43 (by decide) rfl (fun h44 o44 f44 => ?_)
  have s44 := s43.put f44
  refine s_iinc (y := 5) (lv' := [(2, .int 5), (0, .ref 191), (1, .int 8)]) rfl rfl (by decide) (by decide) rfl ?_
  refine q_goto rfl ?_
  refine q_iload_n rfl rfl ?_
  refine q_bipush rfl ?_
  refine q_icmp_ge rfl (fun c => absurd c (by decide)) (fun _ => ?_)
  refine q_aload_n rfl rfl ?_
  have e191_44 := (e191_43.ne f44 rfl)
  refine s_get (v := .ref 192) rfl e191_44 rfl rfl ?_
  refine q_iload_n rfl rfl ?_
  refine q_iconst rfl ?_
  refine s_iastore (j := 5) rfl o44 (by decide) rfl (fun h45 o45 f45 => ?_)
  have s45 := s44.put f45
  refine s_iinc (y := 6) (lv' := [(2, .int 6), (0, .ref 191), (1, .int 8)]) rfl rfl (by decide) (by decide) rfl ?_
  refine q_goto rfl ?_
  refine q_iload_n rfl rfl ?_
  refine q_bipush rfl ?_
  refine q_icmp_ge rfl (fun c => absurd c (by decide)) (fun _ => ?_)
  refine q_aload_n rfl rfl ?_
  have e191_45 := (e191_44.ne f45 rfl)
  refine s_get (v := .ref 192) rfl e191_45 rfl rfl ?_
  refine q_iload_n rfl rfl ?_
  refine q_iconst rfl ?_
  refine s_iastore (j := 6) rfl o45 (by decide) rfl (fun h46 o46 f46 => ?_)
  have s46 := s45.put f46
  refine s_iinc (y := 7) (lv' := [(2, .int 7), (0, .ref 191), (1, .int 8)]) rfl rfl (by decide) (by decide) rfl ?_
  refine q_goto rfl ?_
  refine q_iload_n rfl rfl ?_
  refine q_bipush rfl ?_
  refine q_icmp_ge rfl (fun c => absurd c (by decide)) (fun _ => ?_)
  refine q_aload_n rfl rfl ?_
  have e191_46 := (e191_45.ne f46 rfl)
  refine s_get (v := .ref 192) rfl e191_46 rfl rfl ?_
  refine q_iload_n rfl rfl ?_
  refine q_iconst rfl ?_
  refine s_iastore (j := 7) rfl o46 (by decide) rfl (fun h47 o47 f47 => ?_)
  have s47 := s46.put f47
  refine s_iinc (y := 8) (lv' := [(2, .int 8), (0, .ref 191), (1, .int 8)]) rfl rfl (by decide) (by decide) rfl ?_
  refine q_goto rfl ?_
  refine q_iload_n rfl rfl ?_
  refine q_bipush rfl ?_
  refine q_icmp_ge rfl (fun c => absurd c (by decide)) (fun _ => ?_)
  refine q_aload_n rfl rfl ?_
  have e191_47 := (e191_46.ne f47 rfl)
  refine s_get (v := .ref 192) rfl e191_47 rfl rfl ?_
  refine q_iload_n rfl rfl ?_
  refine q_iconst rfl ?_
  refine s_iastore (j := 8) rfl o47 (by decide) rfl (fun h48 o48 f48 => ?_)
  have s48 := s47.put f48
  refine s_iinc (y := 9) (lv' := [(2, .int 9), (0, .ref 191), (1, .int 8)]) rfl rfl (by decide) (by decide) rfl ?_
  refine q_goto rfl ?_
  refine q_iload_n rfl rfl ?_
  refine q_bipush rfl ?_
  refine q_icmp_ge rfl (fun c => absurd c (by decide)) (fun _ => ?_)
  refine q_aload_n rfl rfl ?_
  have e191_48 := (e191_47.ne f48 rfl)
  refine s_get (v := .ref 192) rfl e191_48 rfl rfl ?_
  refine q_iload_n rfl rfl ?_
  refine q_iconst rfl ?_
  refine s_iastore (j := 9) rfl o48 (by decide) rfl (fun h49 o49 f49 => ?_)
  have s49 := s48.put f49
  refine s_iinc (y := 10) (lv' := [(2, .int 10), (0, .ref 191), (1, .int 8)]) rfl rfl (by decide) (by decide) rfl ?_
  refine q_goto rfl ?_
  refine q_iload_n rfl rfl ?_
  refine q_bipush rfl ?_
  refine q_icmp_ge rfl (fun c => absurd c (by decide)) (fun _ => ?_)
  refine q_aload_n rfl rfl ?_
  have e191_49 := (e191_48.ne f49 rfl)
  refine s_get (v := .ref 192) rfl e191_49 rfl rfl ?_
  refine q_iload_n rfl rfl ?_
  refine q_iconst rfl ?_
  refine s_iastore (j := 10) rfl o49 (by decide) rfl (fun h50 o50 f50 => ?_)
  have s50 := s49.put f50
  refine s_iinc (y := 11) (lv' := [(2, .int 11), (0, .ref 191), (1, .int 8)]) rfl rfl (by decide) (by decide) rfl ?_
  refine q_goto rfl ?_
  refine q_iload_n rfl rfl ?_
  refine q_bipush rfl ?_
  refine q_icmp_ge rfl (fun c => absurd c (by decide)) (fun _ => ?_)
  refine q_aload_n rfl rfl ?_
  have e191_50 := (e191_49.ne f50 rfl)
  refine s_get (v := .ref 192) rfl e191_50 rfl rfl ?_
  refine q_iload_n rfl rfl ?_
  refine q_iconst rfl ?_
  refine s_iastore (j := 11) rfl o50 (by decide) rfl (fun h51 o51 f51 => ?_)
  have s51 := s50.put f51
  refine s_iinc (y := 12) (lv' := [(2, .int 12), (0, .ref 191), (1, .int 8)]) rfl rfl (by decide) (by decide) rfl ?_
  refine q_goto rfl ?_
  refine q_iload_n rfl rfl ?_
  refine q_bipush rfl ?_
  refine q_icmp_ge rfl (fun c => absurd c (by decide)) (fun _ => ?_)
  refine q_aload_n rfl rfl ?_
  have e191_51 := (e191_50.ne f51 rfl)
  refine s_get (v := .ref 192) rfl e191_51 rfl rfl ?_
  refine q_iload_n rfl rfl ?_
  refine q_iconst rfl ?_
  refine s_iastore (j := 12) rfl o51 (by decide) rfl (fun h52 o52 f52 => ?_)
  have s52 := s51.put f52
  refine s_iinc (y := 13) (lv' := [(2, .int 13), (0, .ref 191), (1, .int 8)]) rfl rfl (by decide) (by decide) rfl ?_
  refine q_goto rfl ?_
  refine q_iload_n rfl rfl ?_
  refine q_bipush rfl ?_
  refine q_icmp_ge rfl (fun c => absurd c (by decide)) (fun _ => ?_)
  refine q_aload_n rfl rfl ?_
  have e191_52 := (e191_51.ne f52 rfl)
  refine s_get (v := .ref 192) rfl e191_52 rfl rfl ?_
  refine q_iload_n rfl rfl ?_
  refine q_iconst rfl ?_
  refine s_iastore (j := 13) rfl o52 (by decide) rfl (fun h53 o53 f53 => ?_)
  have s53 := s52.put f53
  refine s_iinc (y := 14) (lv' := [(2, .int 14), (0, .ref 191), (1, .int 8)]) rfl rfl (by decide) (by decide) rfl ?_
  refine q_goto rfl ?_
  refine q_iload_n rfl rfl ?_
  refine q_bipush rfl ?_
  refine q_icmp_ge rfl (fun c => absurd c (by decide)) (fun _ => ?_)
  refine q_aload_n rfl rfl ?_
  have e191_53 := (e191_52.ne f53 rfl)
  refine s_get (v := .ref 192) rfl e191_53 rfl rfl ?_
  refine q_iload_n rfl rfl ?_
  refine q_iconst rfl ?_
  refine s_iastore (j := 14) rfl o53 (by decide) rfl (fun h54 o54 f54 => ?_)
  have s54 := s53.put f54
  refine s_iinc (y := 15) (lv' := [(2, .int 15), (0, .ref 191), (1, .int 8)]) rfl rfl (by decide) (by decide) rfl ?_
  refine q_goto rfl ?_
  refine q_iload_n rfl rfl ?_
  refine q_bipush rfl ?_
  refine q_icmp_ge rfl (fun c => absurd c (by decide)) (fun _ => ?_)
  refine q_aload_n rfl rfl ?_
  have e191_54 := (e191_53.ne f54 rfl)
  refine s_get (v := .ref 192) rfl e191_54 rfl rfl ?_
  refine q_iload_n rfl rfl ?_
  refine q_iconst rfl ?_
  refine s_iastore (j := 15) rfl o54 (by decide) rfl (fun h55 o55 f55 => ?_)
  have s55 := s54.put f55
  refine s_iinc (y := 16) (lv' := [(2, .int 16), (0, .ref 191), (1, .int 8)]) rfl rfl (by decide) (by decide) rfl ?_
  refine q_goto rfl ?_
  refine q_iload_n rfl rfl ?_
  refine q_bipush rfl ?_
  refine q_icmp_ge rfl (fun c => absurd c (by decide)) (fun _ => ?_)
  refine q_aload_n rfl rfl ?_
  have e191_55 := (e191_54.ne f55 rfl)
  refine s_get (v := .ref 192) rfl e191_55 rfl rfl ?_
  refine q_iload_n rfl rfl ?_
  refine q_iconst rfl ?_
  refine s_iastore (j := 16) rfl o55 (by decide) rfl (fun h56 o56 f56 => ?_)
  have s56 := s55.put f56
  refine s_iinc (y := 17) (lv' := [(2, .int 17), (0, .ref 191), (1, .int 8)]) rfl rfl (by decide) (by decide) rfl ?_
  refine q_goto rfl ?_
  refine q_iload_n rfl rfl ?_
  refine q_bipush rfl ?_
  refine q_icmp_ge rfl (fun c => absurd c (by decide)) (fun _ => ?_)
  refine q_aload_n rfl rfl ?_
  have e191_56 := (e191_55.ne f56 rfl)
  refine s_get (v := .ref 192) rfl e191_56 rfl rfl ?_
  refine q_iload_n rfl rfl ?_
  refine q_iconst rfl ?_
  refine s_iastore (j := 17) rfl o56 (by decide) rfl (fun h57 o57 f57 => ?_)
  have s57 := s56.put f57
  refine s_iinc (y := 18) (lv' := [(2, .int 18), (0, .ref 191), (1, .int 8)]) rfl rfl (by decide) (by decide) rfl ?_
  refine q_goto rfl ?_
  refine q_iload_n rfl rfl ?_
  refine q_bipush rfl ?_
  refine q_icmp_ge rfl (fun c => absurd c (by decide)) (fun _ => ?_)
  refine q_aload_n rfl rfl ?_
  have e191_57 := (e191_56.ne f57 rfl)
  refine s_get (v := .ref 192) rfl e191_57 rfl rfl ?_
  refine q_iload_n rfl rfl ?_
  refine q_iconst rfl ?_
  refine s_iastore (j := 18) rfl o57 (by decide) rfl (fun h58 o58 f58 => ?_)
  have s58 := s57.put f58
  refine s_iinc (y := 19) (lv' := [(2, .int 19), (0, .ref 191), (1, .int 8)]) rfl rfl (by decide) (by decide) rfl ?_
  refine q_goto rfl ?_
  refine q_iload_n rfl rfl ?_
  refine q_bipush rfl ?_
  refine q_icmp_ge rfl (fun c => absurd c (by decide)) (fun _ => ?_)
  refine q_aload_n rfl rfl ?_
  have e191_58 := (e191_57.ne f58 rfl)
  refine s_get (v := .ref 192) rfl e191_58 rfl rfl ?_
  refine q_iload_n rfl rfl ?_
  refine q_iconst rfl ?_
  refine s_iastore (j := 19) rfl o58 (by decide) rfl (fun h59 o59 f59 => ?_)
  have s59 := s58.put f59
  refine s_iinc (y := 20) (lv' := [(2, .int 20), (0, .ref 191), (1, .int 8)]) rfl rfl (by decide) (by decide) rfl ?_
  refine q_goto rfl ?_
  refine q_iload_n rfl rfl ?_
  refine q_bipush rfl ?_
  refine q_icmp_ge rfl (fun _ => ?_) (fun c => absurd (by decide) c)
  refine q_aload_n rfl rfl ?_
  have e191_59 := (e191_58.ne f59 rfl)
  refine s_get (v := .int 8) rfl e191_59 rfl rfl ?_
  refine q_ireturn rfl rfl ?_
  show aW aiP 0 17 658 243 [(4, .int 0), (3, .ref 233), (2, .ref 191), (1, .ref 6), (0, .ref 0)] [.int 8, .int 8] h59 _
  refine q_icmp_eq rfl (fun _ => ?_) (fun c => absurd (by decide) c)
  refine s_iinc (y := 6) (lv' := [(4, .int 6), (3, .ref 233), (2, .ref 191), (1, .ref 6), (0, .ref 0)]) rfl rfl (by decide) (by decide) rfl ?_
  refine q_goto rfl ?_
  refine q_iload rfl rfl ?_
  refine q_aload_n rfl rfl ?_
  have e0_59 := (f59.ne rfl (f58.ne rfl (f57.ne rfl (f56.ne rfl (f55.ne rfl (f54.ne rfl (f53.ne rfl (f52.ne rfl (f51.ne rfl (f50.ne rfl (f49.ne rfl (f48.ne rfl (f47.ne rfl (f46.ne rfl (f45.ne rfl (f44.ne rfl (f43.ne rfl (f42.ne rfl (f41.ne rfl (f40.ne rfl (f39.ne rfl (f38.ne rfl (f37.ne rfl (f36.ne rfl (f35.ne rfl (f34.ne rfl (f33.ne rfl (f32.ne rfl (f31.ne rfl (f30.ne rfl (f29.ne rfl (f28.ne rfl (f27.ne rfl (f26.ne rfl (f25.ne rfl (f24.ne rfl (f23.ne rfl e0_22)))))))))))))))))))))))))))))))))))))
  refine s_alen (x := 6) rfl e0_59 rfl (by decide) ?_
  refine q_bipush rfl ?_
  refine s_isub (k := 0) rfl (by decide) ?_
  refine q_icmp_gt rfl (fun _ => ?_) (fun c => absurd (by decide) c)
  refine q_iconst rfl ?_
  refine q_ireturn rfl rfl ?_
  exact ⟨rfl, s59.bd rfl⟩
set_option maxRecDepth 20000 in
set_option maxHeartbeats 4000000 in
theorem p_case1_9 {xs : Nat → Int32} {h : ai_H} (F : Fresh 6 xs h) (hk : xs 0 &&& 31 = 1) (hw : xs 1 = 9) : aW aiP 0 17 658 33 [(4, .int 0), (3, .ref 233), (2, .ref 191), (1, .ref 6), (0, .ref 0)] [] h p_Q := by
  obtain ⟨e0, e1, ⟨g2, e2⟩, ⟨g3, e3⟩, ⟨g4, e4⟩, e5, e6, e7, e8, e9, e51, e93, e135, e177, e178, e179, e180, e181, e182, e183, e184, e185, e186, e187, e188, e189, e190, e191, e192, e193, e194, e195, e196, e197, e198, e199, e200, e201, e202, e203, e204, e205, e206, e207, e208, e209, e210, e211, e212, e213, e214, e215, e216, e217, e218, e219, e220, e221, e222, e223, e224, e225, e226, e227, ⟨g228, e228⟩, ⟨g229, e229⟩, e230, e231, e232, e233, s0⟩ := F
  refine q_aload_n rfl rfl ?_
  refine q_iload rfl rfl ?_
  refine s_iaload (j := 0) (v := .int (xs 0)) rfl e0 (by decide) rfl (by first | rfl | decide) ?_
  refine q_bipush rfl ?_
  refine s_iand (k := ((xs 0) &&& (31 : Int32))) rfl rfl ?_
  rw [hk]
  show aW aiP 0 17 658 40 [(4, .int 0), (3, .ref 233), (2, .ref 191), (1, .ref 6), (0, .ref 0)] [.int 1] h _
  refine s_sw (tg := 223) rfl rfl ?_
  refine q_aload_n rfl rfl ?_
  refine q_aload_n rfl rfl ?_
  refine q_iload rfl rfl ?_
  refine q_iconst rfl ?_
  refine s_iadd (k := 1) rfl (by decide) ?_
  refine s_iaload (j := 1) (v := .int (xs 1)) rfl e0 (by decide) rfl (by first | rfl | decide) ?_
  rw [hw]
  refine s_callV (as := [.int 9]) (rest := []) (d' := 16) (w' := 637) (lv' := [(0, .ref 6), (1, .int 9)]) rfl e6 rfl rfl rfl rfl rfl rfl ?_
  refine q_iload_n rfl rfl ?_
  refine q_if_lt rfl (fun c => absurd c (by decide)) (fun _ => ?_)
  refine q_iload_n rfl rfl ?_
  refine q_bipush rfl ?_
  refine q_icmp_gt rfl (fun c => absurd c (by decide)) (fun _ => ?_)
  refine q_aload_n rfl rfl ?_
  refine s_get (v := .int 0) rfl e6 rfl rfl ?_
  refine q_iload_n rfl rfl ?_
  refine s_iadd (k := 9) rfl (by decide) ?_
  refine q_sipush rfl ?_
  refine q_icmp_le rfl (fun _ => ?_) (fun c => absurd (by decide) c)
  refine q_aload_n rfl rfl ?_
  refine s_get (v := .ref 7) rfl e6 rfl rfl ?_
  refine q_iconst rfl ?_
  refine q_aload_n rfl rfl ?_
  refine s_get (v := .ref 8) rfl e6 rfl rfl ?_
  refine q_aload_n rfl rfl ?_
  refine s_get (v := .int 0) rfl e6 rfl rfl ?_
  refine q_iload_n rfl rfl ?_
  refine s_copy (sp := 0) (dp := 0) (k := 9) rfl e7 e8 (by decide) (by decide) (by decide) rfl (by decide) (by decide) (by decide) (fun i _ => rfl) (fun h1 o1 f1 => ?_)
  have s1 := s0.put f1
  refine q_aload_n rfl rfl ?_
  refine q_dup rfl rfl ?_
  have e6_1 := (e6.ne f1 rfl)
  refine s_get (v := .int 0) rfl e6_1 rfl rfl ?_
  refine q_iload_n rfl rfl ?_
  refine s_iadd (k := 9) rfl (by decide) ?_
  refine s_put (vs' := [.ref 7, .ref 8, .int 9, .ref 9, .int (-1), .ref 51, .ref 93, .ref 135, .ref 177, .ref 180, .int 0, .ref 183, .ref 186, .ref 189]) rfl e6_1 rfl rfl rfl rfl (fun h2 o2 f2 => ?_)
  have s2 := s1.put f2
  refine q_aload_n rfl rfl ?_
  refine s_get (v := .ref 7) rfl o2 rfl rfl ?_
  refine q_iconst rfl ?_
  refine s_callS (as := [.ref 7, .int 0]) (rest := []) (d' := 15) (w' := 614) (lv' := [(0, .ref 7), (1, .int 0)]) rfl rfl rfl rfl rfl rfl rfl rfl ?_
  refine q_iconst rfl ?_
  refine s_istore_n (lv' := [(2, .int 0), (0, .ref 7), (1, .int 0)]) rfl (by decide) rfl ?_
  refine q_aload_n rfl rfl ?_
  have e7_2 := (f2.ne rfl (f1.ne rfl e7))
  refine s_alen (x := 20) rfl e7_2 rfl (by decide) ?_
  refine s_istore_n (lv' := [(3, .int 20), (2, .int 0), (0, .ref 7), (1, .int 0)]) rfl (by decide) rfl ?_
  refine q_iload_n rfl rfl ?_
  refine q_iload_n rfl rfl ?_
  refine q_icmp_ge rfl (fun c => absurd c (by decide)) (fun _ => ?_)
  refine q_aload_n rfl rfl ?_
  refine q_iload_n rfl rfl ?_
  refine q_iload_n rfl rfl ?_
  refine s_bastore (j := 0) rfl e7_2 (by decide) rfl (fun h3 o3 f3 => ?_)
  have s3 := s2.put f3
  refine s_iinc (y := 1) (lv' := [(2, .int 1), (3, .int 20), (0, .ref 7), (1, .int 0)]) rfl rfl (by decide) (by decide) rfl ?_
  refine q_goto rfl ?_
  refine q_iload_n rfl rfl ?_
  refine q_iload_n rfl rfl ?_
  refine q_icmp_ge rfl (fun c => absurd c (by decide)) (fun _ => ?_)
  refine q_aload_n rfl rfl ?_
  refine q_iload_n rfl rfl ?_
  refine q_iload_n rfl rfl ?_
  refine s_bastore (j := 1) rfl o3 (by decide) rfl (fun h4 o4 f4 => ?_)
  have s4 := s3.put f4
  refine s_iinc (y := 2) (lv' := [(2, .int 2), (3, .int 20), (0, .ref 7), (1, .int 0)]) rfl rfl (by decide) (by decide) rfl ?_
  refine q_goto rfl ?_
  refine q_iload_n rfl rfl ?_
  refine q_iload_n rfl rfl ?_
  refine q_icmp_ge rfl (fun c => absurd c (by decide)) (fun _ => ?_)
  refine q_aload_n rfl rfl ?_
  refine q_iload_n rfl rfl ?_
  refine q_iload_n rfl rfl ?_
  refine s_bastore (j := 2) rfl o4 (by decide) rfl (fun h5 o5 f5 => ?_)
  have s5 := s4.put f5
  refine s_iinc (y := 3) (lv' := [(2, .int 3), (3, .int 20), (0, .ref 7), (1, .int 0)]) rfl rfl (by decide) (by decide) rfl ?_
  refine q_goto rfl ?_
  refine q_iload_n rfl rfl ?_
  refine q_iload_n rfl rfl ?_
  refine q_icmp_ge rfl (fun c => absurd c (by decide)) (fun _ => ?_)
  refine q_aload_n rfl rfl ?_
  refine q_iload_n rfl rfl ?_
  refine q_iload_n rfl rfl ?_
  refine s_bastore (j := 3) rfl o5 (by decide) rfl (fun h6 o6 f6 => ?_)
  have s6 := s5.put f6
  refine s_iinc (y := 4) (lv' := [(2, .int 4), (3, .int 20), (0, .ref 7), (1, .int 0)]) rfl rfl (by decide) (by decide) rfl ?_
  refine q_goto rfl ?_
  refine q_iload_n rfl rfl ?_
  refine q_iload_n rfl rfl ?_
  refine q_icmp_ge rfl (fun c => absurd c (by decide)) (fun _ => ?_)
  refine q_aload_n rfl rfl ?_
  refine q_iload_n rfl rfl ?_
  refine q_iload_n rfl rfl ?_
  refine s_bastore (j := 4) rfl o6 (by decide) rfl (fun h7 o7 f7 => ?_)
  have s7 := s6.put f7
  refine s_iinc (y := 5) (lv' := [(2, .int 5), (3, .int 20), (0, .ref 7), (1, .int 0)]) rfl rfl (by decide) (by decide) rfl ?_
  refine q_goto rfl ?_
  refine q_iload_n rfl rfl ?_
  refine q_iload_n rfl rfl ?_
  refine q_icmp_ge rfl (fun c => absurd c (by decide)) (fun _ => ?_)
  refine q_aload_n rfl rfl ?_
  refine q_iload_n rfl rfl ?_
  refine q_iload_n rfl rfl ?_
  refine s_bastore (j := 5) rfl o7 (by decide) rfl (fun h8 o8 f8 => ?_)
  have s8 := s7.put f8
  refine s_iinc (y := 6) (lv' := [(2, .int 6), (3, .int 20), (0, .ref 7), (1, .int 0)]) rfl rfl (by decide) (by decide) rfl ?_
  refine q_goto rfl ?_
  refine q_iload_n rfl rfl ?_
  refine q_iload_n rfl rfl ?_
  refine q_icmp_ge rfl (fun c => absurd c (by decide)) (fun _ => ?_)
  refine q_aload_n rfl rfl ?_
  refine q_iload_n rfl rfl ?_
  refine q_iload_n rfl rfl ?_
  refine s_bastore (j := 6) rfl o8 (by decide) rfl (fun h9 o9 f9 => ?_)
  have s9 := s8.put f9
  refine s_iinc (y := 7) (lv' := [(2, .int 7), (3, .int 20), (0, .ref 7), (1, .int 0)]) rfl rfl (by decide) (by decide) rfl ?_
  refine q_goto rfl ?_
  refine q_iload_n rfl rfl ?_
  refine q_iload_n rfl rfl ?_
  refine q_icmp_ge rfl (fun c => absurd c (by decide)) (fun _ => ?_)
  refine q_aload_n rfl rfl ?_
  refine q_iload_n rfl rfl ?_
  refine q_iload_n rfl rfl ?_
  refine s_bastore (j := 7) rfl o9 (by decide) rfl (fun h10 o10 f10 => ?_)
  have s10 := s9.put f10
  refine s_iinc (y := 8) (lv' := [(2, .int 8), (3, .int 20), (0, .ref 7), (1, .int 0)]) rfl rfl (by decide) (by decide) rfl ?_
  refine q_goto rfl ?_
  refine q_iload_n rfl rfl ?_
  refine q_iload_n rfl rfl ?_
  refine q_icmp_ge rfl (fun c => absurd c (by decide)) (fun _ => ?_)
  refine q_aload_n rfl rfl ?_
  refine q_iload_n rfl rfl ?_
  refine q_iload_n rfl rfl ?_
  refine s_bastore (j := 8) rfl o10 (by decide) rfl (fun h11 o11 f11 => ?_)
  have s11 := s10.put f11
  refine s_iinc (y := 9) (lv' := [(2, .int 9), (3, .int 20), (0, .ref 7), (1, .int 0)]) rfl rfl (by decide) (by decide) rfl ?_
  refine q_goto rfl ?_
  refine q_iload_n rfl rfl ?_
  refine q_iload_n rfl rfl ?_
  refine q_icmp_ge rfl (fun c => absurd c (by decide)) (fun _ => ?_)
  refine q_aload_n rfl rfl ?_
  refine q_iload_n rfl rfl ?_
  refine q_iload_n rfl rfl ?_
  refine s_bastore (j := 9) rfl o11 (by decide) rfl (fun h12 o12 f12 => ?_)
  have s12 := s11.put f12
  refine s_iinc (y := 10) (lv' := [(2, .int 10), (3, .int 20), (0, .ref 7), (1, .int 0)]) rfl rfl (by decide) (by decide) rfl ?_
  refine q_goto rfl ?_
  refine q_iload_n rfl rfl ?_
  refine q_iload_n rfl rfl ?_
  refine q_icmp_ge rfl (fun c => absurd c (by decide)) (fun _ => ?_)
  refine q_aload_n rfl rfl ?_
  refine q_iload_n rfl rfl ?_
  refine q_iload_n rfl rfl ?_
  refine s_bastore (j := 10) rfl o12 (by decide) rfl (fun h13 o13 f13 => ?_)
  have s13 := s12.put f13
  refine s_iinc (y := 11) (lv' := [(2, .int 11), (3, .int 20), (0, .ref 7), (1, .int 0)]) rfl rfl (by decide) (by decide) rfl ?_
  refine q_goto rfl ?_
  refine q_iload_n rfl rfl ?_
  refine q_iload_n rfl rfl ?_
  refine q_icmp_ge rfl (fun c => absurd c (by decide)) (fun _ => ?_)
  refine q_aload_n rfl rfl ?_
  refine q_iload_n rfl rfl ?_
  refine q_iload_n rfl rfl ?_
  refine s_bastore (j := 11) rfl o13 (by decide) rfl (fun h14 o14 f14 => ?_)
  have s14 := s13.put f14
  refine s_iinc (y := 12) (lv' := [(2, .int 12), (3, .int 20), (0, .ref 7), (1, .int 0)]) rfl rfl (by decide) (by decide) rfl ?_
  refine q_goto rfl ?_
  refine q_iload_n rfl rfl ?_
  refine q_iload_n rfl rfl ?_
  refine q_icmp_ge rfl (fun c => absurd c (by decide)) (fun _ => ?_)
  refine q_aload_n rfl rfl ?_
  refine q_iload_n rfl rfl ?_
  refine q_iload_n rfl rfl ?_
  refine s_bastore (j := 12) rfl o14 (by decide) rfl (fun h15 o15 f15 => ?_)
  have s15 := s14.put f15
  refine s_iinc (y := 13) (lv' := [(2, .int 13), (3, .int 20), (0, .ref 7), (1, .int 0)]) rfl rfl (by decide) (by decide) rfl ?_
  refine q_goto rfl ?_
  refine q_iload_n rfl rfl ?_
  refine q_iload_n rfl rfl ?_
  refine q_icmp_ge rfl (fun c => absurd c (by decide)) (fun _ => ?_)
  refine q_aload_n rfl rfl ?_
  refine q_iload_n rfl rfl ?_
  refine q_iload_n rfl rfl ?_
  refine s_bastore (j := 13) rfl o15 (by decide) rfl (fun h16 o16 f16 => ?_)
  have s16 := s15.put f16
  refine s_iinc (y := 14) (lv' := [(2, .int 14), (3, .int 20), (0, .ref 7), (1, .int 0)]) rfl rfl (by decide) (by decide) rfl ?_
  refine q_goto rfl ?_
  refine q_iload_n rfl rfl ?_
  refine q_iload_n rfl rfl ?_
  refine q_icmp_ge rfl (fun c => absurd c (by decide)) (fun _ => ?_)
  refine q_aload_n rfl rfl ?_
  refine q_iload_n rfl rfl ?_
  refine q_iload_n rfl rfl ?_
  refine s_bastore (j := 14) rfl o16 (by decide) rfl (fun h17 o17 f17 => ?_)
  have s17 := s16.put f17
  refine s_iinc (y := 15) (lv' := [(2, .int 15), (3, .int 20), (0, .ref 7), (1, .int 0)]) rfl rfl (by decide) (by decide) rfl ?_
  refine q_goto rfl ?_
  refine q_iload_n rfl rfl ?_
  refine q_iload_n rfl rfl ?_
  refine q_icmp_ge rfl (fun c => absurd c (by decide)) (fun _ => ?_)
  refine q_aload_n rfl rfl ?_
  refine q_iload_n rfl rfl ?_
  refine q_iload_n rfl rfl ?_
  refine s_bastore (j := 15) rfl o17 (by decide) rfl (fun h18 o18 f18 => ?_)
  have s18 := s17.put f18
  refine s_iinc (y := 16) (lv' := [(2, .int 16), (3, .int 20), (0, .ref 7), (1, .int 0)]) rfl rfl (by decide) (by decide) rfl ?_
  refine q_goto rfl ?_
  refine q_iload_n rfl rfl ?_
  refine q_iload_n rfl rfl ?_
  refine q_icmp_ge rfl (fun c => absurd c (by decide)) (fun _ => ?_)
  refine q_aload_n rfl rfl ?_
  refine q_iload_n rfl rfl ?_
  refine q_iload_n rfl rfl ?_
  refine s_bastore (j := 16) rfl o18 (by decide) rfl (fun h19 o19 f19 => ?_)
  have s19 := s18.put f19
  refine s_iinc (y := 17) (lv' := [(2, .int 17), (3, .int 20), (0, .ref 7), (1, .int 0)]) rfl rfl (by decide) (by decide) rfl ?_
  refine q_goto rfl ?_
  refine q_iload_n rfl rfl ?_
  refine q_iload_n rfl rfl ?_
  refine q_icmp_ge rfl (fun c => absurd c (by decide)) (fun _ => ?_)
  refine q_aload_n rfl rfl ?_
  refine q_iload_n rfl rfl ?_
  refine q_iload_n rfl rfl ?_
  refine s_bastore (j := 17) rfl o19 (by decide) rfl (fun h20 o20 f20 => ?_)
  have s20 := s19.put f20
  refine s_iinc (y := 18) (lv' := [(2, .int 18), (3, .int 20), (0, .ref 7), (1, .int 0)]) rfl rfl (by decide) (by decide) rfl ?_
  refine q_goto rfl ?_
  refine q_iload_n rfl rfl ?_
  refine q_iload_n rfl rfl ?_
  refine q_icmp_ge rfl (fun c => absurd c (by decide)) (fun _ => ?_)
  refine q_aload_n rfl rfl ?_
  refine q_iload_n rfl rfl ?_
  refine q_iload_n rfl rfl ?_
  refine s_bastore (j := 18) rfl o20 (by decide) rfl (fun h21 o21 f21 => ?_)
  have s21 := s20.put f21
  refine s_iinc (y := 19) (lv' := [(2, .int 19), (3, .int 20), (0, .ref 7), (1, .int 0)]) rfl rfl (by decide) (by decide) rfl ?_
  refine q_goto rfl ?_
  refine q_iload_n rfl rfl ?_
  refine q_iload_n rfl rfl ?_
  refine q_icmp_ge rfl (fun c => absurd c (by decide)) (fun _ => ?_)
  refine q_aload_n rfl rfl ?_
  refine q_iload_n rfl rfl ?_
  refine q_iload_n rfl rfl ?_
  refine s_bastore (j := 19) rfl o21 (by decide) rfl (fun h22 o22 f22 => ?_)
  have s22 := s21.put f22
  refine s_iinc (y := 20) (lv' := [(2, .int 20), (3, .int 20), (0, .ref 7), (1, .int 0)]) rfl rfl (by decide) (by decide) rfl ?_
  refine q_goto rfl ?_
  refine q_iload_n rfl rfl ?_
  refine q_iload_n rfl rfl ?_
  refine q_icmp_ge rfl (fun _ => ?_) (fun c => absurd (by decide) c)
  refine q_return rfl rfl ?_
  show aW aiP 15 16 637 59 [(0, .ref 6), (1, .int 9)] [] h22 _
  refine q_aload_n rfl rfl ?_
  have e6_22 := ((((((((((((((((((((o2.ne f3 rfl).ne f4 rfl).ne f5 rfl).ne f6 rfl).ne f7 rfl).ne f8 rfl).ne f9 rfl).ne f10 rfl).ne f11 rfl).ne f12 rfl).ne f13 rfl).ne f14 rfl).ne f15 rfl).ne f16 rfl).ne f17 rfl).ne f18 rfl).ne f19 rfl).ne f20 rfl).ne f21 rfl).ne f22 rfl)
  refine s_get (v := .int 9) rfl e6_22 rfl rfl ?_
  refine q_ireturn rfl rfl ?_
  show aW aiP 0 17 658 233 [(4, .int 0), (3, .ref 233), (2, .ref 191), (1, .ref 6), (0, .ref 0)] [.int 9] h22 _
  refine q_aload_n rfl rfl ?_
  refine q_aload_n rfl rfl ?_
  refine q_iload rfl rfl ?_
  refine q_iconst rfl ?_
  refine s_iadd (k := 1) rfl (by decide) ?_
  have e0_22 := (f22.ne rfl (f21.ne rfl (f20.ne rfl (f19.ne rfl (f18.ne rfl (f17.ne rfl (f16.ne rfl (f15.ne rfl (f14.ne rfl (f13.ne rfl (f12.ne rfl (f11.ne rfl (f10.ne rfl (f9.ne rfl (f8.ne rfl (f7.ne rfl (f6.ne rfl (f5.ne rfl (f4.ne rfl (f3.ne rfl (f2.ne rfl (f1.ne rfl e0))))))))))))))))))))))
  refine s_iaload (j := 1) (v := .int (xs 1)) rfl e0_22 (by decide) rfl (by first | rfl | decide) ?_
  rw [hw]
  have e191_22 := ((((((((((((((((((((((e191.ne f1 rfl).ne f2 rfl).ne f3 rfl).ne f4 rfl).ne f5 rfl).ne f6 rfl).ne f7 rfl).ne f8 rfl).ne f9 rfl).ne f10 rfl).ne f11 rfl).ne f12 rfl).ne f13 rfl).ne f14 rfl).ne f15 rfl).ne f16 rfl).ne f17 rfl).ne f18 rfl).ne f19 rfl).ne f20 rfl).ne f21 rfl).ne f22 rfl)
  refine s_callV (as := [.int 9]) (rest := [.int 9]) (d' := 16) (w' := 636) (lv' := [(0, .ref 191), (1, .int 9)]) rfl e191_22 rfl rfl rfl rfl rfl rfl ?_
  refine q_aload_n rfl rfl ?_
  refine q_iconst rfl ?_
  refine s_put (vs' := [.int 0, .ref 192, .ref 193, .int 0, .ref 194, .ref 195, .ref 196, .ref 197, .ref 198, .ref 199, .ref 200, .ref 201, .ref 202, .ref 203, .ref 204, .ref 205, .int (-1), .int 0, .ref 206, .ref 207, .ref 208, .ref 209, .ref 210, .ref 211, .ref 212, .ref 213, .ref 214, .ref 215, .int 0, .int 0, .int 0, .int 0, .ref 216, .ref 217, .ref 218, .ref 219, .ref 220, .int (-1), .int 0, .int 0, .int 0, .int 0, .int 0, .int 0, .ref 221, .ref 222, .ref 223, .ref 224, .int 0, .ref 225, .int 0, .ref 226, .ref 227, .int 0, .ref 228, .ref 229, .ref 230, .ref 231, .ref 232]) rfl e191_22 rfl rfl rfl rfl (fun h23 o23 f23 => ?_)
  have s23 := s22.put f23
  refine q_iload_n rfl rfl ?_
  refine q_if_lt rfl (fun c => absurd c (by decide)) (fun _ => ?_)
  refine q_iload_n rfl rfl ?_
  refine q_bipush rfl ?_
  refine q_icmp_gt rfl (fun c => absurd c (by decide)) (fun _ => ?_)
  refine q_aload_n rfl rfl ?_
  refine s_get (v := .int 0) rfl o23 rfl rfl ?_
  refine q_iload_n rfl rfl ?_
  refine s_iadd (k := 9) rfl (by decide) ?_
  refine q_sipush rfl ?_
  refine q_icmp_le rfl (fun _ => ?_) (fun c => absurd (by decide) c)
  refine q_iconst rfl ?_
  refine s_istore_n (lv' := [(2, .int 0), (0, .ref 191), (1, .int 9)]) rfl (by decide) rfl ?_
  refine q_iload_n rfl rfl ?_
  refine q_iload_n rfl rfl ?_
  refine q_icmp_ge rfl (fun c => absurd c (by decide)) (fun _ => ?_)
  refine q_aload_n rfl rfl ?_
  refine s_get (v := .ref 193) rfl o23 rfl rfl ?_
  refine q_aload_n rfl rfl ?_
  refine s_get (v := .int 0) rfl o23 rfl rfl ?_
  refine q_aload_n rfl rfl ?_
  refine s_get (v := .ref 192) rfl o23 rfl rfl ?_
  refine q_iload_n rfl rfl ?_
  have e192_23 := (f23.ne rfl (f22.ne rfl (f21.ne rfl (f20.ne rfl (f19.ne rfl (f18.ne rfl (f17.ne rfl (f16.ne rfl (f15.ne rfl (f14.ne rfl (f13.ne rfl (f12.ne rfl (f11.ne rfl (f10.ne rfl (f9.ne rfl (f8.ne rfl (f7.ne rfl (f6.ne rfl (f5.ne rfl (f4.ne rfl (f3.ne rfl (f2.ne rfl (f1.ne rfl e192)))))))))))))))))))))))
  refine s_iaload (j := 0) (v := .int 0) rfl e192_23 (by decide) rfl (by first | rfl | decide) ?_
  have e193_23 := (f23.ne rfl (f22.ne rfl (f21.ne rfl (f20.ne rfl (f19.ne rfl (f18.ne rfl (f17.ne rfl (f16.ne rfl (f15.ne rfl (f14.ne rfl (f13.ne rfl (f12.ne rfl (f11.ne rfl (f10.ne rfl (f9.ne rfl (f8.ne rfl (f7.ne rfl (f6.ne rfl (f5.ne rfl (f4.ne rfl (f3.ne rfl (f2.ne rfl (f1.ne rfl e193)))))))))))))))))))))))
  refine s_iastore (j := 0) rfl e193_23 (by decide) rfl (fun h24 o24 f24 => ?_)
  have s24 := s23.put f24
  refine q_aload_n rfl rfl ?_
  refine q_dup rfl rfl ?_
  have e191_24 := (o23.ne f24 rfl)
  refine s_get (v := .int 0) rfl e191_24 rfl rfl ?_
  refine q_iconst rfl ?_
  refine s_iadd (k := 1) rfl (by decide) ?_
  refine s_put (vs' := [.int 0, .ref 192, .ref 193, .int 1, .ref 194, .ref 195, .ref 196, .ref 197, .ref 198, .ref 199, .ref 200, .ref 201, .ref 202, .ref 203, .ref 204, .ref 205, .int (-1), .int 0, .ref 206, .ref 207, .ref 208, .ref 209, .ref 210, .ref 211, .ref 212, .ref 213, .ref 214, .ref 215, .int 0, .int 0, .int 0, .int 0, .ref 216, .ref 217, .ref 218, .ref 219, .ref 220, .int (-1), .int 0, .int 0, .int 0, .int 0, .int 0, .int 0, .ref 221, .ref 222, .ref 223, .ref 224, .int 0, .ref 225, .int 0, .ref 226, .ref 227, .int 0, .ref 228, .ref 229, .ref 230, .ref 231, .ref 232]) rfl e191_24 rfl rfl rfl rfl (fun h25 o25 f25 => ?_)
  have s25 := s24.put f25
  refine s_iinc (y := 1) (lv' := [(2, .int 1), (0, .ref 191), (1, .int 9)]) rfl rfl (by decide) (by decide) rfl ?_
  refine q_goto rfl ?_
  refine q_iload_n rfl rfl ?_
  refine q_iload_n rfl rfl ?_
  refine q_icmp_ge rfl (fun c => absurd c (by decide)) (fun _ => ?_)
  refine q_aload_n rfl rfl ?_
  refine s_get (v := .ref 193) rfl o25 rfl rfl ?_
  refine q_aload_n rfl rfl ?_
  refine s_get (v := .int 1) rfl o25 rfl rfl ?_
  refine q_aload_n rfl rfl ?_
  refine s_get (v := .ref 192) rfl o25 rfl rfl ?_
  refine q_iload_n rfl rfl ?_
  have e192_25 := (f25.ne rfl (f24.ne rfl e192_23))
  refine s_iaload (j := 1) (v := .int 0) rfl e192_25 (by decide) rfl (by first | rfl | decide) ?_
  have e193_25 := (f25.ne rfl o24)
  refine s_iastore (j := 1) rfl e193_25 (by decide) rfl (fun h26 o26 f26 => ?_)
  have s26 := s25.put f26
  refine q_aload_n rfl rfl ?_
  refine q_dup rfl rfl ?_
  have e191_26 := (o25.ne f26 rfl)
  refine s_get (v := .int 1) rfl e191_26 rfl rfl ?_
  refine q_iconst rfl ?_
  refine s_iadd (k := 2) rfl (by decide) ?_
  refine s_put (vs' := [.int 0, .ref 192, .ref 193, .int 2, .ref 194, .ref 195, .ref 196, .ref 197, .ref 198, .ref 199, .ref 200, .ref 201, .ref 202, .ref 203, .ref 204, .ref 205, .int (-1), .int 0, .ref 206, .ref 207, .ref 208, .ref 209, .ref 210, .ref 211, .ref 212, .ref 213, .ref 214, .ref 215, .int 0, .int 0, .int 0, .int 0, .ref 216, .ref 217, .ref 218, .ref 219, .ref 220, .int (-1), .int 0, .int 0, .int 0, .int 0, .int 0, .int 0, .ref 221, .ref 222, .ref 223, .ref 224, .int 0, .ref 225, .int 0, .ref 226, .ref 227, .int 0, .ref 228, .ref 229, .ref 230, .ref 231, .ref 232]) rfl e191_26 rfl rfl rfl rfl (fun h27 o27 f27 => ?_)
  have s27 := s26.put f27
  refine s_iinc (y := 2) (lv' := [(2, .int 2), (0, .ref 191), (1, .int 9)]) rfl rfl (by decide) (by decide) rfl ?_
  refine q_goto rfl ?_
  refine q_iload_n rfl rfl ?_
  refine q_iload_n rfl rfl ?_
  refine q_icmp_ge rfl (fun c => absurd c (by decide)) (fun _ => ?_)
  refine q_aload_n rfl rfl ?_
  refine s_get (v := .ref 193) rfl o27 rfl rfl ?_
  refine q_aload_n rfl rfl ?_
  refine s_get (v := .int 2) rfl o27 rfl rfl ?_
  refine q_aload_n rfl rfl ?_
  refine s_get (v := .ref 192) rfl o27 rfl rfl ?_
  refine q_iload_n rfl rfl ?_
  have e192_27 := (f27.ne rfl (f26.ne rfl e192_25))
  refine s_iaload (j := 2) (v := .int 0) rfl e192_27 (by decide) rfl (by first | rfl | decide) ?_
  have e193_27 := (f27.ne rfl o26)
  refine s_iastore (j := 2) rfl e193_27 (by decide) rfl (fun h28 o28 f28 => ?_)
  have s28 := s27.put f28
  refine q_aload_n rfl rfl ?_
  refine q_dup rfl rfl ?_
  have e191_28 := (o27.ne f28 rfl)
  refine s_get (v := .int 2) rfl e191_28 rfl rfl ?_
  refine q_iconst rfl ?_
  refine s_iadd (k := 3) rfl (by decide) ?_
  refine s_put (vs' := [.int 0, .ref 192, .ref 193, .int 3, .ref 194, .ref 195, .ref 196, .ref 197, .ref 198, .ref 199, .ref 200, .ref 201, .ref 202, .ref 203, .ref 204, .ref 205, .int (-1), .int 0, .ref 206, .ref 207, .ref 208, .ref 209, .ref 210, .ref 211, .ref 212, .ref 213, .ref 214, .ref 215, .int 0, .int 0, .int 0, .int 0, .ref 216, .ref 217, .ref 218, .ref 219, .ref 220, .int (-1), .int 0, .int 0, .int 0, .int 0, .int 0, .int 0, .ref 221, .ref 222, .ref 223, .ref 224, .int 0, .ref 225, .int 0, .ref 226, .ref 227, .int 0, .ref 228, .ref 229, .ref 230, .ref 231, .ref 232]) rfl e191_28 rfl rfl rfl rfl (fun h29 o29 f29 => ?_)
  have s29 := s28.put f29
  refine s_iinc (y := 3) (lv' := [(2, .int 3), (0, .ref 191), (1, .int 9)]) rfl rfl (by decide) (by decide) rfl ?_
  refine q_goto rfl ?_
  refine q_iload_n rfl rfl ?_
  refine q_iload_n rfl rfl ?_
  refine q_icmp_ge rfl (fun c => absurd c (by decide)) (fun _ => ?_)
  refine q_aload_n rfl rfl ?_
  refine s_get (v := .ref 193) rfl o29 rfl rfl ?_
  refine q_aload_n rfl rfl ?_
  refine s_get (v := .int 3) rfl o29 rfl rfl ?_
  refine q_aload_n rfl rfl ?_
  refine s_get (v := .ref 192) rfl o29 rfl rfl ?_
  refine q_iload_n rfl rfl ?_
  have e192_29 := (f29.ne rfl (f28.ne rfl e192_27))
  refine s_iaload (j := 3) (v := .int 0) rfl e192_29 (by decide) rfl (by first | rfl | decide) ?_
  have e193_29 := (f29.ne rfl o28)
  refine s_iastore (j := 3) rfl e193_29 (by decide) rfl (fun h30 o30 f30 => ?_)
  have s30 := s29.put f30
  refine q_aload_n rfl rfl ?_
  refine q_dup rfl rfl ?_
  have e191_30 := (o29.ne f30 rfl)
  refine s_get (v := .int 3) rfl e191_30 rfl rfl ?_
  refine q_iconst rfl ?_
  refine s_iadd (k := 4) rfl (by decide) ?_
  refine s_put (vs' := [.int 0, .ref 192, .ref 193, .int 4, .ref 194, .ref 195, .ref 196, .ref 197, .ref 198, .ref 199, .ref 200, .ref 201, .ref 202, .ref 203, .ref 204, .ref 205, .int (-1), .int 0, .ref 206, .ref 207, .ref 208, .ref 209, .ref 210, .ref 211, .ref 212, .ref 213, .ref 214, .ref 215, .int 0, .int 0, .int 0, .int 0, .ref 216, .ref 217, .ref 218, .ref 219, .ref 220, .int (-1), .int 0, .int 0, .int 0, .int 0, .int 0, .int 0, .ref 221, .ref 222, .ref 223, .ref 224, .int 0, .ref 225, .int 0, .ref 226, .ref 227, .int 0, .ref 228, .ref 229, .ref 230, .ref 231, .ref 232]) rfl e191_30 rfl rfl rfl rfl (fun h31 o31 f31 => ?_)
  have s31 := s30.put f31
  refine s_iinc (y := 4) (lv' := [(2, .int 4), (0, .ref 191), (1, .int 9)]) rfl rfl (by decide) (by decide) rfl ?_
  refine q_goto rfl ?_
  refine q_iload_n rfl rfl ?_
  refine q_iload_n rfl rfl ?_
  refine q_icmp_ge rfl (fun c => absurd c (by decide)) (fun _ => ?_)
  refine q_aload_n rfl rfl ?_
  refine s_get (v := .ref 193) rfl o31 rfl rfl ?_
  refine q_aload_n rfl rfl ?_
  refine s_get (v := .int 4) rfl o31 rfl rfl ?_
  refine q_aload_n rfl rfl ?_
  refine s_get (v := .ref 192) rfl o31 rfl rfl ?_
  refine q_iload_n rfl rfl ?_
  have e192_31 := (f31.ne rfl (f30.ne rfl e192_29))
  refine s_iaload (j := 4) (v := .int 0) rfl e192_31 (by decide) rfl (by first | rfl | decide) ?_
  have e193_31 := (f31.ne rfl o30)
  refine s_iastore (j := 4) rfl e193_31 (by decide) rfl (fun h32 o32 f32 => ?_)
  have s32 := s31.put f32
  refine q_aload_n rfl rfl ?_
  refine q_dup rfl rfl ?_
  have e191_32 := (o31.ne f32 rfl)
  refine s_get (v := .int 4) rfl e191_32 rfl rfl ?_
  refine q_iconst rfl ?_
  refine s_iadd (k := 5) rfl (by decide) ?_
  refine s_put (vs' := [.int 0, .ref 192, .ref 193, .int 5, .ref 194, .ref 195, .ref 196, .ref 197, .ref 198, .ref 199, .ref 200, .ref 201, .ref 202, .ref 203, .ref 204, .ref 205, .int (-1), .int 0, .ref 206, .ref 207, .ref 208, .ref 209, .ref 210, .ref 211, .ref 212, .ref 213, .ref 214, .ref 215, .int 0, .int 0, .int 0, .int 0, .ref 216, .ref 217, .ref 218, .ref 219, .ref 220, .int (-1), .int 0, .int 0, .int 0, .int 0, .int 0, .int 0, .ref 221, .ref 222, .ref 223, .ref 224, .int 0, .ref 225, .int 0, .ref 226, .ref 227, .int 0, .ref 228, .ref 229, .ref 230, .ref 231, .ref 232]) rfl e191_32 rfl rfl rfl rfl (fun h33 o33 f33 => ?_)
  have s33 := s32.put f33
  refine s_iinc (y := 5) (lv' := [(2, .int 5), (0, .ref 191), (1, .int 9)]) rfl rfl (by decide) (by decide) rfl ?_
  refine q_goto rfl ?_
  refine q_iload_n rfl rfl ?_
  refine q_iload_n rfl rfl ?_
  refine q_icmp_ge rfl (fun c => absurd c (by decide)) (fun _ => ?_)
  refine q_aload_n rfl rfl ?_
  refine s_get (v := .ref 193) rfl o33 rfl rfl ?_
  refine q_aload_n rfl rfl ?_
  refine s_get (v := .int 5) rfl o33 rfl rfl ?_
  refine q_aload_n rfl rfl ?_
  refine s_get (v := .ref 192) rfl o33 rfl rfl ?_
  refine q_iload_n rfl rfl ?_
  have e192_33 := (f33.ne rfl (f32.ne rfl e192_31))
  refine s_iaload (j := 5) (v := .int 0) rfl e192_33 (by decide) rfl (by first | rfl | decide) ?_
  have e193_33 := (f33.ne rfl o32)
  refine s_iastore (j := 5) rfl e193_33 (by decide) rfl (fun h34 o34 f34 => ?_)
  have s34 := s33.put f34
  refine q_aload_n rfl rfl ?_
  refine q_dup rfl rfl ?_
  have e191_34 := (o33.ne f34 rfl)
  refine s_get (v := .int 5) rfl e191_34 rfl rfl ?_
  refine q_iconst rfl ?_
  refine s_iadd (k := 6) rfl (by decide) ?_
  refine s_put (vs' := [.int 0, .ref 192, .ref 193, .int 6, .ref 194, .ref 195, .ref 196, .ref 197, .ref 198, .ref 199, .ref 200, .ref 201, .ref 202, .ref 203, .ref 204, .ref 205, .int (-1), .int 0, .ref 206, .ref 207, .ref 208, .ref 209, .ref 210, .ref 211, .ref 212, .ref 213, .ref 214, .ref 215, .int 0, .int 0, .int 0, .int 0, .ref 216, .ref 217, .ref 218, .ref 219, .ref 220, .int (-1), .int 0, .int 0, .int 0, .int 0, .int 0, .int 0, .ref 221, .ref 222, .ref 223, .ref 224, .int 0, .ref 225, .int 0, .ref 226, .ref 227, .int 0, .ref 228, .ref 229, .ref 230, .ref 231, .ref 232]) rfl e191_34 rfl rfl rfl rfl (fun h35 o35 f35 => ?_)
  have s35 := s34.put f35
  refine s_iinc (y := 6) (lv' := [(2, .int 6), (0, .ref 191), (1, .int 9)]) rfl rfl (by decide) (by decide) rfl ?_
  refine q_goto rfl ?_
  refine q_iload_n rfl rfl ?_
  refine q_iload_n rfl rfl ?_
  refine q_icmp_ge rfl (fun c => absurd c (by decide)) (fun _ => ?_)
  refine q_aload_n rfl rfl ?_
  refine s_get (v := .ref 193) rfl o35 rfl rfl ?_
  refine q_aload_n rfl rfl ?_
  refine s_get (v := .int 6) rfl o35 rfl rfl ?_
  refine q_aload_n rfl rfl ?_
  refine s_get (v := .ref 192) rfl o35 rfl rfl ?_
  refine q_iload_n rfl rfl ?_
  have e192_35 := (f35.ne rfl (f34.ne rfl e192_33))
  refine s_iaload (j := 6) (v := .int 0) rfl e192_35 (by decide) rfl (by first | rfl | decide) ?_
  have e193_35 := (f35.ne rfl o34)
  refine s_iastore (j := 6) rfl e193_35 (by decide) rfl (fun h36 o36 f36 => ?_)
  have s36 := s35.put f36
  refine q_aload_n rfl rfl ?_
  refine q_dup rfl rfl ?_
  have e191_36 := (o35.ne f36 rfl)
  refine s_get (v := .int 6) rfl e191_36 rfl rfl ?_
  refine q_iconst rfl ?_
  refine s_iadd (k := 7) rfl (by decide) ?_
  refine s_put (vs' := [.int 0, .ref 192, .ref 193, .int 7, .ref 194, .ref 195, .ref 196, .ref 197, .ref 198, .ref 199, .ref 200, .ref 201, .ref 202, .ref 203, .ref 204, .ref 205, .int (-1), .int 0, .ref 206, .ref 207, .ref 208, .ref 209, .ref 210, .ref 211, .ref 212, .ref 213, .ref 214, .ref 215, .int 0, .int 0, .int 0, .int 0, .ref 216, .ref 217, .ref 218, .ref 219, .ref 220, .int (-1), .int 0, .int 0, .int 0, .int 0, .int 0, .int 0, .ref 221, .ref 222, .ref 223, .ref 224, .int 0, .ref 225, .int 0, .ref 226, .ref 227, .int 0, .ref 228, .ref 229, .ref 230, .ref 231, .ref 232]) rfl e191_36 rfl rfl rfl rfl (fun h37 o37 f37 => ?_)
  have s37 := s36.put f37
  refine s_iinc (y := 7) (lv' := [(2, .int 7), (0, .ref 191), (1, .int 9)]) rfl rfl (by decide) (by decide) rfl ?_
  refine q_goto rfl ?_
  refine q_iload_n rfl rfl ?_
  refine q_iload_n rfl rfl ?_
  refine q_icmp_ge rfl (fun c => absurd c (by decide)) (fun _ => ?_)
  refine q_aload_n rfl rfl ?_
  refine s_get (v := .ref 193) rfl o37 rfl rfl ?_
  refine q_aload_n rfl rfl ?_
  refine s_get (v := .int 7) rfl o37 rfl rfl ?_
  refine q_aload_n rfl rfl ?_
  refine s_get (v := .ref 192) rfl o37 rfl rfl ?_
  refine q_iload_n rfl rfl ?_
  have e192_37 := (f37.ne rfl (f36.ne rfl e192_35))
  refine s_iaload (j := 7) (v := .int 0) rfl e192_37 (by decide) rfl (by first | rfl | decide) ?_
  have e193_37 := (f37.ne rfl o36)
  refine s_iastore (j := 7) rfl e193_37 (by decide) rfl (fun h38 o38 f38 => ?_)
  have s38 := s37.put f38
  refine q_aload_n rfl rfl ?_
  refine q_dup rfl rfl ?_
  have e191_38 := (o37.ne f38 rfl)
  refine s_get (v := .int 7) rfl e191_38 rfl rfl ?_
  refine q_iconst rfl ?_
  refine s_iadd (k := 8) rfl (by decide) ?_
  refine s_put (vs' := [.int 0, .ref 192, .ref 193, .int 8, .ref 194, .ref 195, .ref 196, .ref 197, .ref 198, .ref 199, .ref 200, .ref 201, .ref 202, .ref 203, .ref 204, .ref 205, .int (-1), .int 0, .ref 206, .ref 207, .ref 208, .ref 209, .ref 210, .ref 211, .ref 212, .ref 213, .ref 214, .ref 215, .int 0, .int 0, .int 0, .int 0, .ref 216, .ref 217, .ref 218, .ref 219, .ref 220, .int (-1), .int 0, .int 0, .int 0, .int 0, .int 0, .int 0, .ref 221, .ref 222, .ref 223, .ref 224, .int 0, .ref 225, .int 0, .ref 226, .ref 227, .int 0, .ref 228, .ref 229, .ref 230, .ref 231, .ref 232]) rfl e191_38 rfl rfl rfl rfl (fun h39 o39 f39 => ?_)
  have s39 := s38.put f39
  refine s_iinc (y := 8) (lv' := [(2, .int 8), (0, .ref 191), (1, .int 9)]) rfl rfl (by decide) (by decide) rfl ?_
  refine q_goto rfl ?_
  refine q_iload_n rfl rfl ?_
  refine q_iload_n rfl rfl ?_
  refine q_icmp_ge rfl (fun c => absurd c (by decide)) (fun _ => ?_)
  refine q_aload_n rfl rfl ?_
  refine s_get (v := .ref 193) rfl o39 rfl rfl ?_
  refine q_aload_n rfl rfl ?_
  refine s_get (v := .int 8) rfl o39 rfl rfl ?_
  refine q_aload_n rfl rfl ?_
  refine s_get (v := .ref 192) rfl o39 rfl rfl ?_
  refine q_iload_n rfl rfl ?_
  have e192_39 := (f39.ne rfl (f38.ne rfl e192_37))
  refine s_iaload (j := 8) (v := .int 0) rfl e192_39 (by decide) rfl (by first | rfl | decide) ?_
  have e193_39 := (f39.ne rfl o38)
  refine s_iastore (j := 8) rfl e193_39 (by decide) rfl (fun h40 o40 f40 => ?_)
  have s40 := s39.put f40
  refine q_aload_n rfl rfl ?_
  refine q_dup rfl rfl ?_
  have e191_40 := (o39.ne f40 rfl)
  refine s_get (v := .int 8) rfl e191_40 rfl rfl ?_
  refine q_iconst rfl ?_
  refine s_iadd (k := 9) rfl (by decide) ?_
  refine s_put (vs' := [.int 0, .ref 192, .ref 193, .int 9, .ref 194, .ref 195, .ref 196, .ref 197, .ref 198, .ref 199, .ref 200, .ref 201, .ref 202, .ref 203, .ref 204, .ref 205, .int (-1), .int 0, .ref 206, .ref 207, .ref 208, .ref 209, .ref 210, .ref 211, .ref 212, .ref 213, .ref 214, .ref 215, .int 0, .int 0, .int 0, .int 0, .ref 216, .ref 217, .ref 218, .ref 219, .ref 220, .int (-1), .int 0, .int 0, .int 0, .int 0, .int 0, .int 0, .ref 221, .ref 222, .ref 223, .ref 224, .int 0, .ref 225, .int 0, .ref 226, .ref 227, .int 0, .ref 228, .ref 229, .ref 230, .ref 231, .ref 232]) rfl e191_40 rfl rfl rfl rfl (fun h41 o41 f41 => ?_)
  have s41 := s40.put f41
  refine s_iinc (y := 9) (lv' := [(2, .int 9), (0, .ref 191), (1, .int 9)]) rfl rfl (by decide) (by decide) rfl ?_
  refine q_goto rfl ?_
  refine q_iload_n rfl rfl ?_
  refine q_iload_n rfl rfl ?_
  refine q_icmp_ge rfl (fun _ => ?_) (fun c => absurd (by decide) c)
  refine q_iconst rfl ?_
  refine s_istore_n (lv' := [(2, .int 0), (0, .ref 191), (1, .int 9)]) rfl (by decide) rfl ?_
  refine q_iload_n rfl rfl ?_
  refine q_bipush rfl ?_
  refine q_icmp_ge rfl (fun c => absurd c (by decide)) (fun _ => ?_)
  refine q_aload_n rfl rfl ?_
  refine s_get (v := .ref 192) rfl o41 rfl rfl ?_
  refine q_iload_n rfl rfl ?_
  refine q_iconst rfl ?_
  have e192_41 := (f41.ne rfl (f40.ne rfl e192_39))
  refine s_iastore (j := 0) rfl e192_41 (by decide) rfl (fun h42 o42 f42 => ?_)
  have s42 := s41.put f42
  refine s_iinc (y := 1) (lv' := [(2, .int 1), (0, .ref 191), (1, .int 9)]) rfl rfl (by decide) (by decide) rfl ?_
  refine q_goto rfl ?_
  refine q_iload_n rfl rfl ?_
  refine q_bipush rfl ?_
  refine q_icmp_ge rfl (fun c => absurd c (by decide)) (fun _ => ?_)
  refine q_aload_n rfl rfl ?_
  have e191_42 := (o41.ne f42 rfl)
  refine s_get (v := .ref 192) rfl e191_42 rfl rfl ?_
  refine q_iload_n rfl rfl ?_
  refine q_iconst rfl ?_
  refine s_iastore (j := 1) rfl o42 (by decide) rfl (fun h43 o43 f43 => ?_)
  have s43 := s42.put f43
  refine s_iinc (y := 2) (lv' := [(2, .int 2), (0, .ref 191), (1, .int 9)]) rfl rfl (by decide) (by decide) rfl ?_
  refine q_goto rfl ?_
  refine q_iload_n rfl rfl ?_
  refine q_bipush rfl ?_
  refine q_icmp_ge rfl (fun c => absurd c (by decide)) (fun _ => ?_)
  refine q_aload_n rfl rfl ?_
  have e191_43 := (e191_42.ne f43 rfl)
  refine s_get (v := .ref 192) rfl e191_43 rfl rfl ?_
  refine q_iload_n rfl rfl ?_
  refine q_iconst rfl ?_
  refine s_iastore (j := 2) rfl o43 (by decide) rfl (fun h44 o44 f44 => ?_)
  have s44 := s43.put f44
  refine s_iinc (y := 3) (lv' := [(2, .int 3), (0, .ref 191), (1, .int 9)]) rfl rfl (by decide) (by decide) rfl ?_
  refine q_goto rfl ?_
  refine q_iload_n rfl rfl ?_
  refine q_bipush rfl ?_
  refine q_icmp_ge rfl (fun c => absurd c (by decide)) (fun _ => ?_)
  refine q_aload_n rfl rfl ?_
  have e191_44 := (e191_43.ne f44 rfl)
  refine s_get (v := .ref 192) rfl e191_44 rfl rfl ?_
  refine q_iload_n rfl rfl ?_
  refine q_iconst rfl ?_
  refine s_iastore (j := 3) rfl o44 (by decide) rfl (fun h45 o45 f45 => ?_)
  have s45 := s44.put f45
  refine s_iinc (y := 4) (lv' := [(2, .int 4), (0, .ref 191), (1, .int 9)]) rfl rfl (by decide) (by decide) rfl ?_
  refine q_goto rfl ?_
  refine q_iload_n rfl rfl ?_
  refine q_bipush rfl ?_
  refine q_icmp_ge rfl (fun c => absurd c (by decide)) (fun _ => ?_)
  refine q_aload_n rfl rfl ?_
  have e191_45 := (e191_44.ne f45 rfl)
  refine s_get (v := .ref 192) rfl e191_45 rfl rfl ?_
  refine q_iload_n rfl rfl ?_
  refine q_iconst rfl ?_
  refine s_iastore (j := 4) rfl o45 (by decide) rfl (fun h46 o46 f46 => ?_)
  have s46 := s45.put f46
  refine s_iinc (y := 5) (lv' := [(2, .int 5), (0, .ref 191), (1, .int 9)]) rfl rfl (by decide) (by decide) rfl ?_
  refine q_goto rfl ?_
  refine q_iload_n rfl rfl ?_
  refine q_bipush rfl ?_
  refine q_icmp_ge rfl (fun c => absurd c (by decide)) (fun _ => ?_)
  refine q_aload_n rfl rfl ?_
  have e191_46 := (e191_45.ne f46 rfl)
  refine s_get (v := .ref 192) rfl e191_46 rfl rfl ?_
  refine q_iload_n rfl rfl ?_
  refine q_iconst rfl ?_
  refine s_iastore (j := 5) rfl o46 (by decide) rfl (fun h47 o47 f47 => ?_)
  have s47 := s46.put f47
  refine s_iinc (y := 6) (lv' := [(2, .int 6), (0, .ref 191), (1, .int 9)]) rfl rfl (by decide) (by decide) rfl ?_
  refine q_goto rfl ?_
  refine q_iload_n rfl rfl ?_
  refine q_bipush rfl ?_
  refine q_icmp_ge rfl (fun c => absurd c (by decide)) (fun _ => ?_)
  refine q_aload_n rfl rfl ?_
  have e191_47 := (e191_46.ne f47 rfl)
  refine s_get (v := .ref 192) rfl e191_47 rfl rfl ?_
  refine q_iload_n rfl rfl ?_
  refine q_iconst rfl ?_
  refine s_iastore (j := 6) rfl o47 (by decide) rfl (fun h48 o48 f48 => ?_)
  have s48 := s47.put f48
  refine s_iinc (y := 7) (lv' := [(2, .int 7), (0, .ref 191), (1, .int 9)]) rfl rfl (by decide) (by decide) rfl ?_
  refine q_goto rfl ?_
  refine q_iload_n rfl rfl ?_
  refine q_bipush rfl ?_
  refine q_icmp_ge rfl (fun c => absurd c (by decide)) (fun _ => ?_)
  refine q_aload_n rfl rfl ?_
  have e191_48 := (e191_47.ne f48 rfl)
  refine s_get (v := .ref 192) rfl e191_48 rfl rfl ?_
  refine q_iload_n rfl rfl ?_
  refine q_iconst rfl ?_
  refine s_iastore (j := 7) rfl o48 (by decide) rfl (fun h49 o49 f49 => ?_)
  have s49 := s48.put f49
  refine s_iinc (y := 8) (lv' := [(2, .int 8), (0, .ref 191), (1, .int 9)]) rfl rfl (by decide) (by decide) rfl ?_
  refine q_goto rfl ?_
  refine q_iload_n rfl rfl ?_
  refine q_bipush rfl ?_
  refine q_icmp_ge rfl (fun c => absurd c (by decide)) (fun _ => ?_)
  refine q_aload_n rfl rfl ?_
  have e191_49 := (e191_48.ne f49 rfl)
  refine s_get (v := .ref 192) rfl e191_49 rfl rfl ?_
  refine q_iload_n rfl rfl ?_
  refine q_iconst rfl ?_
  refine s_iastore (j := 8) rfl o49 (by decide) rfl (fun h50 o50 f50 => ?_)
  have s50 := s49.put f50
  refine s_iinc (y := 9) (lv' := [(2, .int 9), (0, .ref 191), (1, .int 9)]) rfl rfl (by decide) (by decide) rfl ?_
  refine q_goto rfl ?_
  refine q_iload_n rfl rfl ?_
  refine q_bipush rfl ?_
  refine q_icmp_ge rfl (fun c => absurd c (by decide)) (fun _ => ?_)
  refine q_aload_n rfl rfl ?_
  have e191_50 := (e191_49.ne f50 rfl)
  refine s_get (v := .ref 192) rfl e191_50 rfl rfl ?_
  refine q_iload_n rfl rfl ?_
  refine q_iconst rfl ?_
  refine s_iastore (j := 9) rfl o50 (by decide) rfl (fun h51 o51 f51 => ?_)
  have s51 := s50.put f51
  refine s_iinc (y := 10) (lv' := [(2, .int 10), (0, .ref 191), (1, .int 9)]) rfl rfl (by decide) (by decide) rfl ?_
  refine q_goto rfl ?_
  refine q_iload_n rfl rfl ?_
  refine q_bipush rfl ?_
  refine q_icmp_ge rfl (fun c => absurd c (by decide)) (fun _ => ?_)
  refine q_aload_n rfl rfl ?_
  have e191_51 := (e191_50.ne f51 rfl)
  refine s_get (v := .ref 192) rfl e191_51 rfl rfl ?_
  refine q_iload_n rfl rfl ?_
  refine q_iconst rfl ?_
  refine s_iastore (j := 10) rfl o51 (by decide) rfl (fun h52 o52 f52 => ?_)
  have s52 := s51.put f52
  refine s_iinc (y := 11) (lv' := [(2, .int 11), (0, .ref 191), (1, .int 9)]) rfl rfl (by decide) (by decide) rfl ?_
  refine q_goto rfl ?_
  refine q_iload_n rfl rfl ?_
  refine q_bipush rfl ?_
  refine q_icmp_ge rfl (fun c => absurd c (by decide)) (fun _ => ?_)
  refine q_aload_n rfl rfl ?_
  have e191_52 := (e191_51.ne f52 rfl)
  refine s_get (v := .ref 192) rfl e191_52 rfl rfl ?_
  refine q_iload_n rfl rfl ?_
  refine q_iconst rfl ?_
  refine s_iastore (j := 11) rfl o52 (by decide) rfl (fun h53 o53 f53 => ?_)
  have s53 := s52.put f53
  refine s_iinc (y := 12) (lv' := [(2, .int 12), (0, .ref 191), (1, .int 9)]) rfl rfl (by decide) (by decide) rfl ?_
  refine q_goto rfl ?_
  refine q_iload_n rfl rfl ?_
  refine q_bipush rfl ?_
  refine q_icmp_ge rfl (fun c => absurd c (by decide)) (fun _ => ?_)
  refine q_aload_n rfl rfl ?_
  have e191_53 := (e191_52.ne f53 rfl)
  refine s_get (v := .ref 192) rfl e191_53 rfl rfl ?_
  refine q_iload_n rfl rfl ?_
  refine q_iconst rfl ?_
  refine s_iastore (j := 12) rfl o53 (by decide) rfl (fun h54 o54 f54 => ?_)
  have s54 := s53.put f54
  refine s_iinc (y := 13) (lv' := [(2, .int 13), (0, .ref 191), (1, .int 9)]) rfl rfl (by decide) (by decide) rfl ?_
  refine q_goto rfl ?_
  refine q_iload_n rfl rfl ?_
  refine q_bipush rfl ?_
  refine q_icmp_ge rfl (fun c => absurd c (by decide)) (fun _ => ?_)
  refine q_aload_n rfl rfl ?_
  have e191_54 := (e191_53.ne f54 rfl)
  refine s_get (v := .ref 192) rfl e191_54 rfl rfl ?_
  refine q_iload_n rfl rfl ?_
  refine q_iconst rfl ?_
  refine s_iastore (j := 13) rfl o54 (by decide) rfl (fun h55 o55 f55 => ?_)
  have s55 := s54.put f55
  refine s_iinc (y := 14) (lv' := [(2, .int 14), (0, .ref 191), (1, .int 9)]) rfl rfl (by decide) (by decide) rfl ?_
  refine q_goto rfl ?_
  refine q_iload_n rfl rfl ?_
  refine q_bipush rfl ?_
  refine q_icmp_ge rfl (fun c => absurd c (by decide)) (fun _ => ?_)
  refine q_aload_n rfl rfl ?_
  have e191_55 := (e191_54.ne f55 rfl)
  refine s_get (v := .ref 192) rfl e191_55 rfl rfl ?_
  refine q_iload_n rfl rfl ?_
  refine q_iconst rfl ?_
  refine s_iastore (j := 14) rfl o55 (by decide) rfl (fun h56 o56 f56 => ?_)
  have s56 := s55.put f56
  refine s_iinc (y := 15) (lv' := [(2, .int 15), (0, .ref 191), (1, .int 9)]) rfl rfl (by decide) (by decide) rfl ?_
  refine q_goto rfl ?_
  refine q_iload_n rfl rfl ?_
  refine q_bipush rfl ?_
  refine q_icmp_ge rfl (fun c => absurd c (by decide)) (fun _ => ?_)
  refine q_aload_n rfl rfl ?_
  have e191_56 := (e191_55.ne f56 rfl)
  refine s_get (v := .ref 192) rfl e191_56 rfl rfl ?_
  refine q_iload_n rfl rfl ?_
  refine q_iconst rfl ?_
  refine s_iastore (j := 15) rfl o56 (by decide) rfl (fun h57 o57 f57 => ?_)
  have s57 := s56.put f57
  refine s_iinc (y := 16) (lv' := [(2, .int 16), (0, .ref 191), (1, .int 9)]) rfl rfl (by decide) (by decide) rfl ?_
  refine q_goto rfl ?_
  refine q_iload_n rfl rfl ?_
  refine q_bipush rfl ?_
  refine q_icmp_ge rfl (fun c => absurd c (by decide)) (fun _ => ?_)
  refine q_aload_n rfl rfl ?_
  have e191_57 := (e191_56.ne f57 rfl)
  refine s_get (v := .ref 192) rfl e191_57 rfl rfl ?_
  refine q_iload_n rfl rfl ?_
  refine q_iconst rfl ?_
  refine s_iastore (j := 16) rfl o57 (by decide) rfl (fun h58 o58 f58 => ?_)
  have s58 := s57.put f58
  refine s_iinc (y := 17) (lv' := [(2, .int 17), (0, .ref 191), (1, .int 9)]) rfl rfl (by decide) (by decide) rfl ?_
  refine q_goto rfl ?_
  refine q_iload_n rfl rfl ?_
  refine q_bipush rfl ?_
  refine q_icmp_ge rfl (fun c => absurd c (by decide)) (fun _ => ?_)
  refine q_aload_n rfl rfl ?_
  have e191_58 := (e191_57.ne f58 rfl)
  refine s_get (v := .ref 192) rfl e191_58 rfl rfl ?_
  refine q_iload_n rfl rfl ?_
  refine q_iconst rfl ?_
  refine s_iastore (j := 17) rfl o58 (by decide) rfl (fun h59 o59 f59 => ?_)
  have s59 := s58.put f59
  refine s_iinc (y := 18) (lv' := [(2, .int 18), (0, .ref 191), (1, .int 9)]) rfl rfl (by decide) (by decide) rfl ?_
  refine q_goto rfl ?_
  refine q_iload_n rfl rfl ?_
  refine q_bipush rfl ?_
  refine q_icmp_ge rfl (fun c => absurd c (by decide)) (fun _ => ?_)
  refine q_aload_n rfl rfl ?_
  have e191_59 := (e191_58.ne f59 rfl)
  refine s_get (v := .ref 192) rfl e191_59 rfl rfl ?_
  refine q_iload_n rfl rfl ?_
  refine q_iconst rfl ?_
  refine s_iastore (j := 18) rfl o59 (by decide) rfl (fun h60 o60 f60 => ?_)
  have s60 := s59.put f60
  refine s_iinc (y := 19) (lv' := [(2, .int 19), (0, .ref 191), (1, .int 9)]) rfl rfl (by decide) (by decide) rfl ?_
  refine q_goto rfl ?_
  refine q_iload_n rfl rfl ?_
  refine q_bipush rfl ?_
  refine q_icmp_ge rfl (fun c => absurd c (by decide)) (fun _ => ?_)
  refine q_aload_n rfl rfl ?_
  have e191_60 := (e191_59.ne f60 rfl)
  refine s_get (v := .ref 192) rfl e191_60 rfl rfl ?_
  refine q_iload_n rfl rfl ?_
  refine q_iconst rfl ?_
  refine s_iastore (j := 19) rfl o60 (by decide) rfl (fun h61 o61 f61 => ?_)
  have s61 := s60.put f61
  refine s_iinc (y := 20) (lv' := [(2, .int 20), (0, .ref 191), (1, .int 9)]) rfl rfl (by decide) (by decide) rfl ?_
  refine q_goto rfl ?_
  refine q_iload_n rfl rfl ?_
  refine q_bipush rfl ?_
  refine q_icmp_ge rfl (fun _ => ?_) (fun c => absurd (by decide) c)
  refine q_aload_n rfl rfl ?_
  have e191_61 := (e191_60.ne f61 rfl)
  refine s_get (v := .int 9) rfl e191_61 rfl rfl ?_
  refine q_ireturn rfl rfl ?_
  show aW aiP 0 17 658 243 [(4, .int 0), (3, .ref 233), (2, .ref 191), (1, .ref 6), (0, .ref 0)] [.int 9, .int 9] h61 _
  refine q_icmp_eq rfl (fun _ => ?_) (fun c => absurd (by decide) c)
  refine s_iinc (y := 6) (lv' := [(4, .int 6), (3, .ref 233), (2, .ref 191), (1, .ref 6), (0, .ref 0)]) rfl rfl (by decide) (by decide) rfl ?_
  refine q_goto rfl ?_
  refine q_iload rfl rfl ?_
  refine q_aload_n rfl rfl ?_
  have e0_61 := (f61.ne rfl (f60.ne rfl (f59.ne rfl (f58.ne rfl (f57.ne rfl (f56.ne rfl (f55.ne rfl (f54.ne rfl (f53.ne rfl (f52.ne rfl (f51.ne rfl (f50.ne rfl (f49.ne rfl (f48.ne rfl (f47.ne rfl (f46.ne rfl (f45.ne rfl (f44.ne rfl (f43.ne rfl (f42.ne rfl (f41.ne rfl (f40.ne rfl (f39.ne rfl (f38.ne rfl (f37.ne rfl (f36.ne rfl (f35.ne rfl (f34.ne rfl (f33.ne rfl (f32.ne rfl (f31.ne rfl (f30.ne rfl (f29.ne rfl (f28.ne rfl (f27.ne rfl (f26.ne rfl (f25.ne rfl (f24.ne rfl (f23.ne rfl e0_22)))))))))))))))))))))))))))))))))))))))
  refine s_alen (x := 6) rfl e0_61 rfl (by decide) ?_
  refine q_bipush rfl ?_
  refine s_isub (k := 0) rfl (by decide) ?_
  refine q_icmp_gt rfl (fun _ => ?_) (fun c => absurd (by decide) c)
  refine q_iconst rfl ?_
  refine q_ireturn rfl rfl ?_
  exact ⟨rfl, s61.bd rfl⟩
set_option maxRecDepth 20000 in
set_option maxHeartbeats 4000000 in
theorem p_case1_10 {xs : Nat → Int32} {h : ai_H} (F : Fresh 6 xs h) (hk : xs 0 &&& 31 = 1) (hw : xs 1 = 10) : aW aiP 0 17 658 33 [(4, .int 0), (3, .ref 233), (2, .ref 191), (1, .ref 6), (0, .ref 0)] [] h p_Q := by
  obtain ⟨e0, e1, ⟨g2, e2⟩, ⟨g3, e3⟩, ⟨g4, e4⟩, e5, e6, e7, e8, e9, e51, e93, e135, e177, e178, e179, e180, e181, e182, e183, e184, e185, e186, e187, e188, e189, e190, e191, e192, e193, e194, e195, e196, e197, e198, e199, e200, e201, e202, e203, e204, e205, e206, e207, e208, e209, e210, e211, e212, e213, e214, e215, e216, e217, e218, e219, e220, e221, e222, e223, e224, e225, e226, e227, ⟨g228, e228⟩, ⟨g229, e229⟩, e230, e231, e232, e233, s0⟩ := F
  refine q_aload_n rfl rfl ?_
  refine q_iload rfl rfl ?_
  refine s_iaload (j := 0) (v := .int (xs 0)) rfl e0 (by decide) rfl (by first | rfl | decide) ?_
  refine q_bipush rfl ?_
  refine s_iand (k := ((xs 0) &&& (31 : Int32))) rfl rfl ?_
  rw [hk]
  show aW aiP 0 17 658 40 [(4, .int 0), (3, .ref 233), (2, .ref 191), (1, .ref 6), (0, .ref 0)] [.int 1] h _
  refine s_sw (tg := 223) rfl rfl ?_
  refine q_aload_n rfl rfl ?_
  refine q_aload_n rfl rfl ?_
  refine q_iload rfl rfl ?_
  refine q_iconst rfl ?_
  refine s_iadd (k := 1) rfl (by decide) ?_
  refine s_iaload (j := 1) (v := .int (xs 1)) rfl e0 (by decide) rfl (by first | rfl | decide) ?_
  rw [hw]
  refine s_callV (as := [.int 10]) (rest := []) (d' := 16) (w' := 637) (lv' := [(0, .ref 6), (1, .int 10)]) rfl e6 rfl rfl rfl rfl rfl rfl ?_
  refine q_iload_n rfl rfl ?_
  refine q_if_lt rfl (fun c => absurd c (by decide)) (fun _ => ?_)
  refine q_iload_n rfl rfl ?_
  refine q_bipush rfl ?_
  refine q_icmp_gt rfl (fun c => absurd c (by decide)) (fun _ => ?_)
  refine q_aload_n rfl rfl ?_
  refine s_get (v := .int 0) rfl e6 rfl rfl ?_
  refine q_iload_n rfl rfl ?_
  refine s_iadd (k := 10) rfl (by decide) ?_
  refine q_sipush rfl ?_
  refine q_icmp_le rfl (fun _ => ?_) (fun c => absurd (by decide) c)
  refine q_aload_n rfl rfl ?_
  refine s_get (v := .ref 7) rfl e6 rfl rfl ?_
  refine q_iconst rfl ?_
  refine q_aload_n rfl rfl ?_
  refine s_get (v := .ref 8) rfl e6 rfl rfl ?_
  refine q_aload_n rfl rfl ?_
  refine s_get (v := .int 0) rfl e6 rfl rfl ?_
  refine q_iload_n rfl rfl ?_
  refine s_copy (sp := 0) (dp := 0) (k := 10) rfl e7 e8 (by decide) (by decide) (by decide) rfl (by decide) (by decide) (by decide) (fun i _ => rfl) (fun h1 o1 f1 => ?_)
  have s1 := s0.put f1
  refine q_aload_n rfl rfl ?_
  refine q_dup rfl rfl ?_
  have e6_1 := (e6.ne f1 rfl)
  refine s_get (v := .int 0) rfl e6_1 rfl rfl ?_
  refine q_iload_n rfl rfl ?_
  refine s_iadd (k := 10) rfl (by decide) ?_
  refine s_put (vs' := [.ref 7, .ref 8, .int 10, .ref 9, .int (-1), .ref 51, .ref 93, .ref 135, .ref 177, .ref 180, .int 0, .ref 183, .ref 186, .ref 189]) rfl e6_1 rfl rfl rfl rfl (fun h2 o2 f2 => ?_)
  have s2 := s1.put f2
  refine q_aload_n rfl rfl ?_
  refine s_get (v := .ref 7) rfl o2 rfl rfl ?_
  refine q_iconst rfl ?_
  refine s_callS (as := [.ref 7, .int 0]) (rest := []) (d' := 15) (w' := 614) (lv' := [(0, .ref 7), (1, .int 0)]) rfl rfl rfl rfl rfl rfl rfl rfl ?_
  refine q_iconst rfl ?_
  refine s_istore_n (lv' := [(2, .int 0), (0, .ref 7), (1, .int 0)]) rfl (by decide) rfl ?_
  refine q_aload_n rfl rfl ?_
  have e7_2 := (f2.ne rfl (f1.ne rfl e7))
  refine s_alen (x := 20) rfl e7_2 rfl (by decide) ?_
  refine s_istore_n (lv' := [(3, .int 20), (2, .int 0), (0, .ref 7), (1, .int 0)]) rfl (by decide) rfl ?_
  refine q_iload_n rfl rfl ?_
  refine q_iload_n rfl rfl ?_
  refine q_icmp_ge rfl (fun c => absurd c (by decide)) (fun _ => ?_)
  refine q_aload_n rfl rfl ?_
  refine q_iload_n rfl rfl ?_
  refine q_iload_n rfl rfl ?_
  refine s_bastore (j := 0) rfl e7_2 (by decide) rfl (fun h3 o3 f3 => ?_)
  have s3 := s2.put f3
  refine s_iinc (y := 1) (lv' := [(2, .int 1), (3, .int 20), (0, .ref 7), (1, .int 0)]) rfl rfl (by decide) (by decide) rfl ?_
  refine q_goto rfl ?_
  refine q_iload_n rfl rfl ?_
  refine q_iload_n rfl rfl ?_
  refine q_icmp_ge rfl (fun c => absurd c (by decide)) (fun _ => ?_)
  refine q_aload_n rfl rfl ?_
  refine q_iload_n rfl rfl ?_
  refine q_iload_n rfl rfl ?_
  refine s_bastore (j := 1) rfl o3 (by decide) rfl (fun h4 o4 f4 => ?_)
  have s4 := s3.put f4
  refine s_iinc (y := 2) (lv' := [(2, .int 2), (3, .int 20), (0, .ref 7), (1, .int 0)]) rfl rfl (by decide) (by decide) rfl ?_
  refine q_goto rfl ?_
  refine q_iload_n rfl rfl ?_
  refine q_iload_n rfl rfl ?_
  refine q_icmp_ge rfl (fun c => absurd c (by decide)) (fun _ => ?_)
  refine q_aload_n rfl rfl ?_
  refine q_iload_n rfl rfl ?_
  refine q_iload_n rfl rfl ?_
  refine s_bastore (j := 2) rfl o4 (by decide) rfl (fun h5 o5 f5 => ?_)
  have s5 := s4.put f5
  refine s_iinc (y := 3) (lv' := [(2, .int 3), (3, .int 20), (0, .ref 7), (1, .int 0)]) rfl rfl (by decide) (by decide) rfl ?_
  refine q_goto rfl ?_
  refine q_iload_n rfl rfl ?_
  refine q_iload_n rfl rfl ?_
  refine q_icmp_ge rfl (fun c => absurd c (by decide)) (fun _ => ?_)
  refine q_aload_n rfl rfl ?_
  refine q_iload_n rfl rfl ?_
  refine q_iload_n rfl rfl ?_
  refine s_bastore (j := 3) rfl o5 (by decide) rfl (fun h6 o6 f6 => ?_)
  have s6 := s5.put f6
  refine s_iinc (y := 4) (lv' := [(2, .int 4), (3, .int 20), (0, .ref 7), (1, .int 0)]) rfl rfl (by decide) (by decide) rfl ?_
  refine q_goto rfl ?_
  refine q_iload_n rfl rfl ?_
  refine q_iload_n rfl rfl ?_
  refine q_icmp_ge rfl (fun c => absurd c (by decide)) (fun _ => ?_)
  refine q_aload_n rfl rfl ?_
  refine q_iload_n rfl rfl ?_
  refine q_iload_n rfl rfl ?_
  refine s_bastore (j := 4) rfl o6 (by decide) rfl (fun h7 o7 f7 => ?_)
  have s7 := s6.put f7
  refine s_iinc (y := 5) (lv' := [(2, .int 5), (3, .int 20), (0, .ref 7), (1, .int 0)]) rfl rfl (by decide) (by decide) rfl ?_
  refine q_goto rfl ?_
  refine q_iload_n rfl rfl ?_
  refine q_iload_n rfl rfl ?_
  refine q_icmp_ge rfl (fun c => absurd c (by decide)) (fun _ => ?_)
  refine q_aload_n rfl rfl ?_
  refine q_iload_n rfl rfl ?_
  refine q_iload_n rfl rfl ?_
  refine s_bastore (j := 5) rfl o7 (by decide) rfl (fun h8 o8 f8 => ?_)
  have s8 := s7.put f8
  refine s_iinc (y := 6) (lv' := [(2, .int 6), (3, .int 20), (0, .ref 7), (1, .int 0)]) rfl rfl (by decide) (by decide) rfl ?_
  refine q_goto rfl ?_
  refine q_iload_n rfl rfl ?_
  refine q_iload_n rfl rfl ?_
  refine q_icmp_ge rfl (fun c => absurd c (by decide)) (fun _ => ?_)
  refine q_aload_n rfl rfl ?_
  refine q_iload_n rfl rfl ?_
  refine q_iload_n rfl rfl ?_
  refine s_bastore (j := 6) rfl o8 (by decide) rfl (fun h9 o9 f9 => ?_)
  have s9 := s8.put f9
  refine s_iinc (y := 7) (lv' := [(2, .int 7), (3, .int 20), (0, .ref 7), (1, .int 0)]) rfl rfl (by decide) (by decide) rfl ?_
  refine q_goto rfl ?_
  refine q_iload_n rfl rfl ?_
  refine q_iload_n rfl rfl ?_
  refine q_icmp_ge rfl (fun c => absurd c (by decide)) (fun _ => ?_)
  refine q_aload_n rfl rfl ?_
  refine q_iload_n rfl rfl ?_
  refine q_iload_n rfl rfl ?_
  refine s_bastore (j := 7) rfl o9 (by decide) rfl (fun h10 o10 f10 => ?_)
  have s10 := s9.put f10
  refine s_iinc (y := 8) (lv' := [(2, .int 8), (3, .int 20), (0, .ref 7), (1, .int 0)]) rfl rfl (by decide) (by decide) rfl ?_
  refine q_goto rfl ?_
  refine q_iload_n rfl rfl ?_
  refine q_iload_n rfl rfl ?_
  refine q_icmp_ge rfl (fun c => absurd c (by decide)) (fun _ => ?_)
  refine q_aload_n rfl rfl ?_
  refine q_iload_n rfl rfl ?_
  refine q_iload_n rfl rfl ?_
  refine s_bastore (j := 8) rfl o10 (by decide) rfl (fun h11 o11 f11 => ?_)
  have s11 := s10.put f11
  refine s_iinc (y := 9) (lv' := [(2, .int 9), (3, .int 20), (0, .ref 7), (1, .int 0)]) rfl rfl (by decide) (by decide) rfl ?_
  refine q_goto rfl ?_
  refine q_iload_n rfl rfl ?_
  refine q_iload_n rfl rfl ?_
  refine q_icmp_ge rfl (fun c => absurd c (by decide)) (fun _ => ?_)
  refine q_aload_n rfl rfl ?_
  refine q_iload_n rfl rfl ?_
  refine q_iload_n rfl rfl ?_
  refine s_bastore (j := 9) rfl o11 (by decide) rfl (fun h12 o12 f12 => ?_)
  have s12 := s11.put f12
  refine s_iinc (y := 10) (lv' := [(2, .int 10), (3, .int 20), (0, .ref 7), (1, .int 0)]) rfl rfl (by decide) (by decide) rfl ?_
  refine q_goto rfl ?_
  refine q_iload_n rfl rfl ?_
  refine q_iload_n rfl rfl ?_
  refine q_icmp_ge rfl (fun c => absurd c (by decide)) (fun _ => ?_)
  refine q_aload_n rfl rfl ?_
  refine q_iload_n rfl rfl ?_
  refine q_iload_n rfl rfl ?_
  refine s_bastore (j := 10) rfl o12 (by decide) rfl (fun h13 o13 f13 => ?_)
  have s13 := s12.put f13
  refine s_iinc (y := 11) (lv' := [(2, .int 11), (3, .int 20), (0, .ref 7), (1, .int 0)]) rfl rfl (by decide) (by decide) rfl ?_
  refine q_goto rfl ?_
  refine q_iload_n rfl rfl ?_
  refine q_iload_n rfl rfl ?_
  refine q_icmp_ge rfl (fun c => absurd c (by decide)) (fun _ => ?_)
  refine q_aload_n rfl rfl ?_
  refine q_iload_n rfl rfl ?_
  refine q_iload_n rfl rfl ?_
  refine s_bastore (j := 11) rfl o13 (by decide) rfl (fun h14 o14 f14 => ?_)
  have s14 := s13.put f14
  refine s_iinc (y := 12) (lv' := [(2, .int 12), (3, .int 20), (0, .ref 7), (1, .int 0)]) rfl rfl (by decide) (by decide) rfl ?_
  refine q_goto rfl ?_
  refine q_iload_n rfl rfl ?_
  refine q_iload_n rfl rfl ?_
  refine q_icmp_ge rfl (fun c => absurd c (by decide)) (fun _ => ?_)
  refine q_aload_n rfl rfl ?_
  refine q_iload_n rfl rfl ?_
  refine q_iload_n rfl rfl ?_
  refine s_bastore (j := 12) rfl o14 (by decide) rfl (fun h15 o15 f15 => ?_)
  have s15 := s14.put f15
  refine s_iinc (y := 13) (lv' := [(2, .int 13), (3, .int 20), (0, .ref 7), (1, .int 0)]) rfl rfl (by decide) (by decide) rfl ?_
  refine q_goto rfl ?_
  refine q_iload_n rfl rfl ?_
  refine q_iload_n rfl rfl ?_
  refine q_icmp_ge rfl (fun c => absurd c (by decide)) (fun _ => ?_)
  refine q_aload_n rfl rfl ?_
  refine q_iload_n rfl rfl ?_
  refine q_iload_n rfl rfl ?_
  refine s_bastore (j := 13) rfl o15 (by decide) rfl (fun h16 o16 f16 => ?_)
  have s16 := s15.put f16
  refine s_iinc (y := 14) (lv' := [(2, .int 14), (3, .int 20), (0, .ref 7), (1, .int 0)]) rfl rfl (by decide) (by decide) rfl ?_
  refine q_goto rfl ?_
  refine q_iload_n rfl rfl ?_
  refine q_iload_n rfl rfl ?_
  refine q_icmp_ge rfl (fun c => absurd c (by decide)) (fun _ => ?_)
  refine q_aload_n rfl rfl ?_
  refine q_iload_n rfl rfl ?_
  refine q_iload_n rfl rfl ?_
  refine s_bastore (j := 14) rfl o16 (by decide) rfl (fun h17 o17 f17 => ?_)
  have s17 := s16.put f17
  refine s_iinc (y := 15) (lv' := [(2, .int 15), (3, .int 20), (0, .ref 7), (1, .int 0)]) rfl rfl (by decide) (by decide) rfl ?_
  refine q_goto rfl ?_
  refine q_iload_n rfl rfl ?_
  refine q_iload_n rfl rfl ?_
  refine q_icmp_ge rfl (fun c => absurd c (by decide)) (fun _ => ?_)
  refine q_aload_n rfl rfl ?_
  refine q_iload_n rfl rfl ?_
  refine q_iload_n rfl rfl ?_
  refine s_bastore (j := 15) rfl o17 (by decide) rfl (fun h18 o18 f18 => ?_)
  have s18 := s17.put f18
  refine s_iinc (y := 16) (lv' := [(2, .int 16), (3, .int 20), (0, .ref 7), (1, .int 0)]) rfl rfl (by decide) (by decide) rfl ?_
  refine q_goto rfl ?_
  refine q_iload_n rfl rfl ?_
  refine q_iload_n rfl rfl ?_
  refine q_icmp_ge rfl (fun c => absurd c (by decide)) (fun _ => ?_)
  refine q_aload_n rfl rfl ?_
  refine q_iload_n rfl rfl ?_
  refine q_iload_n rfl rfl ?_
  refine s_bastore (j := 16) rfl o18 (by decide) rfl (fun h19 o19 f19 => ?_)
  have s19 := s18.put f19
  refine s_iinc (y := 17) (lv' := [(2, .int 17), (3, .int 20), (0, .ref 7), (1, .int 0)]) rfl rfl (by decide) (by decide) rfl ?_
  refine q_goto rfl ?_
  refine q_iload_n rfl rfl ?_
  refine q_iload_n rfl rfl ?_
  refine q_icmp_ge rfl (fun c => absurd c (by decide)) (fun _ => ?_)
  refine q_aload_n rfl rfl ?_
  refine q_iload_n rfl rfl ?_
  refine q_iload_n rfl rfl ?_
  refine s_bastore (j := 17) rfl o19 (by decide) rfl (fun h20 o20 f20 => ?_)
  have s20 := s19.put f20
  refine s_iinc (y := 18) (lv' := [(2, .int 18), (3, .int 20), (0, .ref 7), (1, .int 0)]) rfl rfl (by decide) (by decide) rfl ?_
  refine q_goto rfl ?_
  refine q_iload_n rfl rfl ?_
  refine q_iload_n rfl rfl ?_
  refine q_icmp_ge rfl (fun c => absurd c (by decide)) (fun _ => ?_)
  refine q_aload_n rfl rfl ?_
  refine q_iload_n rfl rfl ?_
  refine q_iload_n rfl rfl ?_
  refine s_bastore (j := 18) rfl o20 (by decide) rfl (fun h21 o21 f21 => ?_)
  have s21 := s20.put f21
  refine s_iinc (y := 19) (lv' := [(2, .int 19), (3, .int 20), (0, .ref 7), (1, .int 0)]) rfl rfl (by decide) (by decide) rfl ?_
  refine q_goto rfl ?_
  refine q_iload_n rfl rfl ?_
  refine q_iload_n rfl rfl ?_
  refine q_icmp_ge rfl (fun c => absurd c (by decide)) (fun _ => ?_)
  refine q_aload_n rfl rfl ?_
  refine q_iload_n rfl rfl ?_
  refine q_iload_n rfl rfl ?_
  refine s_bastore (j := 19) rfl o21 (by decide) rfl (fun h22 o22 f22 => ?_)
  have s22 := s21.put f22
  refine s_iinc (y := 20) (lv' := [(2, .int 20), (3, .int 20), (0, .ref 7), (1, .int 0)]) rfl rfl (by decide) (by decide) rfl ?_
  refine q_goto rfl ?_
  refine q_iload_n rfl rfl ?_
  refine q_iload_n rfl rfl ?_
  refine q_icmp_ge rfl (fun _ => ?_) (fun c => absurd (by decide) c)
  refine q_return rfl rfl ?_
  show aW aiP 15 16 637 59 [(0, .ref 6), (1, .int 10)] [] h22 _
  refine q_aload_n rfl rfl ?_
  have e6_22 := ((((((((((((((((((((o2.ne f3 rfl).ne f4 rfl).ne f5 rfl).ne f6 rfl).ne f7 rfl).ne f8 rfl).ne f9 rfl).ne f10 rfl).ne f11 rfl).ne f12 rfl).ne f13 rfl).ne f14 rfl).ne f15 rfl).ne f16 rfl).ne f17 rfl).ne f18 rfl).ne f19 rfl).ne f20 rfl).ne f21 rfl).ne f22 rfl)
  refine s_get (v := .int 10) rfl e6_22 rfl rfl ?_
  refine q_ireturn rfl rfl ?_
  show aW aiP 0 17 658 233 [(4, .int 0), (3, .ref 233), (2, .ref 191), (1, .ref 6), (0, .ref 0)] [.int 10] h22 _
  refine q_aload_n rfl rfl ?_
  refine q_aload_n rfl rfl ?_
  refine q_iload rfl rfl ?_
  refine q_iconst rfl ?_
  refine s_iadd (k := 1) rfl (by decide) ?_
  have e0_22 := (f22.ne rfl (f21.ne rfl (f20.ne rfl (f19.ne rfl (f18.ne rfl (f17.ne rfl (f16.ne rfl (f15.ne rfl (f14.ne rfl (f13.ne rfl (f12.ne rfl (f11.ne rfl (f10.ne rfl (f9.ne rfl (f8.ne rfl (f7.ne rfl (f6.ne rfl (f5.ne rfl (f4.ne rfl (f3.ne rfl (f2.ne rfl (f1.ne rfl e0))))))))))))))))))))))
  refine s_iaload (j := 1) (v := .int (xs 1)) rfl e0_22 (by decide) rfl (by first | rfl | decide) ?_
  rw [hw]
  have e191_22 := ((((((((((((((((((((((e191.ne f1 rfl).ne f2 rfl).ne f3 rfl).ne f4 rfl).ne f5 rfl).ne f6 rfl).ne f7 rfl).ne f8 rfl).ne f9 rfl).ne f10 rfl).ne f11 rfl).ne f12 rfl).ne f13 rfl).ne f14 rfl).ne f15 rfl).ne f16 rfl).ne f17 rfl).ne f18 rfl).ne f19 rfl).ne f20 rfl).ne f21 rfl).ne f22 rfl)
  refine s_callV (as := [.int 10]) (rest := [.int 10]) (d' := 16) (w' := 636) (lv' := [(0, .ref 191), (1, .int 10)]) rfl e191_22 rfl rfl rfl rfl rfl rfl ?_
  refine q_aload_n rfl rfl ?_
  refine q_iconst rfl ?_
  refine s_put (vs' := [.int 0, .ref 192, .ref 193, .int 0, .ref 194, .ref 195, .ref 196, .ref 197, .ref 198, .ref 199, .ref 200, .ref 201, .ref 202, .ref 203, .ref 204, .ref 205, .int (-1), .int 0, .ref 206, .ref 207, .ref 208, .ref 209, .ref 210, .ref 211, .ref 212, .ref 213, .ref 214, .ref 215, .int 0, .int 0, .int 0, .int 0, .ref 216, .ref 217, .ref 218, .ref 219, .ref 220, .int (-1), .int 0, .int 0, .int 0, .int 0, .int 0, .int 0, .ref 221, .ref 222, .ref 223, .ref 224, .int 0, .ref 225, .int 0, .ref 226, .ref 227, .int 0, .ref 228, .ref 229, .ref 230, .ref 231, .ref 232]) rfl e191_22 rfl rfl rfl rfl (fun h23 o23 f23 => ?_)
  have s23 := s22.put f23
  refine q_iload_n rfl rfl ?_
  refine q_if_lt rfl (fun c => absurd c (by decide)) (fun _ => ?_)
  refine q_iload_n rfl rfl ?_
  refine q_bipush rfl ?_
  refine q_icmp_gt rfl (fun c => absurd c (by decide)) (fun _ => ?_)
  refine q_aload_n rfl rfl ?_
  refine s_get (v := .int 0) rfl o23 rfl rfl ?_
  refine q_iload_n rfl rfl ?_
  refine s_iadd (k := 10) rfl (by decide) ?_
  refine q_sipush rfl ?_
  refine q_icmp_le rfl (fun _ => ?_) (fun c => absurd (by decide) c)
  refine q_iconst rfl ?_
  refine s_istore_n (lv' := [(2, .int 0), (0, .ref 191), (1, .int 10)]) rfl (by decide) rfl ?_
  refine q_iload_n rfl rfl ?_
  refine q_iload_n rfl rfl ?_
  refine q_icmp_ge rfl (fun c => absurd c (by decide)) (fun _ => ?_)
  refine q_aload_n rfl rfl ?_
  refine s_get (v := .ref 193) rfl o23 rfl rfl ?_
  refine q_aload_n rfl rfl ?_
  refine s_get (v := .int 0) rfl o23 rfl rfl ?_
  refine q_aload_n rfl rfl ?_
  refine s_get (v := .ref 192) rfl o23 rfl rfl ?_
  refine q_iload_n rfl rfl ?_
  have e192_23 := (f23.ne rfl (f22.ne rfl (f21.ne rfl (f20.ne rfl (f19.ne rfl (f18.ne rfl (f17.ne rfl (f16.ne rfl (f15.ne rfl (f14.ne rfl (f13.ne rfl (f12.ne rfl (f11.ne rfl (f10.ne rfl (f9.ne rfl (f8.ne rfl (f7.ne rfl (f6.ne rfl (f5.ne rfl (f4.ne rfl (f3.ne rfl (f2.ne rfl (f1.ne rfl e192)))))))))))))))))))))))
  refine s_iaload (j := 0) (v := .int 0) rfl e192_23 (by decide) rfl (by first | rfl | decide) ?_
  have e193_23 := (f23.ne rfl (f22.ne rfl (f21.ne rfl (f20.ne rfl (f19.ne rfl (f18.ne rfl (f17.ne rfl (f16.ne rfl (f15.ne rfl (f14.ne rfl (f13.ne rfl (f12.ne rfl (f11.ne rfl (f10.ne rfl (f9.ne rfl (f8.ne rfl (f7.ne rfl (f6.ne rfl (f5.ne rfl (f4.ne rfl (f3.ne rfl (f2.ne rfl (f1.ne rfl e193)))))))))))))))))))))))
  refine s_iastore (j := 0) rfl e193_23 (by decide) rfl (fun h24 o24 f24 => ?_)
  have s24 := s23.put f24
  refine q_aload_n rfl rfl ?_
  refine q_dup rfl rfl ?_
  have e191_24 := (o23.ne f24 rfl)
  refine s_get (v := .int 0) rfl e191_24 rfl rfl ?_
  refine q_iconst rfl ?_
  refine s_iadd (k := 1) rfl (by decide) ?_
  refine s_put (vs' := [.int 0, .ref 192, .ref 193, .int 1, .ref 194, .ref 195, .ref 196, .ref 197, .ref 198, .ref 199, .ref 200, .ref 201, .ref 202, .ref 203, .ref 204, .ref 205, .int (-1), .int 0, .ref 206, .ref 207, .ref 208, .ref 209, .ref 210, .ref 211, .ref 212, .ref 213, .ref 214, .ref 215, .int 0, .int 0, .int 0, .int 0, .ref 216, .ref 217, .ref 218, .ref 219, .ref 220, .int (-1), .int 0, .int 0, .int 0, .int 0, .int 0, .int 0, .ref 221, .ref 222, .ref 223, .ref 224, .int 0, .ref 225, .int 0, .ref 226, .ref 227, .int 0, .ref 228, .ref 229, .ref 230, .ref 231, .ref 232]) rfl e191_24 rfl rfl rfl rfl (fun h25 o25 f25 => ?_)
  have s25 := s24.put f25
  refine s_iinc (y := 1) (lv' := [(2, .int 1), (0, .ref 191), (1, .int 10)]) rfl rfl (by decide) (by decide) rfl ?_
  refine q_goto rfl ?_
  refine q_iload_n rfl rfl ?_
  refine q_iload_n rfl rfl ?_
  refine q_icmp_ge rfl (fun c => absurd c (by decide)) (fun _ => ?_)
  refine q_aload_n rfl rfl ?_
  refine s_get (v := .ref 193) rfl o25 rfl rfl ?_
  refine q_aload_n rfl rfl ?_
  refine s_get (v := .int 1) rfl o25 rfl rfl ?_
  refine q_aload_n rfl rfl ?_
  refine s_get (v := .ref 192) rfl o25 rfl rfl ?_
  refine q_iload_n rfl rfl ?_
  have e192_25 := (f25.ne rfl (f24.ne rfl e192_23))
  refine s_iaload (j := 1) (v := .int 0) rfl e192_25 (by decide) rfl (by first | rfl | decide) ?_
  have e193_25 := (f25.ne rfl o24)
  refine s_iastore (j := 1) rfl e193_25 (by decide) rfl (fun h26 o26 f26 => ?_)
  have s26 := s25.put f26
  refine q_aload_n rfl rfl ?_
  refine q_dup rfl rfl ?_
  have e191_26 := (o25.ne f26 rfl)
  refine s_get (v := .int 1) rfl e191_26 rfl rfl ?_
  refine q_iconst rfl ?_
  refine s_iadd (k := 2) rfl (by decide) ?_
  refine s_put (vs' := [.int 0, .ref 192, .ref 193, .int 2, .ref 194, .ref 195, .ref 196, .ref 197, .ref 198, .ref 199, .ref 200, .ref 201, .ref 202, .ref 203, .ref 204, .ref 205, .int (-1), .int 0, .ref 206, .ref 207, .ref 208, .ref 209, .ref 210, .ref 211, .ref 212, .ref 213, .ref 214, .ref 215, .int 0, .int 0, .int 0, .int 0, .ref 216, .ref 217, .ref 218, .ref 219, .ref 220, .int (-1), .int 0, .int 0, .int 0, .int 0, .int 0, .int 0, .ref 221, .ref 222, .ref 223, .ref 224, .int 0, .ref 225, .int 0, .ref 226, .ref 227, .int 0, .ref 228, .ref 229, .ref 230, .ref 231, .ref 232]) rfl e191_26 rfl rfl rfl rfl (fun h27 o27 f27 => ?_)
  have s27 := s26.put f27
  refine s_iinc (y := 2) (lv' := [(2, .int 2), (0, .ref 191), (1, .int 10)]) rfl rfl (by decide) (by decide) rfl ?_
  refine q_goto rfl ?_
  refine q_iload_n rfl rfl ?_
  refine q_iload_n rfl rfl ?_
  refine q_icmp_ge rfl (fun c => absurd c (by decide)) (fun _ => ?_)
  refine q_aload_n rfl rfl ?_
  refine s_get (v := .ref 193) rfl o27 rfl rfl ?_
  refine q_aload_n rfl rfl ?_
  refine s_get (v := .int 2) rfl o27 rfl rfl ?_
  refine q_aload_n rfl rfl ?_
  refine s_get (v := .ref 192) rfl o27 rfl rfl ?_
  refine q_iload_n rfl rfl ?_
  have e192_27 := (f27.ne rfl (f26.ne rfl e192_25))
  refine s_iaload (j := 2) (v := .int 0) rfl e192_27 (by decide) rfl (by first | rfl | decide) ?_
  have e193_27 := (f27.ne rfl o26)
  refine s_iastore (j := 2) rfl e193_27 (by decide) rfl (fun h28 o28 f28 => ?_)
  have s28 := s27.put f28
  refine q_aload_n rfl rfl ?_
  refine q_dup rfl rfl ?_
  have e191_28 := (o27.ne f28 rfl)
  refine s_get (v := .int 2) rfl e191_28 rfl rfl ?_
  refine q_iconst rfl ?_
  refine s_iadd (k := 3) rfl (by decide) ?_
  refine s_put (vs' := [.int 0, .ref 192, .ref 193, .int 3, .ref 194, .ref 195, .ref 196, .ref 197, .ref 198, .ref 199, .ref 200, .ref 201, .ref 202, .ref 203, .ref 204, .ref 205, .int (-1), .int 0, .ref 206, .ref 207, .ref 208, .ref 209, .ref 210, .ref 211, .ref 212, .ref 213, .ref 214, .ref 215, .int 0, .int 0, .int 0, .int 0, .ref 216, .ref 217, .ref 218, .ref 219, .ref 220, .int (-1), .int 0, .int 0, .int 0, .int 0, .int 0, .int 0, .ref 221, .ref 222, .ref 223, .ref 224, .int 0, .ref 225, .int 0, .ref 226, .ref 227, .int 0, .ref 228, .ref 229, .ref 230, .ref 231, .ref 232]) rfl e191_28 rfl rfl rfl rfl (fun h29 o29 f29 => ?_)
  have s29 := s28.put f29
  refine s_iinc (y := 3) (lv' := [(2, .int 3), (0, .ref 191), (1, .int 10)]) rfl rfl (by decide) (by decide) rfl ?_
  refine q_goto rfl ?_
  refine q_iload_n rfl rfl ?_
  refine q_iload_n rfl rfl ?_
  refine q_icmp_ge rfl (fun c => absurd c (by decide)) (fun _ => ?_)
  refine q_aload_n rfl rfl ?_
  refine s_get (v := .ref 193) rfl o29 rfl rfl ?_
  refine q_aload_n rfl rfl ?_
  refine s_get (v := .int 3) rfl o29 rfl rfl ?_
  refine q_aload_n rfl rfl ?_
  refine s_get (v := .ref 192) rfl o29 rfl rfl ?_
  refine q_iload_n rfl rfl ?_
  have e192_29 := (f29.ne rfl (f28.ne rfl e192_27))
  refine s_iaload (j := 3) (v := .int 0) rfl e192_29 (by decide) rfl (by first | rfl | decide) ?_
  have e193_29 := (f29.ne rfl o28)
  refine s_iastore (j := 3) rfl e193_29 (by decide) rfl (fun h30 o30 f30 => ?_)
  have s30 := s29.put f30
  refine q_aload_n rfl rfl ?_
  refine q_dup rfl rfl ?_
  have e191_30 := (o29.ne f30 rfl)
  refine s_get (v := .int 3) rfl e191_30 rfl rfl ?_
  refine q_iconst rfl ?_
  refine s_iadd (k := 4) rfl (by decide) ?_
  refine s_put (vs' := [.int 0, .ref 192, .ref 193, .int 4, .ref 194, .ref 195, .ref 196, .ref 197, .ref 198, .ref 199, .ref 200, .ref 201, .ref 202, .ref 203, .ref 204, .ref 205, .int (-1), .int 0, .ref 206, .ref 207, .ref 208, .ref 209, .ref 210, .ref 211, .ref 212, .ref 213, .ref 214, .ref 215, .int 0, .int 0, .int 0, .int 0, .ref 216, .ref 217, .ref 218, .ref 219, .ref 220, .int (-1), .int 0, .int 0, .int 0, .int 0, .int 0, .int 0, .ref 221, .ref 222, .ref 223, .ref 224, .int 0, .ref 225, .int 0, .ref 226, .ref 227, .int 0, .ref 228, .ref 229, .ref 230, .ref 231, .ref 232]) rfl e191_30 rfl rfl rfl rfl (fun h31 o31 f31 => ?_)
  have s31 := s30.put f31
  refine s_iinc (y := 4) (lv' := [(2, .int 4), (0, .ref 191), (1, .int 10)]) rfl rfl (by decide) (by decide) rfl ?_
  refine q_goto rfl ?_
  refine q_iload_n rfl rfl ?_
  refine q_iload_n rfl rfl ?_
  refine q_icmp_ge rfl (fun c => absurd c (by decide)) (fun _ => ?_)
  refine q_aload_n rfl rfl ?_
  refine s_get (v := .ref 193) rfl o31 rfl rfl ?_
  refine q_aload_n rfl rfl ?_
  refine s_get (v := .int 4) rfl o31 rfl rfl ?_
  refine q_aload_n rfl rfl ?_
  refine s_get (v := .ref 192) rfl o31 rfl rfl ?_
  refine q_iload_n rfl rfl ?_
  have e192_31 := (f31.ne rfl (f30.ne rfl e192_29))
  refine s_iaload (j := 4) (v := .int 0) rfl e192_31 (by decide) rfl (by first | rfl | decide) ?_
  have e193_31 := (f31.ne rfl o30)
  refine s_iastore (j := 4) rfl e193_31 (by decide) rfl (fun h32 o32 f32 => ?_)
  have s32 := s31.put f32
  refine q_aload_n rfl rfl ?_
  refine q_dup rfl rfl ?_
  have e191_32 := (o31.ne f32 rfl)
  refine s_get (v := .int 4) rfl e191_32 rfl rfl ?_
  refine q_iconst rfl ?_
  refine s_iadd (k := 5) rfl (by decide) ?_
  refine s_put (vs' := [.int 0, .ref 192, .ref 193, .int 5, .ref 194, .ref 195, .ref 196, .ref 197, .ref 198, .ref 199, .ref 200, .ref 201, .ref 202, .ref 203, .ref 204, .ref 205, .int (-1), .int 0, .ref 206, .ref 207, .ref 208, .ref 209, .ref 210, .ref 211, .ref 212, .ref 213, .ref 214, .ref 215, .int 0, .int 0, .int 0, .int 0, .ref 216, .ref 217, .ref 218, .ref 219, .ref 220, .int (-1), .int 0, .int 0, .int 0, .int 0, .int 0, .int 0, .ref 221, .ref 222, .ref 223, .ref 224, .int 0, .ref 225, .int 0, .ref 226, .ref 227, .int 0, .ref 228, .ref 229, .ref 230, .ref 231, .ref 232]) rfl e191_32 rfl rfl rfl rfl (fun h33 o33 f33 => ?_)
  have s33 := s32.put f33
  refine s_iinc (y := 5) (lv' := [(2, .int 5), (0, .ref 191), (1, .int 10)]) rfl rfl (by decide) (by decide) rfl ?_
  refine q_goto rfl ?_
  refine q_iload_n rfl rfl ?_
  refine q_iload_n rfl rfl ?_
  refine q_icmp_ge rfl (fun c => absurd c (by decide)) (fun _ => ?_)
  refine q_aload_n rfl rfl ?_
  refine s_get (v := .ref 193) rfl o33 rfl rfl ?_
  refine q_aload_n rfl rfl ?_
  refine s_get (v := .int 5) rfl o33 rfl rfl ?_
  refine q_aload_n rfl rfl ?_
  refine s_get (v := .ref 192) rfl o33 rfl rfl ?_
  refine q_iload_n rfl rfl ?_
  have e192_33 := (f33.ne rfl (f32.ne rfl e192_31))
  refine s_iaload (j := 5) (v := .int 0) rfl e192_33 (by decide) rfl (by first | rfl | decide) ?_
  have e193_33 := (f33.ne rfl o32)
  refine s_iastore (j := 5) rfl e193_33 (by decide) rfl (fun h34 o34 f34 => ?_)
  have s34 := s33.put f34
  refine q_aload_n rfl rfl ?_
  refine q_dup rfl rfl ?_
  have e191_34 := (o33.ne f34 rfl)
  refine s_get (v := .int 5) rfl e191_34 rfl rfl ?_
  refine q_iconst rfl ?_
  refine s_iadd (k := 6) rfl (by decide) ?_
  refine s_put (vs' := [.int 0, .ref 192, .ref 193, .int 6, .ref 194, .ref 195, .ref 196, .ref 197, .ref 198, .ref 199, .ref 200, .ref 201, .ref 202, .ref 203, .ref 204, .ref 205, .int (-1), .int 0, .ref 206, .ref 207, .ref 208, .ref 209, .ref 210, .ref 211, .ref 212, .ref 213, .ref 214, .ref 215, .int 0, .int 0, .int 0, .int 0, .ref 216, .ref 217, .ref 218, .ref 219, .ref 220, .int (-1), .int 0, .int 0, .int 0, .int 0, .int 0, .int 0, .ref 221, .ref 222, .ref 223, .ref 224, .int 0, .ref 225, .int 0, .ref 226, .ref 227, .int 0, .ref 228, .ref 229, .ref 230, .ref 231, .ref 232]) rfl e191_34 rfl rfl rfl rfl (fun h35 o35 f35 => ?_)
  have s35 := s34.put f35
  refine s_iinc (y := 6) (lv' := [(2, .int 6), (0, .ref 191), (1, .int 10)]) rfl rfl (by decide) (by decide) rfl ?_
  refine q_goto rfl ?_
  refine q_iload_n rfl rfl ?_
  refine q_iload_n rfl rfl ?_
  refine q_icmp_ge rfl (fun c => absurd c (by decide)) (fun _ => ?_)
  refine q_aload_n rfl rfl ?_
  refine s_get (v := .ref 193) rfl o35 rfl rfl ?_
  refine q_aload_n rfl rfl ?_
  refine s_get (v := .int 6) rfl o35 rfl rfl ?_
  refine q_aload_n rfl rfl ?_
  refine s_get (v := .ref 192) rfl o35 rfl rfl ?_
  refine q_iload_n rfl rfl ?_
  have e192_35 := (f35.ne rfl (f34.ne rfl e192_33))
  refine s_iaload (j := 6) (v := .int 0) rfl e192_35 (by decide) rfl (by first | rfl | decide) ?_
  have e193_35 := (f35.ne rfl o34)
  refine s_iastore (j := 6) rfl e193_35 (by decide) rfl (fun h36 o36 f36 => ?_)
  have s36 := s35.put f36
  refine q_aload_n rfl rfl ?_
  refine q_dup rfl rfl ?_
  have e191_36 := (o35.ne f36 rfl)
  refine s_get (v := .int 6) rfl e191_36 rfl rfl ?_
  refine q_iconst rfl ?_
  refine s_iadd (k := 7) rfl (by decide) ?_
  refine s_put (vs' := [.int 0, .ref 192, .ref 193, .int 7, .ref 194, .ref 195, .ref 196, .ref 197, .ref 198, .ref 199, .ref 200, .ref 201, .ref 202, .ref 203, .ref 204, .ref 205, .int (-1), .int 0, .ref 206, .ref 207, .ref 208, .ref 209, .ref 210, .ref 211, .ref 212, .ref 213, .ref 214, .ref 215, .int 0, .int 0, .int 0, .int 0, .ref 216, .ref 217, .ref 218, .ref 219, .ref 220, .int (-1), .int 0, .int 0, .int 0, .int 0, .int 0, .int 0, .ref 221, .ref 222, .ref 223, .ref 224, .int 0, .ref 225, .int 0, .ref 226, .ref 227, .int 0, .ref 228, .ref 229, .ref 230, .ref 231, .ref 232]) rfl e191_36 rfl rfl rfl rfl (fun h37 o37 f37 => ?_)
  have s37 := s36.put f37
  refine s_iinc (y := 7) (lv' := [(2, .int 7), (0, .ref 191), (1, .int 10)]) rfl rfl (by decide) (by decide) rfl ?_
  refine q_goto rfl ?_
  refine q_iload_n rfl rfl ?_
  refine q_iload_n rfl rfl ?_
  refine q_icmp_ge rfl (fun c => absurd c (by decide)) (fun _ => ?_)
  refine q_aload_n rfl rfl ?_
  refine s_get (v := .ref 193) rfl o37 rfl rfl ?_
  refine q_aload_n rfl rfl ?_
  refine s_get (v := .int 7) rfl o37 rfl rfl ?_
  refine q_aload_n rfl rfl ?_
  refine s_get (v := .ref 192) rfl o37 rfl rfl ?_
  refine q_iload_n rfl rfl ?_
  have e192_37 := (f37.ne rfl (f36.ne rfl e192_35))
  refine s_iaload (j := 7) (v := .int 0) rfl e192_37 (by decide) rfl (by first | rfl | decide) ?_
  have e193_37 := (f37.ne rfl o36)
  refine s_iastore (j := 7) rfl e193_37 (by decide) rfl (fun h38 o38 f38 => ?_)
  have s38 := s37.put f38
  refine q_aload_n rfl rfl ?_
  refine q_dup rfl rfl ?_
  have e191_38 := (o37.ne f38 rfl)
  refine s_get (v := .int 7) rfl e191_38 rfl rfl ?_
  refine q_iconst rfl ?_
  refine s_iadd (k := 8) rfl (by decide) ?_
  refine s_put (vs' := [.int 0, .ref 192, .ref 193, .int 8, .ref 194, .ref 195, .ref 196, .ref 197, .ref 198, .ref 199, .ref 200, .ref 201, .ref 202, .ref 203, .ref 204, .ref 205, .int (-1), .int 0, .ref 206, .ref 207, .ref 208, .ref 209, .ref 210, .ref 211, .ref 212, .ref 213, .ref 214, .ref 215, .int 0, .int 0, .int 0, .int 0, .ref 216, .ref 217, .ref 218, .ref 219, .ref 220, .int (-1), .int 0, .int 0, .int 0, .int 0, .int 0, .int 0, .ref 221, .ref 222, .ref 223, .ref 224, .int 0, .ref 225, .int 0, .ref 226, .ref 227, .int 0, .ref 228, .ref 229, .ref 230, .ref 231, .ref 232]) rfl e191_38 rfl rfl rfl rfl (fun h39 o39 f39 => ?_)
  have s39 := s38.put f39
  refine s_iinc (y := 8) (lv' := [(2, .int 8), (0, .ref 191), (1, .int 10)]) rfl rfl (by decide) (by decide) rfl ?_
  refine q_goto rfl ?_
  refine q_iload_n rfl rfl ?_
  refine q_iload_n rfl rfl ?_
  refine q_icmp_ge rfl (fun c => absurd c (by decide)) (fun _ => ?_)
  refine q_aload_n rfl rfl ?_
  refine s_get (v := .ref 193) rfl o39 rfl rfl ?_
  refine q_aload_n rfl rfl ?_
  refine s_get (v := .int 8) rfl o39 rfl rfl ?_
  refine q_aload_n rfl rfl ?_
  refine s_get (v := .ref 192) rfl o39 rfl rfl ?_
  refine q_iload_n rfl rfl ?_
  have e192_39 := (f39.ne rfl (f38.ne rfl e192_37))
  refine s_iaload (j := 8) (v := .int 0) rfl e192_39 (by decide) rfl (by first | rfl | decide) ?_
  have e193_39 := (f39.ne rfl o38)
  refine s_iastore (j := 8) rfl e193_39 (by decide) rfl (fun h40 o40 f40 => ?_)
  have s40 := s39.put f40
  refine q_aload_n rfl rfl ?_
  refine q_dup rfl rfl ?_
  have e191_40 := (o39.ne f40 rfl)
  refine s_get (v := .int 8) rfl e191_40 rfl rfl ?_
  refine q_iconst rfl ?_
  refine s_iadd (k := 9) rfl (by decide) ?_
  refine s_put (vs' := [.int 0, .ref 192, .ref 193, .int 9, .ref 194, .ref 195, .ref 196, .ref 197, .ref 198, .ref 199, .ref 200, .ref 201, .ref 202, .ref 203, .ref 204, .ref 205, .int (-1), .int 0, .ref 206, .ref 207, .ref 208, .ref 209, .ref 210, .ref 211, .ref 212, .ref 213, .ref 214, .ref 215, .int 0, .int 0, .int 0, .int 0, .ref 216, .ref 217, .ref 218, .ref 219, .ref 220, .int (-1), .int 0, .int 0, .int 0, .int 0, .int 0, .int 0, .ref 221, .ref 222, .ref 223, .ref 224, .int 0, .ref 225, .int 0, .ref 226, .ref 227, .int 0, .ref 228, .ref 229, .ref 230, .ref 231, .ref 232]) rfl e191_40 rfl rfl rfl rfl (fun h41 o41 f41 => ?_)
  have s41 := s40.put f41
  refine s_iinc (y := 9) (lv' := [(2, .int 9), (0, .ref 191), (1, .int 10)]) rfl rfl (by decide) (by decide) rfl ?_
  refine q_goto rfl ?_
  refine q_iload_n rfl rfl ?_
  refine q_iload_n rfl rfl ?_
  refine q_icmp_ge rfl (fun c => absurd c (by decide)) (fun _ => ?_)
  refine q_aload_n rfl rfl ?_
  refine s_get (v := .ref 193) rfl o41 rfl rfl ?_
  refine q_aload_n rfl rfl ?_
  refine s_get (v := .int 9) rfl o41 rfl rfl ?_
  refine q_aload_n rfl rfl ?_
  refine s_get (v := .ref 192) rfl o41 rfl rfl ?_
  refine q_iload_n rfl rfl ?_
  have e192_41 := (f41.ne rfl (f40.ne rfl e192_39))
  refine s_iaload (j := 9) (v := .int 0) rfl e192_41 (by decide) rfl (by first | rfl | decide) ?_
  have e193_41 := (f41.ne rfl o40)
  refine s_iastore (j := 9) rfl e193_41 (by decide) rfl (fun h42 o42 f42 => ?_)
  have s42 := s41.put f42
  refine q_aload_n rfl rfl ?_
  refine q_dup rfl rfl ?_
  have e191_42 := (o41.ne f42 rfl)
  refine s_get (v := .int 9) rfl e191_42 rfl rfl ?_
  refine q_iconst rfl ?_
  refine s_iadd (k := 10) rfl (by decide) ?_
  refine s_put (vs' := [.int 0, .ref 192, .ref 193, .int 10, .ref 194, .ref 195, .ref 196, .ref 197, .ref 198, .ref 199, .ref 200, .ref 201, .ref 202, .ref 203, .ref 204, .ref 205, .int (-1), .int 0, .ref 206, .ref 207, .ref 208, .ref 209, .ref 210, .ref 211, .ref 212, .ref 213, .ref 214, .ref 215, .int 0, .int 0, .int 0, .int 0, .ref 216, .ref 217, .ref 218, .ref 219, .ref 220, .int (-1), .int 0, .int 0, .int 0, .int 0, .int 0, .int 0, .ref 221, .ref 222, .ref 223, .ref 224, .int 0, .ref 225, .int 0, .ref 226, .ref 227, .int 0, .ref 228, .ref 229, .ref 230, .ref 231, .ref 232]) rfl e191_42 rfl rfl rfl rfl (fun h43 o43 f43 => ?_)
  have s43 := s42.put f43
  refine s_iinc (y := 10) (lv' := [(2, .int 10), (0, .ref 191), (1, .int 10)]) rfl rfl (by decide) (by decide) rfl ?_
  refine q_goto rfl ?_
  refine q_iload_n rfl rfl ?_
  refine q_iload_n rfl rfl ?_
  refine q_icmp_ge rfl (fun _ => ?_) (fun c => absurd (by decide) c)
  refine q_iconst rfl ?_
  refine s_istore_n (lv' := [(2, .int 0), (0, .ref 191), (1, .int 10)]) rfl (by decide) rfl ?_
  refine q_iload_n rfl rfl ?_
  refine q_bipush rfl ?_
  refine q_icmp_ge rfl (fun c => absurd c (by decide)) (fun _ => ?_)
  refine q_aload_n rfl rfl ?_
  refine s_get (v := .ref 192) rfl o43 rfl rfl ?_
  refine q_iload_n rfl rfl ?_
  refine q_iconst rfl ?_
  have e192_43 := (f43.ne rfl (f42.ne rfl e192_41))
  refine s_iastore (j := 0) rfl e192_43 (by decide) rfl (fun h44 o44 f44 => ?_)
  have s44 := s43.put f44
  refine s_iinc (y := 1) (lv' := [(2, .int 1), (0, .ref 191), (1, .int 10)]) rfl rfl (by decide) (by decide) rfl ?_
  refine q_goto rfl ?_
  refine q_iload_n rfl rfl ?_
  refine q_bipush rfl ?_
  refine q_icmp_ge rfl (fun c => absurd c (by decide)) (fun _ => ?_)
  refine q_aload_n rfl rfl ?_
  have e191_44 := (o43.ne f44 rfl)
  refine s_get (v := .ref 192) rfl e191_44 rfl rfl ?_
  refine q_iload_n rfl rfl ?_
  refine q_iconst rfl ?_
  refine s_iastore (j := 1) rfl o44 (by decide) rfl (fun h45 o45 f45 => ?_)
  have s45 := s44.put f45
  refine s_iinc (y := 2) (lv' := [(2, .int 2), (0, .ref 191), (1, .int 10)]) rfl rfl (by decide) (by decide) rfl ?_
  refine q_goto rfl ?_
  refine q_iload_n rfl rfl ?_
  refine q_bipush rfl ?_
  refine q_icmp_ge rfl (fun c => absurd c (by decide)) (fun _ => ?_)
  refine q_aload_n rfl rfl ?_
  have e191_45 := (e191_44.ne f45 rfl)
  refine s_get (v := .ref 192) rfl e191_45 rfl rfl ?_
  refine q_iload_n rfl rfl ?_
  refine q_iconst rfl ?_
  refine s_iastore (j := 2) rfl o45 (by decide) rfl (fun h46 o46 f46 => ?_)
  have s46 := s45.put f46
  refine s_iinc (y := 3) (lv' := [(2, .int 3), (0, .ref 191), (1, .int 10)]) rfl rfl (by decide) (by decide) rfl ?_
  refine q_goto rfl ?_
  refine q_iload_n rfl rfl ?_
  refine q_bipush rfl ?_
  refine q_icmp_ge rfl (fun c => absurd c (by decide)) (fun _ => ?_)
  refine q_aload_n rfl rfl ?_
  have e191_46 := (e191_45.ne f46 rfl)
  refine s_get (v := .ref 192) rfl e191_46 rfl rfl ?_
  refine q_iload_n rfl rfl ?_
  refine q_iconst rfl ?_
  refine s_iastore (j := 3) rfl o46 (by decide) rfl (fun h47 o47 f47 => ?_)
  have s47 := s46.put f47
  refine s_iinc (y := 4) (lv' := [(2, .int 4), (0, .ref 191), (1, .int 10)]) rfl rfl (by decide) (by decide) rfl ?_
  refine q_goto rfl ?_
  refine q_iload_n rfl rfl ?_
  refine q_bipush rfl ?_
  refine q_icmp_ge rfl (fun c => absurd c (by decide)) (fun _ => ?_)
  refine q_aload_n rfl rfl ?_
  have e191_47 := (e191_46.ne f47 rfl)
  refine s_get (v := .ref 192) rfl e191_47 rfl rfl ?_
  refine q_iload_n rfl rfl ?_
  refine q_iconst rfl ?_
  refine s_iastore (j := 4) rfl o47 (by decide) rfl (fun h48 o48 f48 => ?_)
  have s48 := s47.put f48
  refine s_iinc (y := 5) (lv' := [(2, .int 5), (0, .ref 191), (1, .int 10)]) rfl rfl (by decide) (by decide) rfl ?_
  refine q_goto rfl ?_
  refine q_iload_n rfl rfl ?_
  refine q_bipush rfl ?_
  refine q_icmp_ge rfl (fun c => absurd c (by decide)) (fun _ => ?_)
  refine q_aload_n rfl rfl ?_
  have e191_48 := (e191_47.ne f48 rfl)
  refine s_get (v := .ref 192) rfl e191_48 rfl rfl ?_
  refine q_iload_n rfl rfl ?_
  refine q_iconst rfl ?_
  refine s_iastore (j := 5) rfl o48 (by decide) rfl (fun h49 o49 f49 => ?_)
  have s49 := s48.put f49
  refine s_iinc (y := 6) (lv' := [(2, .int 6), (0, .ref 191), (1, .int 10)]) rfl rfl (by decide) (by decide) rfl ?_
  refine q_goto rfl ?_
  refine q_iload_n rfl rfl ?_
  refine q_bipush rfl ?_
  refine q_icmp_ge rfl (fun c => absurd c (by decide)) (fun _ => ?_)
  refine q_aload_n rfl rfl ?_
  have e191_49 := (e191_48.ne f49 rfl)
  refine s_get (v := .ref 192) rfl e191_49 rfl rfl ?_
  refine q_iload_n rfl rfl ?_
  refine q_iconst rfl ?_
  refine s_iastore (j := 6) rfl o49 (by decide) rfl (fun h50 o50 f50 => ?_)
  have s50 := s49.put f50
  refine s_iinc (y := 7) (lv' := [(2, .int 7), (0, .ref 191), (1, .int 10)]) rfl rfl (by decide) (by decide) rfl ?_
  refine q_goto rfl ?_
  refine q_iload_n rfl rfl ?_
  refine q_bipush rfl ?_
  refine q_icmp_ge rfl (fun c => absurd c (by decide)) (fun _ => ?_)
  refine q_aload_n rfl rfl ?_
  have e191_50 := (e191_49.ne f50 rfl)
  refine s_get (v := .ref 192) rfl e191_50 rfl rfl ?_
  refine q_iload_n rfl rfl ?_
  refine q_iconst rfl ?_
  refine s_iastore (j := 7) rfl o50 (by decide) rfl (fun h51 o51 f51 => ?_)
  have s51 := s50.put f51
  refine s_iinc (y := 8) (lv' := [(2, .int 8), (0, .ref 191), (1, .int 10)]) rfl rfl (by decide) (by decide) rfl ?_
  refine q_goto rfl ?_
  refine q_iload_n rfl rfl ?_
  refine q_bipush rfl ?_
  refine q_icmp_ge rfl (fun c => absurd c (by decide)) (fun _ => ?_)
  refine q_aload_n rfl rfl ?_
  have e191_51 := (e191_50.ne f51 rfl)
  refine s_get (v := .ref 192) rfl e191_51 rfl rfl ?_
  refine q_iload_n rfl rfl ?_
  refine q_iconst rfl ?_
  refine s_iastore (j := 8) rfl o51 (by decide) rfl (fun h52 o52 f52 => ?_)
  have s52 := s51.put f52
  refine s_iinc (y := 9) (lv' := [(2, .int 9), (0, .ref 191), (1, .int 10)]) rfl rfl (by decide) (by decide) rfl ?_
  refine q_goto rfl ?_
  refine q_iload_n rfl rfl ?_
  refine q_bipush rfl ?_
  refine q_icmp_ge rfl (fun c => absurd c (by decide)) (fun _ => ?_)
  refine q_aload_n rfl rfl ?_
  have e191_52 := (e191_51.ne f52 rfl)
  refine s_get (v := .ref 192) rfl e191_52 rfl rfl ?_
  refine q_iload_n rfl rfl ?_
  refine q_iconst rfl ?_
  refine s_iastore (j := 9) rfl o52 (by decide) rfl (fun h53 o53 f53 => ?_)
  have s53 := s52.put f53
  refine s_iinc (y := 10) (lv' := [(2, .int 10), (0, .ref 191), (1, .int 10)]) rfl rfl (by decide) (by decide) rfl ?_
  refine q_goto rfl ?_
  refine q_iload_n rfl rfl ?_
  refine q_bipush rfl ?_
  refine q_icmp_ge rfl (fun c => absurd c (by decide)) (fun _ => ?_)
  refine q_aload_n rfl rfl ?_
  have e191_53 := (e191_52.ne f53 rfl)
  refine s_get (v := .ref 192) rfl e191_53 rfl rfl ?_
  refine q_iload_n rfl rfl ?_
  refine q_iconst rfl ?_
  refine s_iastore (j := 10) rfl o53 (by decide) rfl (fun h54 o54 f54 => ?_)
  have s54 := s53.put f54
  refine s_iinc (y := 11) (lv' := [(2, .int 11), (0, .ref 191), (1, .int 10)]) rfl rfl (by decide) (by decide) rfl ?_
  refine q_goto rfl ?_
  refine q_iload_n rfl rfl ?_
  refine q_bipush rfl ?_
  refine q_icmp_ge rfl (fun c => absurd c (by decide)) (fun _ => ?_)
  refine q_aload_n rfl rfl ?_
  have e191_54 := (e191_53.ne f54 rfl)
  refine s_get (v := .ref 192) rfl e191_54 rfl rfl ?_
  refine q_iload_n rfl rfl ?_
  refine q_iconst rfl ?_
  refine s_iastore (j := 11) rfl o54 (by decide) rfl (fun h55 o55 f55 => ?_)
  have s55 := s54.put f55
  refine s_iinc (y := 12) (lv' := [(2, .int 12), (0, .ref 191), (1, .int 10)]) rfl rfl (by decide) (by decide) rfl ?_
  refine q_goto rfl ?_
  refine q_iload_n rfl rfl ?_
  refine q_bipush rfl ?_
  refine q_icmp_ge rfl (fun c => absurd c (by decide)) (fun _ => ?_)
  refine q_aload_n rfl rfl ?_
  have e191_55 := (e191_54.ne f55 rfl)
  refine s_get (v := .ref 192) rfl e191_55 rfl rfl ?_
  refine q_iload_n rfl rfl ?_
  refine q_iconst rfl ?_
  refine s_iastore (j := 12) rfl o55 (by decide) rfl (fun h56 o56 f56 => ?_)
  have s56 := s55.put f56
  refine s_iinc (y := 13) (lv' := [(2, .int 13), (0, .ref 191), (1, .int 10)]) rfl rfl (by decide) (by decide) rfl ?_
  refine q_goto rfl ?_
  refine q_iload_n rfl rfl ?_
  refine q_bipush rfl ?_
  refine q_icmp_ge rfl (fun c => absurd c (by decide)) (fun _ => ?_)
  refine q_aload_n rfl rfl ?_
  have e191_56 := (e191_55.ne f56 rfl)
  refine s_get (v := .ref 192) rfl e191_56 rfl rfl ?_
  refine q_iload_n rfl rfl ?_
  refine q_iconst rfl ?_
  refine s_iastore (j := 13) rfl o56 (by decide) rfl (fun h57 o57 f57 => ?_)
  have s57 := s56.put f57
  refine s_iinc (y := 14) (lv' := [(2, .int 14), (0, .ref 191), (1, .int 10)]) rfl rfl (by decide) (by decide) rfl ?_
  refine q_goto rfl ?_
  refine q_iload_n rfl rfl ?_
  refine q_bipush rfl ?_
  refine q_icmp_ge rfl (fun c => absurd c (by decide)) (fun _ => ?_)
  refine q_aload_n rfl rfl ?_
  have e191_57 := (e191_56.ne f57 rfl)
  refine s_get (v := .ref 192) rfl e191_57 rfl rfl ?_
  refine q_iload_n rfl rfl ?_
  refine q_iconst rfl ?_
  refine s_iastore (j := 14) rfl o57 (by decide) rfl (fun h58 o58 f58 => ?_)
  have s58 := s57.put f58
  refine s_iinc (y := 15) (lv' := [(2, .int 15), (0, .ref 191), (1, .int 10)]) rfl rfl (by decide) (by decide) rfl ?_
  refine q_goto rfl ?_
  refine q_iload_n rfl rfl ?_
  refine q_bipush rfl ?_
  refine q_icmp_ge rfl (fun c => absurd c (by decide)) (fun _ => ?_)
  refine q_aload_n rfl rfl ?_
  have e191_58 := (e191_57.ne f58 rfl)
  refine s_get (v := .ref 192) rfl e191_58 rfl rfl ?_
  refine q_iload_n rfl rfl ?_
  refine q_iconst rfl ?_
  refine s_iastore (j := 15) rfl o58 (by decide) rfl (fun h59 o59 f59 => ?_)
  have s59 := s58.put f59
  refine s_iinc (y := 16) (lv' := [(2, .int 16), (0, .ref 191), (1, .int 10)]) rfl rfl (by decide) (by decide) rfl ?_
  refine q_goto rfl ?_
  refine q_iload_n rfl rfl ?_
  refine q_bipush rfl ?_
  refine q_icmp_ge rfl (fun c => absurd c (by decide)) (fun _ => ?_)
  refine q_aload_n rfl rfl ?_
  have e191_59 := (e191_58.ne f59 rfl)
  refine s_get (v := .ref 192) rfl e191_59 rfl rfl ?_
  refine q_iload_n rfl rfl ?_
  refine q_iconst rfl ?_
  refine s_iastore (j := 16) rfl o59 (by decide) rfl (fun h60 o60 f60 => ?_)
  have s60 := s59.put f60
  refine s_iinc (y := 17) (lv' := [(2, .int 17), (0, .ref 191), (1, .int 10)]) rfl rfl (by decide) (by decide) rfl ?_
  refine q_goto rfl ?_
  refine q_iload_n rfl rfl ?_
  refine q_bipush rfl ?_
  refine q_icmp_ge rfl (fun c => absurd c (by decide)) (fun _ => ?_)
  refine q_aload_n rfl rfl ?_
  have e191_60 := (e191_59.ne f60 rfl)
  refine s_get (v := .ref 192) rfl e191_60 rfl rfl ?_
  refine q_iload_n rfl rfl ?_
  refine q_iconst rfl ?_
  refine s_iastore (j := 17) rfl o60 (by decide) rfl (fun h61 o61 f61 => ?_)
  have s61 := s60.put f61
  refine s_iinc (y := 18) (lv' := [(2, .int 18), (0, .ref 191), (1, .int 10)]) rfl rfl (by decide) (by decide) rfl ?_
  refine q_goto rfl ?_
  refine q_iload_n rfl rfl ?_
  refine q_bipush rfl ?_
  refine q_icmp_ge rfl (fun c => absurd c (by decide)) (fun _ => ?_)
  refine q_aload_n rfl rfl ?_
  have e191_61 := (e191_60.ne f61 rfl)
  refine s_get (v := .ref 192) rfl e191_61 rfl rfl ?_
  refine q_iload_n rfl rfl ?_
  refine q_iconst rfl ?_
  refine s_iastore (j := 18) rfl o61 (by decide) rfl (fun h62 o62 f62 => ?_)
  have s62 := s61.put f62
  refine s_iinc (y := 19) (lv' := [(2, .int 19), (0, .ref 191), (1, .int 10)]) rfl rfl (by decide) (by decide) rfl ?_
  refine q_goto rfl ?_
  refine q_iload_n rfl rfl ?_
  refine q_bipush rfl ?_
  refine q_icmp_ge rfl (fun c => absurd c (by decide)) (fun _ => ?_)
  refine q_aload_n rfl rfl ?_
  have e191_62 := (e191_61.ne f62 rfl)
  refine s_get (v := .ref 192) rfl e191_62 rfl rfl ?_
  refine q_iload_n rfl rfl ?_
  refine q_iconst rfl ?_
  refine s_iastore (j := 19) rfl o62 (by decide) rfl (fun h63 o63 f63 => ?_)
  have s63 := s62.put f63
  refine s_iinc (y := 20) (lv' := [(2, .int 20), (0, .ref 191), (1, .int 10)]) rfl rfl (by decide) (by decide) rfl ?_
  refine q_goto rfl ?_
  refine q_iload_n rfl rfl ?_
  refine q_bipush rfl ?_
  refine q_icmp_ge rfl (fun _ => ?_) (fun c => absurd (by decide) c)
  refine q_aload_n rfl rfl ?_
  have e191_63 := (e191_62.ne f63 rfl)
  refine s_get (v := .int 10) rfl e191_63 rfl rfl ?_
  refine q_ireturn rfl rfl ?_
  show aW aiP 0 17 658 243 [(4, .int 0), (3, .ref 233), (2, .ref 191), (1, .ref 6), (0, .ref 0)] [.int 10, .int 10] h63 _
  refine q_icmp_eq rfl (fun _ => ?_) (fun c => absurd (by decide) c)
  refine s_iinc (y := 6) (lv' := [(4, .int 6), (3, .ref 233), (2, .ref 191), (1, .ref 6), (0, .ref 0)]) rfl rfl (by decide) (by decide) rfl ?_
  refine q_goto rfl ?_
  refine q_iload rfl rfl ?_
  refine q_aload_n rfl rfl ?_
  have e0_63 := (f63.ne rfl (f62.ne rfl (f61.ne rfl (f60.ne rfl (f59.ne rfl (f58.ne rfl (f57.ne rfl (f56.ne rfl (f55.ne rfl (f54.ne rfl (f53.ne rfl (f52.ne rfl (f51.ne rfl (f50.ne rfl (f49.ne rfl (f48.ne rfl (f47.ne rfl (f46.ne rfl (f45.ne rfl (f44.ne rfl (f43.ne rfl (f42.ne rfl (f41.ne rfl (f40.ne rfl (f39.ne rfl (f38.ne rfl (f37.ne rfl (f36.ne rfl (f35.ne rfl (f34.ne rfl (f33.ne rfl (f32.ne rfl (f31.ne rfl (f30.ne rfl (f29.ne rfl (f28.ne rfl (f27.ne rfl (f26.ne rfl (f25.ne rfl (f24.ne rfl (f23.ne rfl e0_22)))))))))))))))))))))))))))))))))))))))))
  refine s_alen (x := 6) rfl e0_63 rfl (by decide) ?_
  refine q_bipush rfl ?_
  refine s_isub (k := 0) rfl (by decide) ?_
  refine q_icmp_gt rfl (fun _ => ?_) (fun c => absurd (by decide) c)
  refine q_iconst rfl ?_
  refine q_ireturn rfl rfl ?_
  exact ⟨rfl, s63.bd rfl⟩
set_option maxRecDepth 20000 in
set_option maxHeartbeats 4000000 in
theorem p_case1_11 {xs : Nat → Int32} {h : ai_H} (F : Fresh 6 xs h) (hk : xs 0 &&& 31 = 1) (hw : xs 1 = 11) : aW aiP 0 17 658 33 [(4, .int 0), (3, .ref 233), (2, .ref 191), (1, .ref 6), (0, .ref 0)] [] h p_Q := by
  obtain ⟨e0, e1, ⟨g2, e2⟩, ⟨g3, e3⟩, ⟨g4, e4⟩, e5, e6, e7, e8, e9, e51, e93, e135, e177, e178, e179, e180, e181, e182, e183, e184, e185, e186, e187, e188, e189, e190, e191, e192, e193, e194, e195, e196, e197, e198, e199, e200, e201, e202, e203, e204, e205, e206, e207, e208, e209, e210, e211, e212, e213, e214, e215, e216, e217, e218, e219, e220, e221, e222, e223, e224, e225, e226, e227, ⟨g228, e228⟩, ⟨g229, e229⟩, e230, e231, e232, e233, s0⟩ := F
  refine q_aload_n rfl rfl ?_
  refine q_iload rfl rfl ?_
  refine s_iaload (j := 0) (v := .int (xs 0)) rfl e0 (by decide) rfl (by first | rfl | decide) ?_
  refine q_bipush rfl ?_
  refine s_iand (k := ((xs 0) &&& (31 : Int32))) rfl rfl ?_
  rw [hk]
  show aW aiP 0 17 658 40 [(4, .int 0), (3, .ref 233), (2, .ref 191), (1, .ref 6), (0, .ref 0)] [.int 1] h _
  refine s_sw (tg := 223) rfl rfl ?_
  refine q_aload_n rfl rfl ?_
  refine q_aload_n rfl rfl ?_
  refine q_iload rfl rfl ?_
  refine q_iconst rfl ?_
  refine s_iadd (k := 1) rfl (by decide) ?_
  refine s_iaload (j := 1) (v := .int (xs 1)) rfl e0 (by decide) rfl (by first | rfl | decide) ?_
  rw [hw]
  refine s_callV (as := [.int 11]) (rest := []) (d' := 16) (w' := 637) (lv' := [(0, .ref 6), (1, .int 11)]) rfl e6 rfl rfl rfl rfl rfl rfl ?_
  refine q_iload_n rfl rfl ?_
  refine q_if_lt rfl (fun c => absurd c (by decide)) (fun _ => ?_)
  refine q_iload_n rfl rfl ?_
  refine q_bipush rfl ?_
  refine q_icmp_gt rfl (fun c => absurd c (by decide)) (fun _ => ?_)
  refine q_aload_n rfl rfl ?_
  refine s_get (v := .int 0) rfl e6 rfl rfl ?_
  refine q_iload_n rfl rfl ?_
  refine s_iadd (k := 11) rfl (by decide) ?_
  refine q_sipush rfl ?_
  refine q_icmp_le rfl (fun _ => ?_) (fun c => absurd (by decide) c)
  refine q_aload_n rfl rfl ?_
  refine s_get (v := .ref 7) rfl e6 rfl rfl ?_
  refine q_iconst rfl ?_
  refine q_aload_n rfl rfl ?_
  refine s_get (v := .ref 8) rfl e6 rfl rfl ?_
  refine q_aload_n rfl rfl ?_
  refine s_get (v := .int 0) rfl e6 rfl rfl ?_
  refine q_iload_n rfl rfl ?_
  refine s_copy (sp := 0) (dp := 0) (k := 11) rfl e7 e8 (by decide) (by decide) (by decide) rfl (by decide) (by decide) (by decide) (fun i _ => rfl) (fun h1 o1 f1 => ?_)
  have s1 := s0.put f1
  refine q_aload_n rfl rfl ?_
  refine q_dup rfl rfl ?_
  have e6_1 := (e6.ne f1 rfl)
  refine s_get (v := .int 0) rfl e6_1 rfl rfl ?_
  refine q_iload_n rfl rfl ?_
  refine s_iadd (k := 11) rfl (by decide) ?_
  refine s_put (vs' := [.ref 7, .ref 8, .int 11, .ref 9, .int (-1), .ref 51, .ref 93, .ref 135, .ref 177, .ref 180, .int 0, .ref 183, .ref 186, .ref 189]) rfl e6_1 rfl rfl rfl rfl (fun h2 o2 f2 => ?_)
  have s2 := s1.put f2
  refine q_aload_n rfl rfl ?_
  refine s_get (v := .ref 7) rfl o2 rfl rfl ?_
  refine q_iconst rfl ?_
  refine s_callS (as := [.ref 7, .int 0]) (rest := []) (d' := 15) (w' := 614) (lv' := [(0, .ref 7), (1, .int 0)]) rfl rfl rfl rfl rfl rfl rfl rfl ?_
  refine q_iconst rfl ?_
  refine s_istore_n (lv' := [(2, .int 0), (0, .ref 7), (1, .int 0)]) rfl (by decide) rfl ?_
  refine q_aload_n rfl rfl ?_
  have e7_2 := (f2.ne rfl (f1.ne rfl e7))
  refine s_alen (x := 20) rfl e7_2 rfl (by decide) ?_
  refine s_istore_n (lv' := [(3, .int 20), (2, .int 0), (0, .ref 7), (1, .int 0)]) rfl (by decide) rfl ?_
  refine q_iload_n rfl rfl ?_
  refine q_iload_n rfl rfl ?_
  refine q_icmp_ge rfl (fun c => absurd c (by decide)) (fun _ => ?_)
  refine q_aload_n rfl rfl ?_
  refine q_iload_n rfl rfl ?_
  refine q_iload_n rfl rfl ?_
  refine s_bastore (j := 0) rfl e7_2 (by decide) rfl (fun h3 o3 f3 => ?_)
  have s3 := s2.put f3
  refine s_iinc (y := 1) (lv' := [(2, .int 1), (3, .int 20), (0, .ref 7), (1, .int 0)]) rfl rfl (by decide) (by decide) rfl ?_
  refine q_goto rfl ?_
  refine q_iload_n rfl rfl ?_
  refine q_iload_n rfl rfl ?_
  refine q_icmp_ge rfl (fun c => absurd c (by decide)) (fun _ => ?_)
  refine q_aload_n rfl rfl ?_
  refine q_iload_n rfl rfl ?_
  refine q_iload_n rfl rfl ?_
  refine s_bastore (j := 1) rfl o3 (by decide) rfl (fun h4 o4 f4 => ?_)
  have s4 := s3.put f4
  refine s_iinc (y := 2) (lv' := [(2, .int 2), (3, .int 20), (0, .ref 7), (1, .int 0)]) rfl rfl (by decide) (by decide) rfl ?_
  refine q_goto rfl ?_
  refine q_iload_n rfl rfl ?_
  refine q_iload_n rfl rfl ?_
  refine q_icmp_ge rfl (fun c => absurd c (by decide)) (fun _ => ?_)
  refine q_aload_n rfl rfl ?_
  refine q_iload_n rfl rfl ?_
  refine q_iload_n rfl rfl ?_
  refine s_bastore (j := 2) rfl o4 (by decide) rfl (fun h5 o5 f5 => ?_)
  have s5 := s4.put f5
  refine s_iinc (y := 3) (lv' := [(2, .int 3), (3, .int 20), (0, .ref 7), (1, .int 0)]) rfl rfl (by decide) (by decide) rfl ?_
  refine q_goto rfl ?_
  refine q_iload_n rfl rfl ?_
  refine q_iload_n rfl rfl ?_
  refine q_icmp_ge rfl (fun c => absurd c (by decide)) (fun _ => ?_)
  refine q_aload_n rfl rfl ?_
  refine q_iload_n rfl rfl ?_
  refine q_iload_n rfl rfl ?_
  refine s_bastore (j := 3) rfl o5 (by decide) rfl (fun h6 o6 f6 => ?_)
  have s6 := s5.put f6
  refine s_iinc (y := 4) (lv' := [(2, .int 4), (3, .int 20), (0, .ref 7), (1, .int 0)]) rfl rfl (by decide) (by decide) rfl ?_
  refine q_goto rfl ?_
  refine q_iload_n rfl rfl ?_
  refine q_iload_n rfl rfl ?_
  refine q_icmp_ge rfl (fun c => absurd c (by decide)) (fun _ => ?_)
  refine q_aload_n rfl rfl ?_
  refine q_iload_n rfl rfl ?_
  refine q_iload_n rfl rfl ?_
  refine s_bastore (j := 4) rfl o6 (by decide) rfl (fun h7 o7 f7 => ?_)
  have s7 := s6.put f7
  refine s_iinc (y := 5) (lv' := [(2, .int 5), (3, .int 20), (0, .ref 7), (1, .int 0)]) rfl rfl (by decide) (by decide) rfl ?_
  refine q_goto rfl ?_
  refine q_iload_n rfl rfl ?_
  refine q_iload_n rfl rfl ?_
  refine q_icmp_ge rfl (fun c => absurd c (by decide)) (fun _ => ?_)
  refine q_aload_n rfl rfl ?_
  refine q_iload_n rfl rfl ?_
  refine q_iload_n rfl rfl ?_
  refine s_bastore (j := 5) rfl o7 (by decide) rfl (fun h8 o8 f8 => ?_)
  have s8 := s7.put f8
  refine s_iinc (y := 6) (lv' := [(2, .int 6), (3, .int 20), (0, .ref 7), (1, .int 0)]) rfl rfl (by decide) (by decide) rfl ?_
  refine q_goto rfl ?_
  refine q_iload_n rfl rfl ?_
  refine q_iload_n rfl rfl ?_
  refine q_icmp_ge rfl (fun c => absurd c (by decide)) (fun _ => ?_)
  refine q_aload_n rfl rfl ?_
  refine q_iload_n rfl rfl ?_
  refine q_iload_n rfl rfl ?_
  refine s_bastore (j := 6) rfl o8 (by decide) rfl (fun h9 o9 f9 => ?_)
  have s9 := s8.put f9
  refine s_iinc (y := 7) (lv' := [(2, .int 7), (3, .int 20), (0, .ref 7), (1, .int 0)]) rfl rfl (by decide) (by decide) rfl ?_
  refine q_goto rfl ?_
  refine q_iload_n rfl rfl ?_
  refine q_iload_n rfl rfl ?_
  refine q_icmp_ge rfl (fun c => absurd c (by decide)) (fun _ => ?_)
  refine q_aload_n rfl rfl ?_
  refine q_iload_n rfl rfl ?_
  refine q_iload_n rfl rfl ?_
  refine s_bastore (j := 7) rfl o9 (by decide) rfl (fun h10 o10 f10 => ?_)
  have s10 := s9.put f10
  refine s_iinc (y := 8) (lv' := [(2, .int 8), (3, .int 20), (0, .ref 7), (1, .int 0)]) rfl rfl (by decide) (by decide) rfl ?_
  refine q_goto rfl ?_
  refine q_iload_n rfl rfl ?_
  refine q_iload_n rfl rfl ?_
  refine q_icmp_ge rfl (fun c => absurd c (by decide)) (fun _ => ?_)
  refine q_aload_n rfl rfl ?_
  refine q_iload_n rfl rfl ?_
  refine q_iload_n rfl rfl ?_
  refine s_bastore (j := 8) rfl o10 (by decide) rfl (fun h11 o11 f11 => ?_)
  have s11 := s10.put f11
  refine s_iinc (y := 9) (lv' := [(2, .int 9), (3, .int 20), (0, .ref 7), (1, .int 0)]) rfl rfl (by decide) (by decide) rfl ?_
  refine q_goto rfl ?_
  refine q_iload_n rfl rfl ?_
  refine q_iload_n rfl rfl ?_
  refine q_icmp_ge rfl (fun c => absurd c (by decide)) (fun _ => ?_)
  refine q_aload_n rfl rfl ?_
  refine q_iload_n rfl rfl ?_
  refine q_iload_n rfl rfl ?_
  refine s_bastore (j := 9) rfl o11 (by decide) rfl (fun h12 o12 f12 => ?_)
  have s12 := s11.put f12
  refine s_iinc (y := 10) (lv' := [(2, .int 10), (3, .int 20), (0, .ref 7), (1, .int 0)]) rfl rfl (by decide) (by decide) rfl ?_
  refine q_goto rfl ?_
  refine q_iload_n rfl rfl ?_
  refine q_iload_n rfl rfl ?_
  refine q_icmp_ge rfl (fun c => absurd c (by decide)) (fun _ => ?_)
  refine q_aload_n rfl rfl ?_
  refine q_iload_n rfl rfl ?_
  refine q_iload_n rfl rfl ?_
  refine s_bastore (j := 10) rfl o12 (by decide) rfl (fun h13 o13 f13 => ?_)
  have s13 := s12.put f13
  refine s_iinc (y := 11) (lv' := [(2, .int 11), (3, .int 20), (0, .ref 7), (1, .int 0)]) rfl rfl (by decide) (by decide) rfl ?_
  refine q_goto rfl ?_
  refine q_iload_n rfl rfl ?_
  refine q_iload_n rfl rfl ?_
  refine q_icmp_ge rfl (fun c => absurd c (by decide)) (fun _ => ?_)
  refine q_aload_n rfl rfl ?_
  refine q_iload_n rfl rfl ?_
  refine q_iload_n rfl rfl ?_
  refine s_bastore (j := 11) rfl o13 (by decide) rfl (fun h14 o14 f14 => ?_)
  have s14 := s13.put f14
  refine s_iinc (y := 12) (lv' := [(2, .int 12), (3, .int 20), (0, .ref 7), (1, .int 0)]) rfl rfl (by decide) (by decide) rfl ?_
  refine q_goto rfl ?_
  refine q_iload_n rfl rfl ?_
  refine q_iload_n rfl rfl ?_
  refine q_icmp_ge rfl (fun c => absurd c (by decide)) (fun _ => ?_)
  refine q_aload_n rfl rfl ?_
  refine q_iload_n rfl rfl ?_
  refine q_iload_n rfl rfl ?_
  refine s_bastore (j := 12) rfl o14 (by decide) rfl (fun h15 o15 f15 => ?_)
  have s15 := s14.put f15
  refine s_iinc (y := 13) (lv' := [(2, .int 13), (3, .int 20), (0, .ref 7), (1, .int 0)]) rfl rfl (by decide) (by decide) rfl ?_
  refine q_goto rfl ?_
  refine q_iload_n rfl rfl ?_
  refine q_iload_n rfl rfl ?_
  refine q_icmp_ge rfl (fun c => absurd c (by decide)) (fun _ => ?_)
  refine q_aload_n rfl rfl ?_
  refine q_iload_n rfl rfl ?_
  refine q_iload_n rfl rfl ?_
  refine s_bastore (j := 13) rfl o15 (by decide) rfl (fun h16 o16 f16 => ?_)
  have s16 := s15.put f16
  refine s_iinc (y := 14) (lv' := [(2, .int 14), (3, .int 20), (0, .ref 7), (1, .int 0)]) rfl rfl (by decide) (by decide) rfl ?_
  refine q_goto rfl ?_
  refine q_iload_n rfl rfl ?_
  refine q_iload_n rfl rfl ?_
  refine q_icmp_ge rfl (fun c => absurd c (by decide)) (fun _ => ?_)
  refine q_aload_n rfl rfl ?_
  refine q_iload_n rfl rfl ?_
  refine q_iload_n rfl rfl ?_
  refine s_bastore (j := 14) rfl o16 (by decide) rfl (fun h17 o17 f17 => ?_)
  have s17 := s16.put f17
  refine s_iinc (y := 15) (lv' := [(2, .int 15), (3, .int 20), (0, .ref 7), (1, .int 0)]) rfl rfl (by decide) (by decide) rfl ?_
  refine q_goto rfl ?_
  refine q_iload_n rfl rfl ?_
  refine q_iload_n rfl rfl ?_
  refine q_icmp_ge rfl (fun c => absurd c (by decide)) (fun _ => ?_)
  refine q_aload_n rfl rfl ?_
  refine q_iload_n rfl rfl ?_
  refine q_iload_n rfl rfl ?_
  refine s_bastore (j := 15) rfl o17 (by decide) rfl (fun h18 o18 f18 => ?_)
  have s18 := s17.put f18
  refine s_iinc (y := 16) (lv' := [(2, .int 16), (3, .int 20), (0, .ref 7), (1, .int 0)]) rfl rfl (by decide) (by decide) rfl ?_
  refine q_goto rfl ?_
  refine q_iload_n rfl rfl ?_
  refine q_iload_n rfl rfl ?_
  refine q_icmp_ge rfl (fun c => absurd c (by decide)) (fun _ => ?_)
  refine q_aload_n rfl rfl ?_
  refine q_iload_n rfl rfl ?_
  refine q_iload_n rfl rfl ?_
  refine s_bastore (j := 16) rfl o18 (by decide) rfl (fun h19 o19 f19 => ?_)
  have s19 := s18.put f19
  refine s_iinc (y := 17) (lv' := [(2, .int 17), (3, .int 20), (0, .ref 7), (1, .int 0)]) rfl rfl (by decide) (by decide) rfl ?_
  refine q_goto rfl ?_
  refine q_iload_n rfl rfl ?_
  refine q_iload_n rfl rfl ?_
  refine q_icmp_ge rfl (fun c => absurd c (by decide)) (fun _ => ?_)
  refine q_aload_n rfl rfl ?_
  refine q_iload_n rfl rfl ?_
  refine q_iload_n rfl rfl ?_
  refine s_bastore (j := 17) rfl o19 (by decide) rfl (fun h20 o20 f20 => ?_)
  have s20 := s19.put f20
  refine s_iinc (y := 18) (lv' := [(2, .int 18), (3, .int 20), (0, .ref 7), (1, .int 0)]) rfl rfl (by decide) (by decide) rfl ?_
  refine q_goto rfl ?_
  refine q_iload_n rfl rfl ?_
  refine q_iload_n rfl rfl ?_
  refine q_icmp_ge rfl (fun c => absurd c (by decide)) (fun _ => ?_)
  refine q_aload_n rfl rfl ?_
  refine q_iload_n rfl rfl ?_
  refine q_iload_n rfl rfl ?_
  refine s_bastore (j := 18) rfl o20 (by decide) rfl (fun h21 o21 f21 => ?_)
  have s21 := s20.put f21
  refine s_iinc (y := 19) (lv' := [(2, .int 19), (3, .int 20), (0, .ref 7), (1, .int 0)]) rfl rfl (by decide) (by decide) rfl ?_
  refine q_goto rfl ?_
  refine q_iload_n rfl rfl ?_
  refine q_iload_n rfl rfl ?_
  refine q_icmp_ge rfl (fun c => absurd c (by decide)) (fun _ => ?_)
  refine q_aload_n rfl rfl ?_
  refine q_iload_n rfl rfl ?_
  refine q_iload_n rfl rfl ?_
  refine s_bastore (j := 19) rfl o21 (by decide) rfl (fun h22 o22 f22 => ?_)
  have s22 := s21.put f22
  refine s_iinc (y := 20) (lv' := [(2, .int 20), (3, .int 20), (0, .ref 7), (1, .int 0)]) rfl rfl (by decide) (by decide) rfl ?_
  refine q_goto rfl ?_
  refine q_iload_n rfl rfl ?_
  refine q_iload_n rfl rfl ?_
  refine q_icmp_ge rfl (fun _ => ?_) (fun c => absurd (by decide) c)
  refine q_return rfl rfl ?_
  show aW aiP 15 16 637 59 [(0, .ref 6), (1, .int 11)] [] h22 _
  refine q_aload_n rfl rfl ?_
  have e6_22 := ((((((((((((((((((((o2.ne f3 rfl).ne f4 rfl).ne f5 rfl).ne f6 rfl).ne f7 rfl).ne f8 rfl).ne f9 rfl).ne f10 rfl).ne f11 rfl).ne f12 rfl).ne f13 rfl).ne f14 rfl).ne f15 rfl).ne f16 rfl).ne f17 rfl).ne f18 rfl).ne f19 rfl).ne f20 rfl).ne f21 rfl).ne f22 rfl)
  refine s_get (v := .int 11) rfl e6_22 rfl rfl ?_
  refine q_ireturn rfl rfl ?_
  show aW aiP 0 17 658 233 [(4, .int 0), (3, .ref 233), (2, .ref 191), (1, .ref 6), (0, .ref 0)] [.int 11] h22 _
  refine q_aload_n rfl rfl ?_
  refine q_aload_n rfl rfl ?_
  refine q_iload rfl rfl ?_
  refine q_iconst rfl ?_
  refine s_iadd (k := 1) rfl (by decide) ?_
  have e0_22 := (f22.ne rfl (f21.ne rfl (f20.ne rfl (f19.ne rfl (f18.ne rfl (f17.ne rfl (f16.ne rfl (f15.ne rfl (f14.ne rfl (f13.ne rfl (f12.ne rfl (f11.ne rfl (f10.ne rfl (f9.ne rfl (f8.ne rfl (f7.ne rfl (f6.ne rfl (f5.ne rfl (f4.ne rfl (f3.ne rfl (f2.ne rfl (f1.ne rfl e0))))))))))))))))))))))
  refine s_iaload (j := 1) (v := .int (xs 1)) rfl e0_22 (by decide) rfl (by first | rfl | decide) ?_
  rw [hw]
  have e191_22 := ((((((((((((((((((((((e191.ne f1 rfl).ne f2 rfl).ne f3 rfl).ne f4 rfl).ne f5 rfl).ne f6 rfl).ne f7 rfl).ne f8 rfl).ne f9 rfl).ne f10 rfl).ne f11 rfl).ne f12 rfl).ne f13 rfl).ne f14 rfl).ne f15 rfl).ne f16 rfl).ne f17 rfl).ne f18 rfl).ne f19 rfl).ne f20 rfl).ne f21 rfl).ne f22 rfl)
  refine s_callV (as := [.int 11]) (rest := [.int 11]) (d' := 16) (w' := 636) (lv' := [(0, .ref 191), (1, .int 11)]) rfl e191_22 rfl rfl rfl rfl rfl rfl ?_
  refine q_aload_n rfl rfl ?_
  refine q_iconst rfl ?_
  refine s_put (vs' := [.int 0, .ref 192, .ref 193, .int 0, .ref 194, .ref 195, .ref 196, .ref 197, .ref 198, .ref 199, .ref 200, .ref 201, .ref 202, .ref 203, .ref 204, .ref 205, .int (-1), .int 0, .ref 206, .ref 207, .ref 208, .ref 209, .ref 210, .ref 211, .ref 212, .ref 213, .ref 214, .ref 215, .int 0, .int 0, .int 0, .int 0, .ref 216, .ref 217, .ref 218, .ref 219, .ref 220, .int (-1), .int 0, .int 0, .int 0, .int 0, .int 0, .int 0, .ref 221, .ref 222, .ref 223, .ref 224, .int 0, .ref 225, .int 0, .ref 226, .ref 227, .int 0, .ref 228, .ref 229, .ref 230, .ref 231, .ref 232]) rfl e191_22 rfl rfl rfl rfl (fun h23 o23 f23 => ?_)
  have s23 := s22.put f23
  refine q_iload_n rfl rfl ?_
  refine q_if_lt rfl (fun c => absurd c (by decide)) (fun _ => ?_)
  refine q_iload_n rfl rfl ?_
  refine q_bipush rfl ?_
  refine q_icmp_gt rfl (fun c => absurd c (by decide)) (fun _ => ?_)
  refine q_aload_n rfl rfl ?_
  refine s_get (v := .int 0) rfl o23 rfl rfl ?_
  refine q_iload_n rfl rfl ?_
  refine s_iadd (k := 11) rfl (by decide) ?_
  refine q_sipush rfl ?_
  refine q_icmp_le rfl (fun _ => ?_) (fun c => absurd (by decide) c)
  refine q_iconst rfl ?_
  refine s_istore_n (lv' := [(2, .int 0), (0, .ref 191), (1, .int 11)]) rfl (by decide) rfl ?_
  refine q_iload_n rfl rfl ?_
  refine q_iload_n rfl rfl ?_
  refine q_icmp_ge rfl (fun c => absurd c (by decide)) (fun _ => ?_)
  refine q_aload_n rfl rfl ?_
  refine s_get (v := .ref 193) rfl o23 rfl rfl ?_
  refine q_aload_n rfl rfl ?_
  refine s_get (v := .int 0) rfl o23 rfl rfl ?_
  refine q_aload_n rfl rfl ?_
  refine s_get (v := .ref 192) rfl o23 rfl rfl ?_
  refine q_iload_n rfl rfl ?_
  have e192_23 := (f23.ne rfl (f22.ne rfl (f21.ne rfl (f20.ne rfl (f19.ne rfl (f18.ne rfl (f17.ne rfl (f16.ne rfl (f15.ne rfl (f14.ne rfl (f13.ne rfl (f12.ne rfl (f11.ne rfl (f10.ne rfl (f9.ne rfl (f8.ne rfl (f7.ne rfl (f6.ne rfl (f5.ne rfl (f4.ne rfl (f3.ne rfl (f2.ne rfl (f1.ne rfl e192)))))))))))))))))))))))
  refine s_iaload (j := 0) (v := .int 0) rfl e192_23 (by decide) rfl (by first | rfl | decide) ?_
  have e193_23 := (f23.ne rfl (f22.ne rfl (f21.ne rfl (f20.ne rfl (f19.ne rfl (f18.ne rfl (f17.ne rfl (f16.ne rfl (f15.ne rfl (f14.ne rfl (f13.ne rfl (f12.ne rfl (f11.ne rfl (f10.ne rfl (f9.ne rfl (f8.ne rfl (f7.ne rfl (f6.ne rfl (f5.ne rfl (f4.ne rfl (f3.ne rfl (f2.ne rfl (f1.ne rfl e193)))))))))))))))))))))))
  refine s_iastore (j := 0) rfl e193_23 (by decide) rfl (fun h24 o24 f24 => ?_)
  have s24 := s23.put f24
  refine q_aload_n rfl rfl ?_
  refine q_dup rfl rfl ?_
  have e191_24 := (o23.ne f24 rfl)
  refine s_get (v := .int 0) rfl e191_24 rfl rfl ?_
  refine q_iconst rfl ?_
  refine s_iadd (k := 1) rfl (by decide) ?_
  refine s_put (vs' := [.int 0, .ref 192, .ref 193, .int 1, .ref 194, .ref 195, .ref 196, .ref 197, .ref 198, .ref 199, .ref 200, .ref 201, .ref 202, .ref 203, .ref 204, .ref 205, .int (-1), .int 0, .ref 206, .ref 207, .ref 208, .ref 209, .ref 210, .ref 211, .ref 212, .ref 213, .ref 214, .ref 215, .int 0, .int 0, .int 0, .int 0, .ref 216, .ref 217, .ref 218, .ref 219, .ref 220, .int (-1), .int 0, .int 0, .int 0, .int 0, .int 0, .int 0, .ref 221, .ref 222, .ref 223, .ref 224, .int 0, .ref 225, .int 0, .ref 226, .ref 227, .int 0, .ref 228, .ref 229, .ref 230, .ref 231, .ref 232]) rfl e191_24 rfl rfl rfl rfl (fun h25 o25 f25 => ?_)
  have s25 := s24.put f25
  refine s_iinc (y := 1) (lv' := [(2, .int 1), (0, .ref 191), (1, .int 11)]) rfl rfl (by decide) (by decide) rfl ?_
  refine q_goto rfl ?_
  refine q_iload_n rfl rfl ?_
  refine q_iload_n rfl rfl ?_
  refine q_icmp_ge rfl (fun c => absurd c (by decide)) (fun _ => ?_)
  refine q_aload_n rfl rfl ?_
  refine s_get (v := .ref 193) rfl o25 rfl rfl ?_
  refine q_aload_n rfl rfl ?_
  refine s_get (v := .int 1) rfl o25 rfl rfl ?_
  refine q_aload_n rfl rfl ?_
  refine s_get (v := .ref 192) rfl o25 rfl rfl ?_
  refine q_iload_n rfl rfl ?_
  have e192_25 := (f25.ne rfl (f24.ne rfl e192_23))
  refine s_iaload (j := 1) (v := .int 0) rfl e192_25 (by decide) rfl (by first | rfl | decide) ?_
  have e193_25 := (f25.ne rfl o24)
  refine s_iastore (j := 1) rfl e193_25 (by decide) rfl (fun h26 o26 f26 => ?_)
  have s26 := s25.put f26
  refine q_aload_n rfl rfl ?_
  refine q_dup rfl rfl ?_
  have e191_26 := (o25.ne f26 rfl)
  refine s_get (v := .int 1) rfl e191_26 rfl rfl ?_
  refine q_iconst rfl ?_
  refine s_iadd (k := 2) rfl (by decide) ?_
  refine s_put (vs' := [.int 0, .ref 192, .ref 193, .int 2, .ref 194, .ref 195, .ref 196, .ref 197, .ref 198, .ref 199, .ref 200, .ref 201, .ref 202, .ref 203, .ref 204, .ref 205, .int (-1), .int 0, .ref 206, .ref 207, .ref 208, .ref 209, .ref 210, .ref 211, .ref 212, .ref 213, .ref 214, .ref 215, .int 0, .int 0, .int 0, .int 0, .ref 216, .ref 217, .ref 218, .ref 219, .ref 220, .int (-1), .int 0, .int 0, .int 0, .int 0, .int 0, .int 0, .ref 221, .ref 222, .ref 223, .ref 224, .int 0, .ref 225, .int 0, .ref 226, .ref 227, .int 0, .ref 228, .ref 229, .ref 230, .ref 231, .ref 232]) rfl e191_26 rfl rfl rfl rfl (fun h27 o27 f27 => ?_)
  have s27 := s26.put f27
  refine s_iinc (y := 2) (lv' := [(2, .int 2), (0, .ref 191), (1, .int 11)]) rfl rfl (by decide) (by decide) rfl ?_
  refine q_goto rfl ?_
  refine q_iload_n rfl rfl ?_
  refine q_iload_n rfl rfl ?_
  refine q_icmp_ge rfl (fun c => absurd c (by decide)) (fun _ => ?_)
  refine q_aload_n rfl rfl ?_
  refine s_get (v := .ref 193) rfl o27 rfl rfl ?_
  refine q_aload_n rfl rfl ?_
  refine s_get (v := .int 2) rfl o27 rfl rfl ?_
  refine q_aload_n rfl rfl ?_
  refine s_get (v := .ref 192) rfl o27 rfl rfl ?_
  refine q_iload_n rfl rfl ?_
  have e192_27 := (f27.ne rfl (f26.ne rfl e192_25))
  refine s_iaload (j := 2) (v := .int 0) rfl e192_27 (by decide) rfl (by first | rfl | decide) ?_
  have e193_27 := (f27.ne rfl o26)
  refine s_iastore (j := 2) rfl e193_27 (by decide) rfl (fun h28 o28 f28 => ?_)
  have s28 := s27.put f28
  refine q_aload_n rfl rfl ?_
  refine q_dup rfl rfl ?_
  have e191_28 := (o27.ne f28 rfl)
  refine s_get (v := .int 2) rfl e191_28 rfl rfl ?_
  refine q_iconst rfl ?_
  refine s_iadd (k := 3) rfl (by decide) ?_
  refine s_put (vs' := [.int 0, .ref 192, .ref 193, .int 3, .ref 194, .ref 195, .ref 196, .ref 197, .ref 198, .ref 199, .ref 200, .ref 201, .ref 202, .ref 203, .ref 204, .ref 205, .int (-1), .int 0, .ref 206, .ref 207, .ref 208, .ref 209, .ref 210, .ref 211, .ref 212, .ref 213, .ref 214, .ref 215, .int 0, .int 0, .int 0, .int 0, .ref 216, .ref 217, .ref 218, .ref 219, .ref 220, .int (-1), .int 0, .int 0, .int 0, .int 0, .int 0, .int 0, .ref 221, .ref 222, .ref 223, .ref 224, .int 0, .ref 225, .int 0, .ref 226, .ref 227, .int 0, .ref 228, .ref 229, .ref 230, .ref 231, .ref 232]) rfl e191_28 rfl rfl rfl rfl (fun h29 o29 f29 => ?_)
  have s29 := s28.put f29
  refine s_iinc (y := 3) (lv' := [(2, .int 3), (0, .ref 191), (1, .int 11)]) rfl rfl (by decide) (by decide) rfl ?_
  refine q_goto rfl ?_
  refine q_iload_n rfl rfl ?_
  refine q_iload_n rfl rfl ?_
  refine q_icmp_ge rfl (fun c => absurd c (by decide)) (fun _ => ?_)
  refine q_aload_n rfl rfl ?_
  refine s_get (v := .ref 193) rfl o29 rfl rfl ?_
  refine q_aload_n rfl rfl ?_
  refine s_get (v := .int 3) rfl o29 rfl rfl ?_
  refine q_aload_n rfl rfl ?_
  refine s_get (v := .ref 192) rfl o29 rfl rfl ?_
  refine q_iload_n rfl rfl ?_
  have e192_29 := (f29.ne rfl (f28.ne rfl e192_27))
  refine s_iaload (j := 3) (v := .int 0) rfl e192_29 (by decide) rfl (by first | rfl | decide) ?_
  have e193_29 := (f29.ne rfl o28)
  refine s_iastore (j := 3) rfl e193_29 (by decide) rfl (fun h30 o30 f30 => ?_)
  have s30 := s29.put f30
  refine q_aload_n rfl rfl ?_
  refine q_dup rfl rfl ?_
  have e191_30 := (o29.ne f30 rfl)
  refine s_get (v := .int 3) rfl e191_30 rfl rfl ?_
  refine q_iconst rfl ?_
  refine s_iadd (k := 4) rfl (by decide) ?_
  refine s_put (vs' := [.int 0, .ref 192, .ref 193, .int 4, .ref 194, .ref 195, .ref 196, .ref 197, .ref 198, .ref 199, .ref 200, .ref 201, .ref 202, .ref 203, .ref 204, .ref 205, .int (-1), .int 0, .ref 206, .ref 207, .ref 208, .ref 209, .ref 210, .ref 211, .ref 212, .ref 213, .ref 214, .ref 215, .int 0, .int 0, .int 0, .int 0, .ref 216, .ref 217, .ref 218, .ref 219, .ref 220, .int (-1), .int 0, .int 0, .int 0, .int 0, .int 0, .int 0, .ref 221, .ref 222, .ref 223, .ref 224, .int 0, .ref 225, .int 0, .ref 226, .ref 227, .int 0, .ref 228, .ref 229, .ref 230, .ref 231, .ref 232]) rfl e191_30 rfl rfl rfl rfl (fun h31 o31 f31 => ?_)
  have s31 := s30.put f31
  refine s_iinc (y := 4) (lv' := [(2, .int 4), (0, .ref 191), (1, .int 11)]) rfl rfl (by decide) (by decide) rfl ?_
  refine q_goto rfl ?_
  refine q_iload_n rfl rfl ?_
  refine q_iload_n rfl rfl ?_
  refine q_icmp_ge rfl (fun c => absurd c (by decide)) (fun _ => ?_)
  refine q_aload_n rfl rfl ?_
  refine s_get (v := .ref 193) rfl o31 rfl rfl ?_
  refine q_aload_n rfl rfl ?_
  refine s_get (v := .int 4) rfl o31 rfl rfl ?_
  refine q_aload_n rfl rfl ?_
  refine s_get (v := .ref 192) rfl o31 rfl rfl ?_
  refine q_iload_n rfl rfl ?_
  have e192_31 := (f31.ne rfl (f30.ne rfl e192_29))
  refine s_iaload (j := 4) (v := .int 0) rfl e192_31 (by decide) rfl (by first | rfl | decide) ?_
  have e193_31 := (f31.ne rfl o30)
  refine s_iastore (j := 4) rfl e193_31 (by decide) rfl (fun h32 o32 f32 => ?_)
  have s32 := s31.put f32
  refine q_aload_n rfl rfl ?_
  refine q_dup rfl rfl ?_
  have e191_32 := (o31.ne f32 rfl)
  refine s_get (v := .int 4) rfl e191_32 rfl rfl ?_
  refine q_iconst rfl ?_
  refine s_iadd (k := 5) rfl (by decide) ?_
  refine s_put (vs' := [.int 0, .ref 192, .ref 193, .int 5, .ref 194, .ref 195, .ref 196, .ref 197, .ref 198, .ref 199, .ref 200, .ref 201, .ref 202, .ref 203, .ref 204, .ref 205, .int (-1), .int 0, .ref 206, .ref 207, .ref 208, .ref 209, .ref 210, .ref 211, .ref 212, .ref 213, .ref 214, .ref 215, .int 0, .int 0, .int 0, .int 0, .ref 216, .ref 217, .ref 218, .ref 219, .ref 220, .int (-1), .int 0, .int 0, .int 0, .int 0, .int 0, .int 0, .ref 221, .ref 222, .ref 223, .ref 224, .int 0, .ref 225, .int 0, .ref 226, .ref 227, .int 0, .ref 228, .ref 229, .ref 230, .ref 231, .ref 232]) rfl e191_32 rfl rfl rfl rfl (fun h33 o33 f33 => ?_)
  have s33 := s32.put f33
  refine s_iinc (y := 5) (lv' := [(2, .int 5), (0, .ref 191), (1, .int 11)]) rfl rfl (by decide) (by decide) rfl ?_
  refine q_goto rfl ?_
  refine q_iload_n rfl rfl ?_
  refine q_iload_n rfl rfl ?_
  refine q_icmp_ge rfl (fun c => absurd c (by decide)) (fun _ => ?_)
  refine q_aload_n rfl rfl ?_
  refine s_get (v := .ref 193) rfl o33 rfl rfl ?_
  refine q_aload_n rfl rfl ?_
  refine s_get (v := .int 5) rfl o33 rfl rfl ?_
  refine q_aload_n rfl rfl ?_
  refine s_get (v := .ref 192) rfl o33 rfl rfl ?_
  refine q_iload_n rfl rfl ?_
  have e192_33 := (f33.ne rfl (f32.ne rfl e192_31))
  refine s_iaload (j := 5) (v := .int 0) rfl e192_33 (by decide) rfl (by first | rfl | decide) ?_
  have e193_33 := (f33.ne rfl o32)
  refine s_iastore (j := 5) rfl e193_33 (by decide) rfl (fun h34 o34 f34 => ?_)
  have s34 := s33.put f34
  refine q_aload_n rfl rfl ?_
  refine q_dup rfl rfl ?_
  have e191_34 := (o33.ne f34 rfl)
  refine s_get (v := .int 5) rfl e191_34 rfl rfl ?_
  refine q_iconst rfl ?_
  refine s_iadd (k := 6) rfl (by decide) ?_
  refine s_put (vs' := [.int 0, .ref 192, .ref 193, .int 6, .ref 194, .ref 195, .ref 196, .ref 197, .ref 198, .ref 199, .ref 200, .ref 201, .ref 202, .ref 203, .ref 204, .ref 205, .int (-1), .int 0, .ref 206, .ref 207, .ref 208, .ref 209, .ref 210, .ref 211, .ref 212, .ref 213, .ref 214, .ref 215, .int 0, .int 0, .int 0, .int 0, .ref 216, .ref 217, .ref 218, .ref 219, .ref 220, .int (-1), .int 0, .int 0, .int 0, .int 0, .int 0, .int 0, .ref 221, .ref 222, .ref 223, .ref 224, .int 0, .ref 225, .int 0, .ref 226, .ref 227, .int 0, .ref 228, .ref 229, .ref 230, .ref 231, .ref 232]) rfl e191_34 rfl rfl rfl rfl (fun h35 o35 f35 => ?_)
  have s35 := s34.put f35
  refine s_iinc (y := 6) (lv' := [(2, .int 6), (0, .ref 191), (1, .int 11)]) rfl rfl (by decide) (by decide) rfl ?_
  refine q_goto rfl ?_
  refine q_iload_n rfl rfl ?_
  refine q_iload_n rfl rfl ?_
  refine q_icmp_ge rfl (fun c => absurd c (by decide)) (fun _ => ?_)
  refine q_aload_n rfl rfl ?_
  refine s_get (v := .ref 193) rfl o35 rfl rfl ?_
  refine q_aload_n rfl rfl ?_
  refine s_get (v := .int 6) rfl o35 rfl rfl ?_
  refine q_aload_n rfl rfl ?_
  refine s_get (v := .ref 192) rfl o35 rfl rfl ?_
  refine q_iload_n rfl rfl ?_
  have e192_35 := (f35.ne rfl (f34.ne rfl e192_33))
  refine s_iaload (j := 6) (v := .int 0) rfl e192_35 (by decide) rfl (by first | rfl | decide) ?_
  have e193_35 := (f35.ne rfl o34)
  refine s_iastore (j := 6) rfl e193_35 (by decide) rfl (fun h36 o36 f36 => ?_)
  have s36 := s35.put f36
  refine q_aload_n rfl rfl ?_
  refine q_dup rfl rfl ?_
  have e191_36 := (o35.ne f36 rfl)
  refine s_get (v := .int 6) rfl e191_36 rfl rfl ?_
  refine q_iconst rfl ?_
  refine s_iadd (k := 7) rfl (by decide) ?_
  refine s_put (vs' := [.int 0, .ref 192, .ref 193, .int 7, .ref 194, .ref 195, .ref 196, .ref 197, .ref 198, .ref 199, .ref 200, .ref 201, .ref 202, .ref 203, .ref 204, .ref 205, .int (-1), .int 0, .ref 206, .ref 207, .ref 208, .ref 209, .ref 210, .ref 211, .ref 212, .ref 213, .ref 214, .ref 215, .int 0, .int 0, .int 0, .int 0, .ref 216, .ref 217, .ref 218, .ref 219, .ref 220, .int (-1), .int 0, .int 0, .int 0, .int 0, .int 0, .int 0, .ref 221, .ref 222, .ref 223, .ref 224, .int 0, .ref 225, .int 0, .ref 226, .ref 227, .int 0, .ref 228, .ref 229, .ref 230, .ref 231, .ref 232]) rfl e191_36 rfl rfl rfl rfl (fun h37 o37 f37 => ?_)
  have s37 := s36.put f37
  refine s_iinc (y := 7) (lv' := [(2, .int 7), (0, .ref 191), (1, .int 11)]) rfl rfl (by decide) (by decide) rfl ?_
  refine q_goto rfl ?_
  refine q_iload_n rfl rfl ?_
  refine q_iload_n rfl rfl ?_
  refine q_icmp_ge rfl (fun c => absurd c (by decide)) (fun _ => ?_)
  refine q_aload_n rfl rfl ?_
  refine s_get (v := .ref 193) rfl o37 rfl rfl ?_
  refine q_aload_n rfl rfl ?_
  refine s_get (v := .int 7) rfl o37 rfl rfl ?_
  refine q_aload_n rfl rfl ?_
  refine s_get (v := .ref 192) rfl o37 rfl rfl ?_
  refine q_iload_n rfl rfl ?_
  have e192_37 := (f37.ne rfl (f36.ne rfl e192_35))
  refine s_iaload (j := 7) (v := .int 0) rfl e192_37 (by decide) rfl (by first | rfl | decide) ?_
  have e193_37 := (f37.ne rfl o36)
  refine s_iastore (j := 7) rfl e193_37 (by decide) rfl (fun h38 o38 f38 => ?_)
  have s38 := s37.put f38
  refine q_aload_n rfl rfl ?_
  refine q_dup rfl rfl ?_
  have e191_38 := (o37.ne f38 rfl)
  refine s_get (v := .int 7) rfl e191_38 rfl rfl ?_
  refine q_iconst rfl ?_
  refine s_iadd (k := 8) rfl (by decide) ?_
  refine s_put (vs' := [.int 0, .ref 192, .ref 193, .int 8, .ref 194, .ref 195, .ref 196, .ref 197, .ref 198, .ref 199, .ref 200, .ref 201, .ref 202, .ref 203, .ref 204, .ref 205, .int (-1), .int 0, .ref 206, .ref 207, .ref 208, .ref 209, .ref 210, .ref 211, .ref 212, .ref 213, .ref 214, .ref 215, .int 0, .int 0, .int 0, .int 0, .ref 216, .ref 217, .ref 218, .ref 219, .ref 220, .int (-1), .int 0, .int 0, .int 0, .int 0, .int 0, .int 0, .ref 221, .ref 222, .ref 223, .ref 224, .int 0, .ref 225, .int 0, .ref 226, .ref 227, .int 0, .ref 228, .ref 229, .ref 230, .ref 231, .ref 232]) rfl e191_38 rfl rfl rfl rfl (fun h39 o39 f39 => ?_)
  have s39 := s38.put f39
  refine s_iinc (y := 8) (lv' := [(2, .int 8), (0, .ref 191), (1, .int 11)]) rfl rfl (by decide) (by decide) rfl ?_
  refine q_goto rfl ?_
  refine q_iload_n rfl rfl ?_
  refine q_iload_n rfl rfl ?_
  refine q_icmp_ge rfl (fun c => absurd c (by decide)) (fun _ => ?_)
  refine q_aload_n rfl rfl ?_
  refine s_get (v := .ref 193) rfl o39 rfl rfl ?_
  refine q_aload_n rfl rfl ?_
  refine s_get (v := .int 8) rfl o39 rfl rfl ?_
  refine q_aload_n rfl rfl ?_
  refine s_get (v := .ref 192) rfl o39 rfl rfl ?_
  refine q_iload_n rfl rfl ?_
  have e192_39 := (f39.ne rfl (f38.ne rfl e192_37))
  refine s_iaload (j := 8) (v := .int 0) rfl e192_39 (by decide) rfl (by first | rfl | decide) ?_
  have e193_39 := (f39.ne rfl o38)
  refine s_iastore (j := 8) rfl e193_39 (by decide) rfl (fun h40 o40 f40 => ?_)
  have s40 := s39.put f40
  refine q_aload_n rfl rfl ?_
  refine q_dup rfl rfl ?_
  have e191_40 := (o39.ne f40 rfl)
  refine s_get (v := .int 8) rfl e191_40 rfl rfl ?_
  refine q_iconst rfl ?_
  refine s_iadd (k := 9) rfl (by decide) ?_
  refine s_put (vs' := [.int 0, .ref 192, .ref 193, .int 9, .ref 194, .ref 195, .ref 196, .ref 197, .ref 198, .ref 199, .ref 200, .ref 201, .ref 202, .ref 203, .ref 204, .ref 205, .int (-1), .int 0, .ref 206, .ref 207, .ref 208, .ref 209, .ref 210, .ref 211, .ref 212, .ref 213, .ref 214, .ref 215, .int 0, .int 0, .int 0, .int 0, .ref 216, .ref 217, .ref 218, .ref 219, .ref 220, .int (-1), .int 0, .int 0, .int 0, .int 0, .int 0, .int 0, .ref 221, .ref 222, .ref 223, .ref 224, .int 0, .ref 225, .int 0, .ref 226, .ref 227, .int 0, .ref 228, .ref 229, .ref 230, .ref 231, .ref 232]) rfl e191_40 rfl rfl rfl rfl (fun h41 o41 f41 => ?_)
  have s41 := s40.put f41
  refine s_iinc (y := 9) (lv' := [(2, .int 9), (0, .ref 191), (1, .int 11)]) rfl rfl (by decide) (by decide) rfl ?_
  refine q_goto rfl ?_
  refine q_iload_n rfl rfl ?_
  refine q_iload_n rfl rfl ?_
  refine q_icmp_ge rfl (fun c => absurd c (by decide)) (fun _ => ?_)
  refine q_aload_n rfl rfl ?_
  refine s_get (v := .ref 193) rfl o41 rfl rfl ?_
  refine q_aload_n rfl rfl ?_
  refine s_get (v := .int 9) rfl o41 rfl rfl ?_
  refine q_aload_n rfl rfl ?_
  refine s_get (v := .ref 192) rfl o41 rfl rfl ?_
  refine q_iload_n rfl rfl ?_
  have e192_41 := (f41.ne rfl (f40.ne rfl e192_39))
  refine s_iaload (j := 9) (v := .int 0) rfl e192_41 (by decide) rfl (by first | rfl | decide) ?_
  have e193_41 := (f41.ne rfl o40)
  refine s_iastore (j := 9) rfl e193_41 (by decide) rfl (fun h42 o42 f42 => ?_)
  have s42 := s41.put f42
  refine q_aload_n rfl rfl ?_
  refine q_dup rfl rfl ?_
  have e191_42 := (o41.ne f42 rfl)
  refine s_get (v := .int 9) rfl e191_42 rfl rfl ?_
  refine q_iconst rfl ?_
  refine s_iadd (k := 10) rfl (by decide) ?_
  refine s_put (vs' := [.int 0, .ref 192, .ref 193, .int 10, .ref 194, .ref 195, .ref 196, .ref 197, .ref 198, .ref 199, .ref 200, .ref 201, .ref 202, .ref 203, .ref 204, .ref 205, .int (-1), .int 0, .ref 206, .ref 207, .ref 208, .ref 209, .ref 210, .ref 211, .ref 212, .ref 213, .ref 214, .ref 215, .int 0, .int 0, .int 0, .int 0, .ref 216, .ref 217, .ref 218, .ref 219, .ref 220, .int (-1), .int 0, .int 0, .int 0, .int 0, .int 0, .int 0, .ref 221, .ref 222, .ref 223, .ref 224, .int 0, .ref 225, .int 0, .ref 226, .ref 227, .int 0, .ref 228, .ref 229, .ref 230, .ref 231, .ref 232]) rfl e191_42 rfl rfl rfl rfl (fun h43 o43 f43 => ?_)
  have s43 := s42.put f43
  refine s_iinc (y := 10) (lv' := [(2, .int 10), (0, .ref 191), (1, .int 11)]) rfl rfl (by decide) (by decide) rfl ?_
  refine q_goto rfl ?_
  refine q_iload_n rfl rfl ?_
  refine q_iload_n rfl rfl ?_
  refine q_icmp_ge rfl (fun c => absurd c (by decide)) (fun _ => ?_)
  refine q_aload_n rfl rfl ?_
  refine s_get (v := .ref 193) rfl o43 rfl rfl ?_
  refine q_aload_n rfl rfl ?_
  refine s_get (v := .int 10) rfl o43 rfl rfl ?_
  refine q_aload_n rfl rfl ?_
  refine s_get (v := .ref 192) rfl o43 rfl rfl ?_
  refine q_iload_n rfl rfl ?_
  have e192_43 := (f43.ne rfl (f42.ne rfl e192_41))
  refine s_iaload (j := 10) (v := .int 0) rfl e192_43 (by decide) rfl (by first | rfl | decide) ?_
  have e193_43 := (f43.ne rfl o42)
  refine s_iastore (j := 10) rfl e193_43 (by decide) rfl (fun h44 o44 f44 => ?_)
  have s44 := s43.put f44
  refine q_aload_n rfl rfl ?_
  refine q_dup rfl rfl ?_
  have e191_44 := (o43.ne f44 rfl)
  refine s_get (v := .int 10) rfl e191_44 rfl rfl ?_
  refine q_iconst rfl ?_
  refine s_iadd (k := 11) rfl (by decide) ?_
  refine s_put (vs' := [.int 0, .ref 192, .ref 193, .int 11, .ref 194, .ref 195, .ref 196, .ref 197, .ref 198, .ref 199, .ref 200, .ref 201, .ref 202, .ref 203, .ref 204, .ref 205, .int (-1), .int 0, .ref 206, .ref 207, .ref 208, .ref 209, .ref 210, .ref 211, .ref 212, .ref 213, .ref 214, .ref 215, .int 0, .int 0, .int 0, .int 0, .ref 216, .ref 217, .ref 218, .ref 219, .ref 220, .int (-1), .int 0, .int 0, .int 0, .int 0, .int 0, .int 0, .ref 221, .ref 222, .ref 223, .ref 224, .int 0, .ref 225, .int 0, .ref 226, .ref 227, .int 0, .ref 228, .ref 229, .ref 230, .ref 231, .ref 232]) rfl e191_44 rfl rfl rfl rfl (fun h45 o45 f45 => ?_)
  have s45 := s44.put f45
  refine s_iinc (y := 11) (lv' := [(2, .int 11), (0, .ref 191), (1, .int 11)]) rfl rfl (by decide) (by decide) rfl ?_
  refine q_goto rfl ?_
  refine q_iload_n rfl rfl ?_
  refine q_iload_n rfl rfl ?_
  refine q_icmp_ge rfl (fun _ => ?_) (fun c => absurd (by decide) c)
  refine q_iconst rfl ?_
  refine s_istore_n (lv' := [(2, .int 0), (0, .ref 191), (1, .int 11)]) rfl (by decide) rfl ?_
  refine q_iload_n rfl rfl ?_
  refine q_bipush rfl ?_
  refine q_icmp_ge rfl (fun c => absurd c (by decide)) (fun _ => ?_)
  refine q_aload_n rfl rfl ?_
  refine s_get (v := .ref 192) rfl o45 rfl rfl ?_
  refine q_iload_n rfl rfl ?_
  refine q_iconst rfl ?_
  have e192_45 := (f45.ne rfl (f44.ne rfl e192_43))
  refine s_iastore (j := 0) rfl e192_45 (by decide) rfl (fun h46 o46 f46 => ?_)
  have s46 := s45.put f46
  refine s_iinc (y := 1) (lv' := [(2, .int 1), (0, .ref 191), (1, .int 11)]) rfl rfl (by decide) (by decide) rfl ?_
  refine q_goto rfl ?_
  refine q_iload_n rfl rfl ?_
  refine q_bipush rfl ?_
  refine q_icmp_ge rfl (fun c => absurd c (by decide)) (fun _ => ?_)
  refine q_aload_n rfl rfl ?_
  have e191_46 := (o45.ne f46 rfl)
  refine s_get (v := .ref 192) rfl e191_46 rfl rfl ?_
  refine q_iload_n rfl rfl ?_
  refine q_iconst rfl ?_
  refine s_iastore (j := 1) rfl o46 (by decide) rfl (fun h47 o47 f47 => ?_)
  have s47 := s46.put f47
  refine s_iinc (y := 2) (lv' := [(2, .int 2), (0, .ref 191), (1, .int 11)]) rfl rfl (by decide) (by decide) rfl ?_
  refine q_goto rfl ?_
  refine q_iload_n rfl rfl ?_
  refine q_bipush rfl ?_
  refine q_icmp_ge rfl (fun c => absurd c (by decide)) (fun _ => ?_)
  refine q_aload_n rfl rfl ?_
  have e191_47 := (e191_46.ne f47 rfl)
  refine s_get (v := .ref 192) rfl e191_47 rfl rfl ?_
  refine q_iload_n rfl rfl ?_
  refine q_iconst rfl ?_
  refine s_iastore (j := 2) rfl o47 (by decide) rfl (fun h48 o48 f48 => ?_)
  have s48 := s47.put f48
  refine s_iinc (y := 3) (lv' := [(2, .int 3), (0, .ref 191), (1, .int 11)]) rfl rfl (by decide) (by decide) rfl ?_
  refine q_goto rfl ?_
  refine q_iload_n rfl rfl ?_
  refine q_bipush rfl ?_
  refine q_icmp_ge rfl (fun c => absurd c (by decide)) (fun _ => ?_)
  refine q_aload_n rfl rfl ?_
  have e191_48 := (e191_47.ne f48 rfl)
  refine s_get (v := .ref 192) rfl e191_48 rfl rfl ?_
  refine q_iload_n rfl rfl ?_
  refine q_iconst rfl ?_
  refine s_iastore (j := 3) rfl o48 (by decide) rfl (fun h49 o49 f49 => ?_)
  have s49 := s48.put f49
  refine s_iinc (y := 4) (lv' := [(2, .int 4), (0, .ref 191), (1, .int 11)]) rfl rfl (by decide) (by decide) rfl ?_
  refine q_goto rfl ?_
  refine q_iload_n rfl rfl ?_
  refine q_bipush rfl ?_
  refine q_icmp_ge rfl (fun c => absurd c (by decide)) (fun _ => ?_)
  refine q_aload_n rfl rfl ?_
  have e191_49 := (e191_48.ne f49 rfl)
  refine s_get (v := .ref 192) rfl e191_49 rfl rfl ?_
  refine q_iload_n rfl rfl ?_
  refine q_iconst rfl ?_
  refine s_iastore (j := 4) rfl o49 (by decide) rfl (fun h50 o50 f50 => ?_)
  have s50 := s49.put f50
  refine s_iinc (y := 5) (lv' := [(2, .int 5), (0, .ref 191), (1, .int 11)]) rfl rfl (by decide) (by decide) rfl ?_
  refine q_goto rfl ?_
  refine q_iload_n rfl rfl ?_
  refine q_bipush rfl ?_
  refine q_icmp_ge rfl (fun c => absurd c (by decide)) (fun _ => ?_)
  refine q_aload_n rfl rfl ?_
  have e191_50 := (e191_49.ne f50 rfl)
  refine s_get (v := .ref 192) rfl e191_50 rfl rfl ?_
  refine q_iload_n rfl rfl ?_
  refine q_iconst rfl ?_
  refine s_iastore (j := 5) rfl o50 (by decide) rfl (fun h51 o51 f51 => ?_)
  have s51 := s50.put f51
  refine s_iinc (y := 6) (lv' := [(2, .int 6), (0, .ref 191), (1, .int 11)]) rfl rfl (by decide) (by decide) rfl ?_
  refine q_goto rfl ?_
  refine q_iload_n rfl rfl ?_
  refine q_bipush rfl ?_
  refine q_icmp_ge rfl (fun c => absurd c (by decide)) (fun _ => ?_)
  refine q_aload_n rfl rfl ?_
  have e191_51 := (e191_50.ne f51 rfl)
  refine s_get (v := .ref 192) rfl e191_51 rfl rfl ?_
  refine q_iload_n rfl rfl ?_
  refine q_iconst rfl ?_
  refine s_iastore (j := 6) rfl o51 (by decide) rfl (fun h52 o52 f52 => ?_)
  have s52 := s51.put f52
  refine s_iinc (y := 7) (lv' := [(2, .int 7), (0, .ref 191), (1, .int 11)]) rfl rfl (by decide) (by decide) rfl ?_
  refine q_goto rfl ?_
  refine q_iload_n rfl rfl ?_
  refine q_bipush rfl ?_
  refine q_icmp_ge rfl (fun c => absurd c (by decide)) (fun _ => ?_)
  refine q_aload_n rfl rfl ?_
  have e191_52 := (e191_51.ne f52 rfl)
  refine s_get (v := .ref 192) rfl e191_52 rfl rfl ?_
  refine q_iload_n rfl rfl ?_
  refine q_iconst rfl ?_
  refine s_iastore (j := 7) rfl o52 (by decide) rfl (fun h53 o53 f53 => ?_)
  have s53 := s52.put f53
  refine s_iinc (y := 8) (lv' := [(2, .int 8), (0, .ref 191), (1, .int 11)]) rfl rfl (by decide) (by decide) rfl ?_
  refine q_goto rfl ?_
  refine q_iload_n rfl rfl ?_
  refine q_bipush rfl ?_
  refine q_icmp_ge rfl (fun c => absurd c (by decide)) (fun _ => ?_)
  refine q_aload_n rfl rfl ?_
  have e191_53 := (e191_52.ne f53 rfl)
  refine s_get (v := .ref 192) rfl e191_53 rfl rfl ?_
  refine q_iload_n rfl rfl ?_
  refine q_iconst rfl ?_
  refine s_iastore (j := 8) rfl o53 (by decide) rfl (fun h54 o54 f54 => ?_)
  have s54 := s53.put f54
  refine s_iinc (y := 9) (lv' := [(2, .int 9), (0, .ref 191), (1, .int 11)]) rfl rfl (by decide) (by decide) rfl ?_
  refine q_goto rfl ?_
  refine q_iload_n rfl rfl ?_
  refine q_bipush rfl ?_
  refine q_icmp_ge rfl (fun c => absurd c (by decide)) (fun _ => ?_)
  refine q_aload_n rfl rfl ?_
  have e191_54 := (e191_53.ne f54 rfl)
  refine s_get (v := .ref 192) rfl e191_54 rfl rfl ?_
  refine q_iload_n rfl rfl ?_
  refine q_iconst rfl ?_
  refine s_iastore (j := 9) rfl o54 (by decide) rfl (fun h55 o55 f55 => ?_)
  have s55 := s54.put f55
  refine s_iinc (y := 10) (lv' := [(2, .int 10), (0, .ref 191), (1, .int 11)]) rfl rfl (by decide) (by decide) rfl ?_
  refine q_goto rfl ?_
  refine q_iload_n rfl rfl ?_
  refine q_bipush rfl ?_
  refine q_icmp_ge rfl (fun c => absurd c (by decide)) (fun _ => ?_)
  refine q_aload_n rfl rfl ?_
  have e191_55 := (e191_54.ne f55 rfl)
  refine s_get (v := .ref 192) rfl e191_55 rfl rfl ?_
  refine q_iload_n rfl rfl ?_
  refine q_iconst rfl ?_
  refine s_iastore (j := 10) rfl o55 (by decide) rfl (fun h56 o56 f56 => ?_)
  have s56 := s55.put f56
  refine s_iinc (y := 11) (lv' := [(2, .int 11), (0, .ref 191), (1, .int 11)]) rfl rfl (by decide) (by decide) rfl ?_
  refine q_goto rfl ?_
  refine q_iload_n rfl rfl ?_
  refine q_bipush rfl ?_
  refine q_icmp_ge rfl (fun c => absurd c (by decide)) (fun _ => ?_)
  refine q_aload_n rfl rfl ?_
  have e191_56 := (e191_55.ne f56 rfl)
  refine s_get (v := .ref 192) rfl e191_56 rfl rfl ?_
  refine q_iload_n rfl rfl ?_
  refine q_iconst rfl ?_
  refine s_iastore (j := 11) rfl o56 (by decide) rfl (fun h57 o57 f57 => ?_)
  have s57 := s56.put f57
  refine s_iinc (y := 12) (lv' := [(2, .int 12), (0, .ref 191), (1, .int 11)]) rfl rfl (by decide) (by decide) rfl ?_
  refine q_goto rfl ?_
  refine q_iload_n rfl rfl ?_
  refine q_bipush rfl ?_
  refine q_icmp_ge rfl (fun c => absurd c (by decide)) (fun _ => ?_)
  refine q_aload_n rfl rfl ?_
  have e191_57 := (e191_56.ne f57 rfl)
  refine s_get (v := .ref 192) rfl e191_57 rfl rfl ?_
  refine q_iload_n rfl rfl ?_
  refine q_iconst rfl ?_
  refine s_iastore (j := 12) rfl o57 (by decide) rfl (fun h58 o58 f58 => ?_)
  have s58 := s57.put f58
  refine s_iinc (y := 13) (lv' := [(2, .int 13), (0, .ref 191), (1, .int 11)]) rfl rfl (by decide) (by decide) rfl ?_
  refine q_goto rfl ?_
  refine q_iload_n rfl rfl ?_
  refine q_bipush rfl ?_
  refine q_icmp_ge rfl (fun c => absurd c (by decide)) (fun _ => ?_)
  refine q_aload_n rfl rfl ?_
  have e191_58 := (e191_57.ne f58 rfl)
  refine s_get (v := .ref 192) rfl e191_58 rfl rfl ?_
  refine q_iload_n rfl rfl ?_
  refine q_iconst rfl ?_
  refine s_iastore (j := 13) rfl o58 (by decide) rfl (fun h59 o59 f59 => ?_)
  have s59 := s58.put f59
  refine s_iinc (y := 14) (lv' := [(2, .int 14), (0, .ref 191), (1, .int 11)]) rfl rfl (by decide) (by decide) rfl ?_
  refine q_goto rfl ?_
  refine q_iload_n rfl rfl ?_
  refine q_bipush rfl ?_
  refine q_icmp_ge rfl (fun c => absurd c (by decide)) (fun _ => ?_)
  refine q_aload_n rfl rfl ?_
  have e191_59 := (e191_58.ne f59 rfl)
  refine s_get (v := .ref 192) rfl e191_59 rfl rfl ?_
  refine q_iload_n rfl rfl ?_
  refine q_iconst rfl ?_
  refine s_iastore (j := 14) rfl o59 (by decide) rfl (fun h60 o60 f60 => ?_)
  have s60 := s59.put f60
  refine s_iinc (y := 15) (lv' := [(2, .int 15), (0, .ref 191), (1, .int 11)]) rfl rfl (by decide) (by decide) rfl ?_
  refine q_goto rfl ?_
  refine q_iload_n rfl rfl ?_
  refine q_bipush rfl ?_
  refine q_icmp_ge rfl (fun c => absurd c (by decide)) (fun _ => ?_)
  refine q_aload_n rfl rfl ?_
  have e191_60 := (e191_59.ne f60 rfl)
  refine s_get (v := .ref 192) rfl e191_60 rfl rfl ?_
  refine q_iload_n rfl rfl ?_
  refine q_iconst rfl ?_
  refine s_iastore (j := 15) rfl o60 (by decide) rfl (fun h61 o61 f61 => ?_)
  have s61 := s60.put f61
  refine s_iinc (y := 16) (lv' := [(2, .int 16), (0, .ref 191), (1, .int 11)]) rfl rfl (by decide) (by decide) rfl ?_
  refine q_goto rfl ?_
  refine q_iload_n rfl rfl ?_
  refine q_bipush rfl ?_
  refine q_icmp_ge rfl (fun c => absurd c (by decide)) (fun _ => ?_)
  refine q_aload_n rfl rfl ?_
  have e191_61 := (e191_60.ne f61 rfl)
  refine s_get (v := .ref 192) rfl e191_61 rfl rfl ?_
  refine q_iload_n rfl rfl ?_
  refine q_iconst rfl ?_
  refine s_iastore (j := 16) rfl o61 (by decide) rfl (fun h62 o62 f62 => ?_)
  have s62 := s61.put f62
  refine s_iinc (y := 17) (lv' := [(2, .int 17), (0, .ref 191), (1, .int 11)]) rfl rfl (by decide) (by decide) rfl ?_
  refine q_goto rfl ?_
  refine q_iload_n rfl rfl ?_
  refine q_bipush rfl ?_
  refine q_icmp_ge rfl (fun c => absurd c (by decide)) (fun _ => ?_)
  refine q_aload_n rfl rfl ?_
  have e191_62 := (e191_61.ne f62 rfl)
  refine s_get (v := .ref 192) rfl e191_62 rfl rfl ?_
  refine q_iload_n rfl rfl ?_
  refine q_iconst rfl ?_
  refine s_iastore (j := 17) rfl o62 (by decide) rfl (fun h63 o63 f63 => ?_)
  have s63 := s62.put f63
  refine s_iinc (y := 18) (lv' := [(2, .int 18), (0, .ref 191), (1, .int 11)]) rfl rfl (by decide) (by decide) rfl ?_
  refine q_goto rfl ?_
  refine q_iload_n rfl rfl ?_
  refine q_bipush rfl ?_
  refine q_icmp_ge rfl (fun c => absurd c (by decide)) (fun _ => ?_)
  refine q_aload_n rfl rfl ?_
  have e191_63 := (e191_62.ne f63 rfl)
  refine s_get (v := .ref 192) rfl e191_63 rfl rfl ?_
  refine q_iload_n rfl rfl ?_
  refine q_iconst rfl ?_
  refine s_iastore (j := 18) rfl o63 (by decide) rfl (fun h64 o64 f64 => ?_)
  have s64 := s63.put f64
  refine s_iinc (y := 19) (lv' := [(2, .int 19), (0, .ref 191), (1, .int 11)]) rfl rfl (by decide) (by decide) rfl ?_
  refine q_goto rfl ?_
  refine q_iload_n rfl rfl ?_
  refine q_bipush rfl ?_
  refine q_icmp_ge rfl (fun c => absurd c (by decide)) (fun _ => ?_)
  refine q_aload_n rfl rfl ?_
  have e191_64 := (e191_63.ne f64 rfl)
  refine s_get (v := .ref 192) rfl e191_64 rfl rfl ?_
  refine q_iload_n rfl rfl ?_
  refine q_iconst rfl ?_
  refine s_iastore (j := 19) rfl o64 (by decide) rfl (fun h65 o65 f65 => ?_)
  have s65 := s64.put f65
  refine s_iinc (y := 20) (lv' := [(2, .int 20), (0, .ref 191), (1, .int 11)]) rfl rfl (by decide) (by decide) rfl ?_
  refine q_goto rfl ?_
  refine q_iload_n rfl rfl ?_
  refine q_bipush rfl ?_
  refine q_icmp_ge rfl (fun _ => ?_) (fun c => absurd (by decide) c)
  refine q_aload_n rfl rfl ?_
  have e191_65 := (e191_64.ne f65 rfl)
  refine s_get (v := .int 11) rfl e191_65 rfl rfl ?_
  refine q_ireturn rfl rfl ?_
  show aW aiP 0 17 658 243 [(4, .int 0), (3, .ref 233), (2, .ref 191), (1, .ref 6), (0, .ref 0)] [.int 11, .int 11] h65 _
  refine q_icmp_eq rfl (fun _ => ?_) (fun c => absurd (by decide) c)
  refine s_iinc (y := 6) (lv' := [(4, .int 6), (3, .ref 233), (2, .ref 191), (1, .ref 6), (0, .ref 0)]) rfl rfl (by decide) (by decide) rfl ?_
  refine q_goto rfl ?_
  refine q_iload rfl rfl ?_
  refine q_aload_n rfl rfl ?_
  have e0_65 := (f65.ne rfl (f64.ne rfl (f63.ne rfl (f62.ne rfl (f61.ne rfl (f60.ne rfl (f59.ne rfl (f58.ne rfl (f57.ne rfl (f56.ne rfl (f55.ne rfl (f54.ne rfl (f53.ne rfl (f52.ne rfl (f51.ne rfl (f50.ne rfl (f49.ne rfl (f48.ne rfl (f47.ne rfl (f46.ne rfl (f45.ne rfl (f44.ne rfl (f43.ne rfl (f42.ne rfl (f41.ne rfl (f40.ne rfl (f39.ne rfl (f38.ne rfl (f37.ne rfl (f36.ne rfl (f35.ne rfl (f34.ne rfl (f33.ne rfl (f32.ne rfl (f31.ne rfl (f30.ne rfl (f29.ne rfl (f28.ne rfl (f27.ne rfl (f26.ne rfl (f25.ne rfl (f24.ne rfl (f23.ne rfl e0_22)))))))))))))))))))))))))))))))))))))))))))
  refine s_alen (x := 6) rfl e0_65 rfl (by decide) ?_
  refine q_bipush rfl ?_
  refine s_isub (k := 0) rfl (by decide) ?_
  refine q_icmp_gt rfl (fun _ => ?_) (fun c => absurd (by decide) c)
  refine q_iconst rfl ?_
  refine q_ireturn rfl rfl ?_
  exact ⟨rfl, s65.bd rfl⟩
set_option maxRecDepth 20000 in
set_option maxHeartbeats 4000000 in
theorem p_case1_12 {xs : Nat → Int32} {h : ai_H} (F : Fresh 6 xs h) (hk : xs 0 &&& 31 = 1) (hw : xs 1 = 12) : aW aiP 0 17 658 33 [(4, .int 0), (3, .ref 233), (2, .ref 191), (1, .ref 6), (0, .ref 0)] [] h p_Q := by
  obtain ⟨e0, e1, ⟨g2, e2⟩, ⟨g3, e3⟩, ⟨g4, e4⟩, e5, e6, e7, e8, e9, e51, e93, e135, e177, e178, e179, e180, e181, e182, e183, e184, e185, e186, e187, e188, e189, e190, e191, e192, e193, e194, e195, e196, e197, e198, e199, e200, e201, e202, e203, e204, e205, e206, e207, e208, e209, e210, e211, e212, e213, e214, e215, e216, e217, e218, e219, e220, e221, e222, e223, e224, e225, e226, e227, ⟨g228, e228⟩, ⟨g229, e229⟩, e230, e231, e232, e233, s0⟩ := F
  refine q_aload_n rfl rfl ?_
  refine q_iload rfl rfl ?_
  refine s_iaload (j := 0) (v := .int (xs 0)) rfl e0 (by decide) rfl (by first | rfl | decide) ?_
  refine q_bipush rfl ?_
  refine s_iand (k := ((xs 0) &&& (31 : Int32))) rfl rfl ?_
  rw [hk]
  show aW aiP 0 17 658 40 [(4, .int 0), (3, .ref 233), (2, .ref 191), (1, .ref 6), (0, .ref 0)] [.int 1] h _
  refine s_sw (tg := 223) rfl rfl ?_
  refine q_aload_n rfl rfl ?_
  refine q_aload_n rfl rfl ?_
  refine q_iload rfl rfl ?_
  refine q_iconst rfl ?_
  refine s_iadd (k := 1) rfl (by decide) ?_
  refine s_iaload (j := 1) (v := .int (xs 1)) rfl e0 (by decide) rfl (by first | rfl | decide) ?_
  rw [hw]
  refine s_callV (as := [.int 12]) (rest := []) (d' := 16) (w' := 637) (lv' := [(0, .ref 6), (1, .int 12)]) rfl e6 rfl rfl rfl rfl rfl rfl ?_
  refine q_iload_n rfl rfl ?_
  refine q_if_lt rfl (fun c => absurd c (by decide)) (fun _ => ?_)
  refine q_iload_n rfl rfl ?_
  refine q_bipush rfl ?_
  refine q_icmp_gt rfl (fun c => absurd c (by decide)) (fun _ => ?_)
  refine q_aload_n rfl rfl ?_
  refine s_get (v := .int 0) rfl e6 rfl rfl ?_
  refine q_iload_n rfl rfl ?_
  refine s_iadd (k := 12) rfl (by decide) ?_
  refine q_sipush rfl ?_
  refine q_icmp_le rfl (fun _ => ?_) (fun c => absurd (by decide) c)
  refine q_aload_n rfl rfl ?_
  refine s_get (v := .ref 7) rfl e6 rfl rfl ?_
  refine q_iconst rfl ?_
  refine q_aload_n rfl rfl ?_
  refine s_get (v := .ref 8) rfl e6 rfl rfl ?_
  refine q_aload_n rfl rfl ?_
  refine s_get (v := .int 0) rfl e6 rfl rfl ?_
  refine q_iload_n rfl rfl ?_
  refine s_copy (sp := 0) (dp := 0) (k := 12) rfl e7 e8 (by decide) (by decide) (by decide) rfl (by decide) (by decide) (by decide) (fun i _ => rfl) (fun h1 o1 f1 => ?_)
  have s1 := s0.put f1
  refine q_aload_n rfl rfl ?_
  refine q_dup rfl rfl ?_
  have e6_1 := (e6.ne f1 rfl)
  refine s_get (v := .int 0) rfl e6_1 rfl rfl ?_
  refine q_iload_n rfl rfl ?_
  refine s_iadd (k := 12) rfl (by decide) ?_
  refine s_put (vs' := [.ref 7, .ref 8, .int 12, .ref 9, .int (-1), .ref 51, .ref 93, .ref 135, .ref 177, .ref 180, .int 0, .ref 183, .ref 186, .ref 189]) rfl e6_1 rfl rfl rfl rfl (fun h2 o2 f2 => ?_)
  have s2 := s1.put f2
  refine q_aload_n rfl rfl ?_
  refine s_get (v := .ref 7) rfl o2 rfl rfl ?_
  refine q_iconst rfl ?_
  refine s_callS (as := [.ref 7, .int 0]) (rest := []) (d' := 15) (w' := 614) (lv' := [(0, .ref 7), (1, .int 0)]) rfl rfl rfl rfl rfl rfl rfl rfl ?_
  refine q_iconst rfl ?_
  refine s_istore_n (lv' := [(2, .int 0), (0, .ref 7), (1, .int 0)]) rfl (by decide) rfl ?_
  refine q_aload_n rfl rfl ?_
  have e7_2 := (f2.ne rfl (f1.ne rfl e7))
  refine s_alen (x := 20) rfl e7_2 rfl (by decide) ?_
  refine s_istore_n (lv' := [(3, .int 20), (2, .int 0), (0, .ref 7), (1, .int 0)]) rfl (by decide) rfl ?_
  refine q_iload_n rfl rfl ?_
  refine q_iload_n rfl rfl ?_
  refine q_icmp_ge rfl (fun c => absurd c (by decide)) (fun _ => ?_)
  refine q_aload_n rfl rfl ?_
  refine q_iload_n rfl rfl ?_
  refine q_iload_n rfl rfl ?_
  refine s_bastore (j := 0) rfl e7_2 (by decide) rfl (fun h3 o3 f3 => ?_)
  have s3 := s2.put f3
  refine s_iinc (y := 1) (lv' := [(2, .int 1), (3, .int 20), (0, .ref 7), (1, .int 0)]) rfl rfl (by decide) (by decide) rfl ?_
  refine q_goto rfl ?_
  refine q_iload_n rfl rfl ?_
  refine q_iload_n rfl rfl ?_
  refine q_icmp_ge rfl (fun c => absurd c (by decide)) (fun _ => ?_)
  refine q_aload_n rfl rfl ?_
  refine q_iload_n rfl rfl ?_
  refine q_iload_n rfl rfl ?_
  refine s_bastore (j := 1) rfl o3 (by decide) rfl (fun h4 o4 f4 => ?_)
  have s4 := s3.put f4
  refine s_iinc (y := 2) (lv' := [(2, .int 2), (3, .int 20), (0, .ref 7), (1, .int 0)]) rfl rfl (by decide) (by decide) rfl ?_
  refine q_goto rfl ?_
  refine q_iload_n rfl rfl ?_
  refine q_iload_n rfl rfl ?_
  refine q_icmp_ge rfl (fun c => absurd c (by decide)) (fun _ => ?_)
  refine q_aload_n rfl rfl ?_
  refine q_iload_n rfl rfl ?_
  refine q_iload_n rfl rfl ?_
  refine s_bastore (j := 2) rfl o4 (by decide) rfl (fun h5 o5 f5 => ?_)
  have s5 := s4.put f5
  refine s_iinc (y := 3) (lv' := [(2, .int 3), (3, .int 20), (0, .ref 7), (1, .int 0)]) rfl rfl (by decide) (by decide) rfl ?_
  refine q_goto rfl ?_
  refine q_iload_n rfl rfl ?_
  refine q_iload_n rfl rfl ?_
  refine q_icmp_ge rfl (fun c => absurd c (by decide)) (fun _ => ?_)
  refine q_aload_n rfl rfl ?_
  refine q_iload_n rfl rfl ?_
  refine q_iload_n rfl rfl ?_
  refine s_bastore (j := 3) rfl o5 (by decide) rfl (fun h6 o6 f6 => ?_)
  have s6 := s5.put f6
  refine s_iinc (y := 4) (lv' := [(2, .int 4), (3, .int 20), (0, .ref 7), (1, .int 0)]) rfl rfl (by decide) (by decide) rfl ?_
  refine q_goto rfl ?_
  refine q_iload_n rfl rfl ?_
  refine q_iload_n rfl rfl ?_
  refine q_icmp_ge rfl (fun c => absurd c (by decide)) (fun _ => ?_)
  refine q_aload_n rfl rfl ?_
  refine q_iload_n rfl rfl ?_
  refine q_iload_n rfl rfl ?_
  refine s_bastore (j := 4) rfl o6 (by decide) rfl (fun h7 o7 f7 => ?_)
  have s7 := s6.put f7
  refine s_iinc (y := 5) (lv' := [(2, .int 5), (3, .int 20), (0, .ref 7), (1, .int 0)]) rfl rfl (by decide) (by decide) rfl ?_
  refine q_goto rfl ?_
  refine q_iload_n rfl rfl ?_
  refine q_iload_n rfl rfl ?_
  refine q_icmp_ge rfl (fun c => absurd c (by decide)) (fun _ => ?_)
  refine q_aload_n rfl rfl ?_
  refine q_iload_n rfl rfl ?_
  refine q_iload_n rfl rfl ?_
  refine s_bastore (j := 5) rfl o7 (by decide) rfl (fun h8 o8 f8 => ?_)
  have s8 := s7.put f8
  refine s_iinc (y := 6) (lv' := [(2, .int 6), (3, .int 20), (0, .ref 7), (1, .int 0)]) rfl rfl (by decide) (by decide) rfl ?_
  refine q_goto rfl ?_
  refine q_iload_n rfl rfl ?_
  refine q_iload_n rfl rfl ?_
  refine q_icmp_ge rfl (fun c => absurd c (by decide)) (fun _ => ?_)
  refine q_aload_n rfl rfl ?_
  refine q_iload_n rfl rfl ?_
  refine q_iload_n rfl rfl ?_
  refine s_bastore (j := 6) rfl o8 (by decide) rfl (fun h9 o9 f9 => ?_)
  have s9 := s8.put f9
  refine s_iinc (y := 7) (lv' := [(2, .int 7), (3, .int 20), (0, .ref 7), (1, .int 0)]) rfl rfl (by decide) (by decide) rfl ?_
  refine q_goto rfl ?_
  refine q_iload_n rfl rfl ?_
  refine q_iload_n rfl rfl ?_
  refine q_icmp_ge rfl (fun c => absurd c (by decide)) (fun _ => ?_)
  refine q_aload_n rfl rfl ?_
  refine q_iload_n rfl rfl ?_
  refine q_iload_n rfl rfl ?_
  refine s_bastore (j := 7) rfl o9 (by decide) rfl (fun h10 o10 f10 => ?_)
  have s10 := s9.put f10
  refine s_iinc (y := 8) (lv' := [(2, .int 8), (3, .int 20), (0, .ref 7), (1, .int 0)]) rfl rfl (by decide) (by decide) rfl ?_
  refine q_goto rfl ?_
  refine q_iload_n rfl rfl ?_
  refine q_iload_n rfl rfl ?_
  refine q_icmp_ge rfl (fun c => absurd c (by decide)) (fun _ => ?_)
  refine q_aload_n rfl rfl ?_
  refine q_iload_n rfl rfl ?_
  refine q_iload_n rfl rfl ?_
  refine s_bastore (j := 8) rfl o10 (by decide) rfl (fun h11 o11 f11 => ?_)
  have s11 := s10.put f11
  refine s_iinc (y := 9) (lv' := [(2, .int 9), (3, .int 20), (0, .ref 7), (1, .int 0)]) rfl rfl (by decide) (by decide) rfl ?_
  refine q_goto rfl ?_
  refine q_iload_n rfl rfl ?_
  refine q_iload_n rfl rfl ?_
  refine q_icmp_ge rfl (fun c => absurd c (by decide)) (fun _ => ?_)
  refine q_aload_n rfl rfl ?_
  refine q_iload_n rfl rfl ?_
  refine q_iload_n rfl rfl ?_
  refine s_bastore (j := 9) rfl o11 (by decide) rfl (fun h12 o12 f12 => ?_)
  have s12 := s11.put f12
  refine s_iinc (y := 10) (lv' := [(2, .int 10), (3, .int 20), (0, .ref 7), (1, .int 0)]) rfl rfl (by decide) (by decide) rfl ?_
  refine q_goto rfl ?_
  refine q_iload_n rfl rfl ?_
  refine q_iload_n rfl rfl ?_
  refine q_icmp_ge rfl (fun c => absurd c (by decide)) (fun _ => ?_)
  refine q_aload_n rfl rfl ?_
  refine q_iload_n rfl rfl ?_
  refine q_iload_n rfl rfl ?_
  refine s_bastore (j := 10) rfl o12 (by decide) rfl (fun h13 o13 f13 => ?_)
  have s13 := s12.put f13
  refine s_iinc (y := 11) (lv' := [(2, .int 11), (3, .int 20), (0, .ref 7), (1, .int 0)]) rfl rfl (by decide) (by decide) rfl ?_
  refine q_goto rfl ?_
  refine q_iload_n rfl rfl ?_
  refine q_iload_n rfl rfl ?_
  refine q_icmp_ge rfl (fun c => absurd c (by decide)) (fun _ => ?_)
  refine q_aload_n rfl rfl ?_
  refine q_iload_n rfl rfl ?_
  refine q_iload_n rfl rfl ?_
  refine s_bastore (j := 11) rfl o13 (by decide) rfl (fun h14 o14 f14 => ?_)
  have s14 := s13.put f14
  refine s_iinc (y := 12) (lv' := [(2, .int 12), (3, .int 20), (0, .ref 7), (1, .int 0)]) rfl rfl (by decide) (by decide) rfl ?_
  refine q_goto rfl ?_
  refine q_iload_n rfl rfl ?_
  refine q_iload_n rfl rfl ?_
  refine q_icmp_ge rfl (fun c => absurd c (by decide)) (fun _ => ?_)
  refine q_aload_n rfl rfl ?_
  refine q_iload_n rfl rfl ?_
  refine q_iload_n rfl rfl ?_
  refine s_bastore (j := 12) rfl o14 (by decide) rfl (fun h15 o15 f15 => ?_)
  have s15 := s14.put f15
  refine s_iinc (y := 13) (lv' := [(2, .int 13), (3, .int 20), (0, .ref 7), (1, .int 0)]) rfl rfl (by decide) (by decide) rfl ?_
  refine q_goto rfl ?_
  refine q_iload_n rfl rfl ?_
  refine q_iload_n rfl rfl ?_
  refine q_icmp_ge rfl (fun c => absurd c (by decide)) (fun _ => ?_)
  refine q_aload_n rfl rfl ?_
  refine q_iload_n rfl rfl ?_
  refine q_iload_n rfl rfl ?_
  refine s_bastore (j := 13) rfl o15 (by decide) rfl (fun h16 o16 f16 => ?_)
  have s16 := s15.put f16
  refine s_iinc (y := 14) (lv' := [(2, .int 14), (3, .int 20), (0, .ref 7), (1, .int 0)]) rfl rfl (by decide) (by decide) rfl ?_
  refine q_goto rfl ?_
  refine q_iload_n rfl rfl ?_
  refine q_iload_n rfl rfl ?_
  refine q_icmp_ge rfl (fun c => absurd c (by decide)) (fun _ => ?_)
  refine q_aload_n rfl rfl ?_
  refine q_iload_n rfl rfl ?_
  refine q_iload_n rfl rfl ?_
  refine s_bastore (j := 14) rfl o16 (by decide) rfl (fun h17 o17 f17 => ?_)
  have s17 := s16.put f17
  refine s_iinc (y := 15) (lv' := [(2, .int 15), (3, .int 20), (0, .ref 7), (1, .int 0)]) rfl rfl (by decide) (by decide) rfl ?_
  refine q_goto rfl ?_
  refine q_iload_n rfl rfl ?_
  refine q_iload_n rfl rfl ?_
  refine q_icmp_ge rfl (fun c => absurd c (by decide)) (fun _ => ?_)
  refine q_aload_n rfl rfl ?_
  refine q_iload_n rfl rfl ?_
  refine q_iload_n rfl rfl ?_
  refine s_bastore (j := 15) rfl o17 (by decide) rfl (fun h18 o18 f18 => ?_)
  have s18 := s17.put f18
  refine s_iinc (y := 16) (lv' := [(2, .int 16), (3, .int 20), (0, .ref 7), (1, .int 0)]) rfl rfl (by decide) (by decide) rfl ?_
  refine q_goto rfl ?_
  refine q_iload_n rfl rfl ?_
  refine q_iload_n rfl rfl ?_
  refine q_icmp_ge rfl (fun c => absurd c (by decide)) (fun _ => ?_)
  refine q_aload_n rfl rfl ?_
  refine q_iload_n rfl rfl ?_
  refine q_iload_n rfl rfl ?_
  refine s_bastore (j := 16) rfl o18 (by decide) rfl (fun h19 o19 f19 => ?_)
  have s19 := s18.put f19
  refine s_iinc (y := 17) (lv' := [(2, .int 17), (3, .int 20), (0, .ref 7), (1, .int 0)]) rfl rfl (by decide) (by decide) rfl ?_
  refine q_goto rfl ?_
  refine q_iload_n rfl rfl ?_
  refine q_iload_n rfl rfl ?_
  refine q_icmp_ge rfl (fun c => absurd c (by decide)) (fun _ => ?_)
  refine q_aload_n rfl rfl ?_
  refine q_iload_n rfl rfl ?_
  refine q_iload_n rfl rfl ?_
  refine s_bastore (j := 17) rfl o19 (by decide) rfl (fun h20 o20 f20 => ?_)
  have s20 := s19.put f20
  refine s_iinc (y := 18) (lv' := [(2, .int 18), (3, .int 20), (0, .ref 7), (1, .int 0)]) rfl rfl (by decide) (by decide) rfl ?_
  refine q_goto rfl ?_
  refine q_iload_n rfl rfl ?_
  refine q_iload_n rfl rfl ?_
  refine q_icmp_ge rfl (fun c => absurd c (by decide)) (fun _ => ?_)
  refine q_aload_n rfl rfl ?_
  refine q_iload_n rfl rfl ?_
  refine q_iload_n rfl rfl ?_
  refine s_bastore (j := 18) rfl o20 (by decide) rfl (fun h21 o21 f21 => ?_)
  have s21 := s20.put f21
  refine s_iinc (y := 19) (lv' := [(2, .int 19), (3, .int 20), (0, .ref 7), (1, .int 0)]) rfl rfl (by decide) (by decide) rfl ?_
  refine q_goto rfl ?_
  refine q_iload_n rfl rfl ?_
  refine q_iload_n rfl rfl ?_
  refine q_icmp_ge rfl (fun c => absurd c (by decide)) (fun _ => ?_)
  refine q_aload_n rfl rfl ?_
  refine q_iload_n rfl rfl ?_
  refine q_iload_n rfl rfl ?_
  refine s_bastore (j := 19) rfl o21 (by decide) rfl (fun h22 o22 f22 => ?_)
  have s22 := s21.put f22
  refine s_iinc (y := 20) (lv' := [(2, .int 20), (3, .int 20), (0, .ref 7), (1, .int 0)]) rfl rfl (by decide) (by decide) rfl ?_
  refine q_goto rfl ?_
  refine q_iload_n rfl rfl ?_
  refine q_iload_n rfl rfl ?_
  refine q_icmp_ge rfl (fun _ => ?_) (fun c => absurd (by decide) c)
  refine q_return rfl rfl ?_
  show aW aiP 15 16 637 59 [(0, .ref 6), (1, .int 12)] [] h22 _
  refine q_aload_n rfl rfl ?_
  have e6_22 := ((((((((((((((((((((o2.ne f3 rfl).ne f4 rfl).ne f5 rfl).ne f6 rfl).ne f7 rfl).ne f8 rfl).ne f9 rfl).ne f10 rfl).ne f11 rfl).ne f12 rfl).ne f13 rfl).ne f14 rfl).ne f15 rfl).ne f16 rfl).ne f17 rfl).ne f18 rfl).ne f19 rfl).ne f20 rfl).ne f21 rfl).ne f22 rfl)
  refine s_get (v := .int 12) rfl e6_22 rfl rfl ?_
  refine q_ireturn rfl rfl ?_
  show aW aiP 0 17 658 233 [(4, .int 0), (3, .ref 233), (2, .ref 191), (1, .ref 6), (0, .ref 0)] [.int 12] h22 _
  refine q_aload_n rfl rfl ?_
  refine q_aload_n rfl rfl ?_
  refine q_iload rfl rfl ?_
  refine q_iconst rfl ?_
  refine s_iadd (k := 1) rfl (by decide) ?_
  have e0_22 := (f22.ne rfl (f21.ne rfl (f20.ne rfl (f19.ne rfl (f18.ne rfl (f17.ne rfl (f16.ne rfl (f15.ne rfl (f14.ne rfl (f13.ne rfl (f12.ne rfl (f11.ne rfl (f10.ne rfl (f9.ne rfl (f8.ne rfl (f7.ne rfl (f6.ne rfl (f5.ne rfl (f4.ne rfl (f3.ne rfl (f2.ne rfl (f1.ne rfl e0))))))))))))))))))))))
  refine s_iaload (j := 1) (v := .int (xs 1)) rfl e0_22 (by decide) rfl (by first | rfl | decide) ?_
  rw [hw]
  have e191_22 := ((((((((((((((((((((((e191.ne f1 rfl).ne f2 rfl).ne f3 rfl).ne f4 rfl).ne f5 rfl).ne f6 rfl).ne f7 rfl).ne f8 rfl).ne f9 rfl).ne f10 rfl).ne f11 rfl).ne f12 rfl).ne f13 rfl).ne f14 rfl).ne f15 rfl).ne f16 rfl).ne f17 rfl).ne f18 rfl).ne f19 rfl).ne f20 rfl).ne f21 rfl).ne f22 rfl)
  refine s_callV (as := [.int 12]) (rest := [.int 12]) (d' := 16) (w' := 636) (lv' := [(0, .ref 191), (1, .int 12)]) rfl e191_22 rfl rfl rfl rfl rfl rfl ?_
  refine q_aload_n rfl rfl ?_
  refine q_iconst rfl ?_
  refine s_put (vs' := [.int 0, .ref 192, .ref 193, .int 0, .ref 194, .ref 195, .ref 196, .ref 197, .ref 198, .ref 199, .ref 200, .ref 201, .ref 202, .ref 203, .ref 204, .ref 205, .int (-1), .int 0, .ref 206, .ref 207, .ref 208, .ref 209, .ref 210, .ref 211, .ref 212, .ref 213, .ref 214, .ref 215, .int 0, .int 0, .int 0, .int 0, .ref 216, .ref 217, .ref 218, .ref 219, .ref 220, .int (-1), .int 0, .int 0, .int 0, .int 0, .int 0, .int 0, .ref 221, .ref 222, .ref 223, .ref 224, .int 0, .ref 225, .int 0, .ref 226, .ref 227, .int 0, .ref 228, .ref 229, .ref 230, .ref 231, .ref 232]) rfl e191_22 rfl rfl rfl rfl (fun h23 o23 f23 => ?_)
  have s23 := s22.put f23
  refine q_iload_n rfl rfl ?_
  refine q_if_lt rfl (fun c => absurd c (by decide)) (fun _ => ?_)
  refine q_iload_n rfl rfl ?_
  refine q_bipush rfl ?_
  refine q_icmp_gt rfl (fun c => absurd c (by decide)) (fun _ => ?_)
  refine q_aload_n rfl rfl ?_
  refine s_get (v := .int 0) rfl o23 rfl rfl ?_
  refine q_iload_n rfl rfl ?_
  refine s_iadd (k := 12) rfl (by decide) ?_
  refine q_sipush rfl ?_
  refine q_icmp_le rfl (fun _ => ?_) (fun c => absurd (by decide) c)
  refine q_iconst rfl ?_
  refine s_istore_n (lv' := [(2, .int 0), (0, .ref 191), (1, .int 12)]) rfl (by decide) rfl ?_
  refine q_iload_n rfl rfl ?_
  refine q_iload_n rfl rfl ?_
  refine q_icmp_ge rfl (fun c => absurd c (by decide)) (fun _ => ?_)
  refine q_aload_n rfl rfl ?_
  refine s_get (v := .ref 193) rfl o23 rfl rfl ?_
  refine q_aload_n rfl rfl ?_
  refine s_get (v := .int 0) rfl o23 rfl rfl ?_
  refine q_aload_n rfl rfl ?_
  refine s_get (v := .ref 192) rfl o23 rfl rfl ?_
  refine q_iload_n rfl rfl ?_
  have e192_23 := (f23.ne rfl (f22.ne rfl (f21.ne rfl (f20.ne rfl (f19.ne rfl (f18.ne rfl (f17.ne rfl (f16.ne rfl (f15.ne rfl (f14.ne rfl (f13.ne rfl (f12.ne rfl (f11.ne rfl (f10.ne rfl (f9.ne rfl (f8.ne rfl (f7.ne rfl (f6.ne rfl (f5.ne rfl (f4.ne rfl (f3.ne rfl (f2.ne rfl (f1.ne rfl e192)))))))))))))))))))))))
  refine s_iaload (j := 0) (v := .int 0) rfl e192_23 (by decide) rfl (by first | rfl | decide) ?_
  have e193_23 := (f23.ne rfl (f22.ne rfl (f21.ne rfl (f20.ne rfl (f19.ne rfl (f18.ne rfl (f17.ne rfl (f16.ne rfl (f15.ne rfl (f14.ne rfl (f13.ne rfl (f12.ne rfl (f11.ne rfl (f10.ne rfl (f9.ne rfl (f8.ne rfl (f7.ne rfl (f6.ne rfl (f5.ne rfl (f4.ne rfl (f3.ne rfl (f2.ne rfl (f1.ne rfl e193)))))))))))))))))))))))
  refine s_iastore (j := 0) rfl e193_23 (by decide) rfl (fun h24 o24 f24 => ?_)
  have s24 := s23.put f24
  refine q_aload_n rfl rfl ?_
  refine q_dup rfl rfl ?_
  have e191_24 := (o23.ne f24 rfl)
  refine s_get (v := .int 0) rfl e191_24 rfl rfl ?_
  refine q_iconst rfl ?_
  refine s_iadd (k := 1) rfl (by decide) ?_
  refine s_put (vs' := [.int 0, .ref 192, .ref 193, .int 1, .ref 194, .ref 195, .ref 196, .ref 197, .ref 198, .ref 199, .ref 200, .ref 201, .ref 202, .ref 203, .ref 204, .ref 205, .int (-1), .int 0, .ref 206, .ref 207, .ref 208, .ref 209, .ref 210, .ref 211, .ref 212, .ref 213, .ref 214, .ref 215, .int 0, .int 0, .int 0, .int 0, .ref 216, .ref 217, .ref 218, .ref 219, .ref 220, .int (-1), .int 0, .int 0, .int 0, .int 0, .int 0, .int 0, .ref 221, .ref 222, .ref 223, .ref 224, .int 0, .ref 225, .int 0, .ref 226, .ref 227, .int 0, .ref 228, .ref 229, .ref 230, .ref 231, .ref 232]) rfl e191_24 rfl rfl rfl rfl (fun h25 o25 f25 => ?_)
  have s25 := s24.put f25
  refine s_iinc (y := 1) (lv' := [(2, .int 1), (0, .ref 191), (1, .int 12)]) rfl rfl (by decide) (by decide) rfl ?_
  refine q_goto rfl ?_
  refine q_iload_n rfl rfl ?_
  refine q_iload_n rfl rfl ?_
  refine q_icmp_ge rfl (fun c => absurd c (by decide)) (fun _ => ?_)
  refine q_aload_n rfl rfl ?_
  refine s_get (v := .ref 193) rfl o25 rfl rfl ?_
  refine q_aload_n rfl rfl ?_
  refine s_get (v := .int 1) rfl o25 rfl rfl ?_
  refine q_aload_n rfl rfl ?_
  refine s_get (v := .ref 192) rfl o25 rfl rfl ?_
  refine q_iload_n rfl rfl ?_
  have e192_25 := (f25.ne rfl (f24.ne rfl e192_23))
  refine s_iaload (j := 1) (v := .int 0) rfl e192_25 (by decide) rfl (by first | rfl | decide) ?_
  have e193_25 := (f25.ne rfl o24)
  refine s_iastore (j := 1) rfl e193_25 (by decide) rfl (fun h26 o26 f26 => ?_)
  have s26 := s25.put f26
  refine q_aload_n rfl rfl ?_
  refine q_dup rfl rfl ?_
  have e191_26 := (o25.ne f26 rfl)
  refine s_get (v := .int 1) rfl e191_26 rfl rfl ?_
  refine q_iconst rfl ?_
  refine s_iadd (k := 2) rfl (by decide) ?_
  refine s_put (vs' := [.int 0, .ref 192, .ref 193, .int 2, .ref 194, .ref 195, .ref 196, .ref 197, .ref 198, .ref 199, .ref 200, .ref 201, .ref 202, .ref 203, .ref 204, .ref 205, .int (-1), .int 0, .ref 206, .ref 207, .ref 208, .ref 209, .ref 210, .ref 211, .ref 212, .ref 213, .ref 214, .ref 215, .int 0, .int 0, .int 0, .int 0, .ref 216, .ref 217, .ref 218, .ref 219, .ref 220, .int (-1), .int 0, .int 0, .int 0, .int 0, .int 0, .int 0, .ref 221, .ref 222, .ref 223, .ref 224, .int 0, .ref 225, .int 0, .ref 226, .ref 227, .int 0, .ref 228, .ref 229, .ref 230, .ref 231, .ref 232]) rfl e191_26 rfl rfl rfl rfl (fun h27 o27 f27 => ?_)
  have s27 := s26.put f27
  refine s_iinc (y := 2) (lv' := [(2, .int 2), (0, .ref 191), (1, .int 12)]) rfl rfl (by decide) (by decide) rfl ?_
  refine q_goto rfl ?_
  refine q_iload_n rfl rfl ?_
  refine q_iload_n rfl rfl ?_
  refine q_icmp_ge rfl (fun c => absurd c (by decide)) (fun _ => ?_)
  refine q_aload_n rfl rfl ?_
  refine s_get (v := .ref 193) rfl o27 rfl rfl ?_
  refine q_aload_n rfl rfl ?_
  refine s_get (v := .int 2) rfl o27 rfl rfl ?_
  refine q_aload_n rfl rfl ?_
  refine s_get (v := .ref 192) rfl o27 rfl rfl ?_
  refine q_iload_n rfl rfl ?_
  have e192_27 := (f27.ne rfl (f26.ne rfl e192_25))
  refine s_iaload (j := 2) (v := .int 0) rfl e192_27 (by decide) rfl (by first | rfl | decide) ?_
  have e193_27 := (f27.ne rfl o26)
  refine s_iastore (j := 2) rfl e193_27 (by decide) rfl (fun h28 o28 f28 => ?_)
  have s28 := s27.put f28
  refine q_aload_n rfl rfl ?_
  refine q_dup rfl rfl ?_
  have e191_28 := (o27.ne f28 rfl)
  refine s_get (v := .int 2) rfl e191_28 rfl rfl ?_
  refine q_iconst rfl ?_
  refine s_iadd (k := 3) rfl (by decide) ?_
  refine s_put (vs' := [.int 0, .ref 192, .ref 193, .int 3, .ref 194, .ref 195, .ref 196, .ref 197, .ref 198, .ref 199, .ref 200, .ref 201, .ref 202, .ref 203, .ref 204, .ref 205, .int (-1), .int 0, .ref 206, .ref 207, .ref 208, .ref 209, .ref 210, .ref 211, .ref 212, .ref 213, .ref 214, .ref 215, .int 0, .int 0, .int 0, .int 0, .ref 216, .ref 217, .ref 218, .ref 219, .ref 220, .int (-1), .int 0, .int 0, .int 0, .int 0, .int 0, .int 0, .ref 221, .ref 222, .ref 223, .ref 224, .int 0, .ref 225, .int 0, .ref 226, .ref 227, .int 0, .ref 228, .ref 229, .ref 230, .ref 231, .ref 232]) rfl e191_28 rfl rfl rfl rfl (fun h29 o29 f29 => ?_)
  have s29 := s28.put f29
  refine s_iinc (y := 3) (lv' := [(2, .int 3), (0, .ref 191), (1, .int 12)]) rfl rfl (by decide) (by decide) rfl ?_
  refine q_goto rfl ?_
  refine q_iload_n rfl rfl ?_
  refine q_iload_n rfl rfl ?_
  refine q_icmp_ge rfl (fun c => absurd c (by decide)) (fun _ => ?_)
  refine q_aload_n rfl rfl ?_
  refine s_get (v := .ref 193) rfl o29 rfl rfl ?_
  refine q_aload_n rfl rfl ?_
  refine s_get (v := .int 3) rfl o29 rfl rfl ?_
  refine q_aload_n rfl rfl ?_
  refine s_get (v := .ref 192) rfl o29 rfl rfl ?_
  refine q_iload_n rfl rfl ?_
  have e192_29 := (f29.ne rfl (f28.ne rfl e192_27))
  refine s_iaload (j := 3) (v := .int 0) rfl e192_29 (by decide) rfl (by first | rfl | decide) ?_
  have e193_29 := (f29.ne rfl o28)
  refine s_iastore (j := 3) rfl e193_29 (by decide) rfl (fun h30 o30 f30 => ?_)
  have s30 := s29.put f30
  refine q_aload_n rfl rfl ?_
  refine q_dup rfl rfl ?_
  have e191_30 := (o29.ne f30 rfl)
  refine s_get (v := .int 3) rfl e191_30 rfl rfl ?_
  refine q_iconst rfl ?_
  refine s_iadd (k := 4) rfl (by decide) ?_
  refine s_put (vs' := [.int 0, .ref 192, .ref 193, .int 4, .ref 194, .ref 195, .ref 196, .ref 197, .ref 198, .ref 199, .ref 200, .ref 201, .ref 202, .ref 203, .ref 204, .ref 205, .int (-1), .int 0, .ref 206, .ref 207, .ref 208, .ref 209, .ref 210, .ref 211, .ref 212, .ref 213, .ref 214, .ref 215, .int 0, .int 0, .int 0, .int 0, .ref 216, .ref 217, .ref 218, .ref 219, .ref 220, .int (-1), .int 0, .int 0, .int 0, .int 0, .int 0, .int 0, .ref 221, .ref 222, .ref 223, .ref 224, .int 0, .ref 225, .int 0, .ref 226, .ref 227, .int 0, .ref 228, .ref 229, .ref 230, .ref 231, .ref 232]) rfl e191_30 rfl rfl rfl rfl (fun h31 o31 f31 => ?_)
  have s31 := s30.put f31
  refine s_iinc (y := 4) (lv' := [(2, .int 4), (0, .ref 191), (1, .int 12)]) rfl rfl (by decide) (by decide) rfl ?_
  refine q_goto rfl ?_
  refine q_iload_n rfl rfl ?_
  refine q_iload_n rfl rfl ?_
  refine q_icmp_ge rfl (fun c => absurd c (by decide)) (fun _ => ?_)
  refine q_aload_n rfl rfl ?_
  refine s_get (v := .ref 193) rfl o31 rfl rfl ?_
  refine q_aload_n rfl rfl ?_
  refine s_get (v := .int 4) rfl o31 rfl rfl ?_
  refine q_aload_n rfl rfl ?_
  refine s_get (v := .ref 192) rfl o31 rfl rfl ?_
  refine q_iload_n rfl rfl ?_
  have e192_31 := (f31.ne rfl (f30.ne rfl e192_29))
  refine s_iaload (j := 4) (v := .int 0) rfl e192_31 (by decide) rfl (by first | rfl | decide) ?_
  have e193_31 := (f31.ne rfl o30)
  refine s_iastore (j := 4) rfl e193_31 (by decide) rfl (fun h32 o32 f32 => ?_)
  have s32 := s31.put f32
  refine q_aload_n rfl rfl ?_
  refine q_dup rfl rfl ?_
  have e191_32 := (o31.ne f32 rfl)
  refine s_get (v := .int 4) rfl e191_32 rfl rfl ?_
  refine q_iconst rfl ?_
  refine s_iadd (k := 5) rfl (by decide) ?_
  refine s_put (vs' := [.int 0, .ref 192, .ref 193, .int 5, .ref 194, .ref 195, .ref 196, .ref 197, .ref 198, .ref 199, .ref 200, .ref 201, .ref 202, .ref 203, .ref 204, .ref 205, .int (-1), .int 0, .ref 206, .ref 207, .ref 208, .ref 209, .ref 210, .ref 211, .ref 212, .ref 213, .ref 214, .ref 215, .int 0, .int 0, .int 0, .int 0, .ref 216, .ref 217, .ref 218, .ref 219, .ref 220, .int (-1), .int 0, .int 0, .int 0, .int 0, .int 0, .int 0, .ref 221, .ref 222, .ref 223, .ref 224, .int 0, .ref 225, .int 0, .ref 226, .ref 227, .int 0, .ref 228, .ref 229, .ref 230, .ref 231, .ref 232]) rfl e191_32 rfl rfl rfl rfl (fun h33 o33 f33 => ?_)
  have s33 := s32.put f33
  refine s_iinc (y := 5) (lv' := [(2, .int 5), (0, .ref 191), (1, .int 12)]) rfl rfl (by decide) (by decide) rfl ?_
  refine q_goto rfl ?_
  refine q_iload_n rfl rfl ?_
  refine q_iload_n rfl rfl ?_
  refine q_icmp_ge rfl (fun c => absurd c (by decide)) (fun _ => ?_)
  refine q_aload_n rfl rfl ?_
  refine s_get (v := .ref 193) rfl o33 rfl rfl ?_
  refine q_aload_n rfl rfl ?_
  refine s_get (v := .int 5) rfl o33 rfl rfl ?_
  refine q_aload_n rfl rfl ?_
  refine s_get (v := .ref 192) rfl o33 rfl rfl ?_
  refine q_iload_n rfl rfl ?_
  have e192_33 := (f33.ne rfl (f32.ne rfl e192_31))
  refine s_iaload (j := 5) (v := .int 0) rfl e192_33 (by decide) rfl (by first | rfl | decide) ?_
  have e193_33 := (f33.ne rfl o32)
  refine s_iastore (j := 5) rfl e193_33 (by decide) rfl (fun h34 o34 f34 => ?_)
  have s34 := s33.put f34
  refine q_aload_n rfl rfl ?_
  refine q_dup rfl rfl ?_
  have e191_34 := (o33.ne f34 rfl)
  refine s_get (v := .int 5) rfl e191_34 rfl rfl ?_
  refine q_iconst rfl ?_
  refine s_iadd (k := 6) rfl (by decide) ?_
  refine s_put (vs' := [.int 0, .ref 192, .ref 193, .int 6, .ref 194, .ref 195, .ref 196, .ref 197, .ref 198, .ref 199, .ref 200, .ref 201, .ref 202, .ref 203, .ref 204, .ref 205, .int (-1), .int 0, .ref 206, .ref 207, .ref 208, .ref 209, .ref 210, .ref 211, .ref 212, .ref 213, .ref 214, .ref 215, .int 0, .int 0, .int 0, .int 0, .ref 216, .ref 217, .ref 218, .ref 219, .ref 220, .int (-1), .int 0, .int 0, .int 0, .int 0, .int 0, .int 0, .ref 221, .ref 222, .ref 223, .ref 224, .int 0, .ref 225, .int 0, .ref 226, .ref 227, .int 0, .ref 228, .ref 229, .ref 230, .ref 231, .ref 232]) rfl e191_34 rfl rfl rfl rfl (fun h35 o35 f35 => ?_)
  have s35 := s34.put f35
  refine s_iinc (y := 6) (lv' := [(2, .int 6), (0, .ref 191), (1, .int 12)]) rfl rfl (by decide) (by decide) rfl ?_
  refine q_goto rfl ?_
  refine q_iload_n rfl rfl ?_
  refine q_iload_n rfl rfl ?_
  refine q_icmp_ge rfl (fun c => absurd c (by decide)) (fun _ => ?_)
  refine q_aload_n rfl rfl ?_
  refine s_get (v := .ref 193) rfl o35 rfl rfl ?_
  refine q_aload_n rfl rfl ?_
  refine s_get (v := .int 6) rfl o35 rfl rfl ?_
  refine q_aload_n rfl rfl ?_
  refine s_get (v := .ref 192) rfl o35 rfl rfl ?_
  refine q_iload_n rfl rfl ?_
  have e192_35 := (f35.ne rfl (f34.ne rfl e192_33))
  refine s_iaload (j := 6) (v := .int 0) rfl e192_35 (by decide) rfl (by first | rfl | decide) ?_
  have e193_35 := (f35.ne rfl o34)
  refine s_iastore (j := 6) rfl e193_35 (by decide) rfl (fun h36 o36 f36 => ?_)
  have s36 := s35.put f36
  refine q_aload_n rfl rfl ?_
  refine q_dup rfl rfl ?_
  have e191_36 := (o35.ne f36 rfl)
  refine s_get (v := .int 6) rfl e191_36 rfl rfl ?_
  refine q_iconst rfl ?_
  refine s_iadd (k := 7) rfl (by decide) ?_
  refine s_put (vs' := [.int 0, .ref 192, .ref 193, .int 7, .ref 194, .ref 195, .ref 196, .ref 197, .ref 198, .ref 199, .ref 200, .ref 201, .ref 202, .ref 203, .ref 204, .ref 205, .int (-1), .int 0, .ref 206, .ref 207, .ref 208, .ref 209, .ref 210, .ref 211, .ref 212, .ref 213, .ref 214, .ref 215, .int 0, .int 0, .int 0, .int 0, .ref 216, .ref 217, .ref 218, .ref 219, .ref 220, .int (-1), .int 0, .int 0, .int 0, .int 0, .int 0, .int 0, .ref 221, .ref 222, .ref 223, .ref 224, .int 0, .ref 225, .int 0, .ref 226, .ref 227, .int 0, .ref 228, .ref 229, .ref 230, .ref 231, .ref 232]) rfl e191_36 rfl rfl rfl rfl (fun h37 o37 f37 => ?_)
  have s37 := s36.put f37
  refine s_iinc (y := 7) (lv' := [(2, .int 7), (0, .ref 191), (1, .int 12)]) rfl rfl (by decide) (by decide) rfl ?_
  refine q_goto rfl ?_
  refine q_iload_n rfl rfl ?_
  refine q_iload_n rfl rfl ?_
  refine q_icmp_ge rfl (fun c => absurd c (by decide)) (fun _ => ?_)
  refine q_aload_n rfl rfl ?_
  refine s_get (v := .ref 193) rfl o37 rfl rfl ?_
  refine q_aload_n rfl rfl ?_
  refine s_get (v := .int 7) rfl o37 rfl rfl ?_
  refine q_aload_n rfl rfl ?_
  refine s_get (v := .ref 192) rfl o37 rfl rfl ?_
  refine q_iload_n rfl rfl ?_
  have e192_37 := (f37.ne rfl (f36.ne rfl e192_35))
  refine s_iaload (j := 7) (v := .int 0) rfl e192_37 (by decide) rfl (by first | rfl | decide) ?_
  have e193_37 := (f37.ne rfl o36)
  refine s_iastore (j := 7) rfl e193_37 (by decide) rfl (fun h38 o38 f38 => ?_)
  have s38 := s37.put f38
  refine q_aload_n rfl rfl ?_
  refine q_dup rfl rfl ?_
  have e191_38 := (o37.ne f38 rfl)
  refine s_get (v := .int 7) rfl e191_38 rfl rfl ?_
  refine q_iconst rfl ?_
  refine s_iadd (k := 8) rfl (by decide) ?_
  refine s_put (vs' := [.int 0, .ref 192, .ref 193, .int 8, .ref 194, .ref 195, .ref 196, .ref 197, .ref 198, .ref 199, .ref 200, .ref 201, .ref 202, .ref 203, .ref 204, .ref 205, .int (-1), .int 0, .ref 206, .ref 207, .ref 208, .ref 209, .ref 210, .ref 211, .ref 212, .ref 213, .ref 214, .ref 215, .int 0, .int 0, .int 0, .int 0, .ref 216, .ref 217, .ref 218, .ref 219, .ref 220, .int (-1), .int 0, .int 0, .int 0, .int 0, .int 0, .int 0, .ref 221, .ref 222, .ref 223, .ref 224, .int 0, .ref 225, .int 0, .ref 226, .ref 227, .int 0, .ref 228, .ref 229, .ref 230, .ref 231, .ref 232]) rfl e191_38 rfl rfl rfl rfl (fun h39 o39 f39 => ?_)
  have s39 := s38.put f39
  refine s_iinc (y := 8) (lv' := [(2, .int 8), (0, .ref 191), (1, .int 12)]) rfl rfl (by decide) (by decide) rfl ?_
  refine q_goto rfl ?_
  refine q_iload_n rfl rfl ?_
  refine q_iload_n rfl rfl ?_
  refine q_icmp_ge rfl (fun c => absurd c (by decide)) (fun _ => ?_)
  refine q_aload_n rfl rfl ?_
  refine s_get (v := .ref 193) rfl o39 rfl rfl ?_
  refine q_aload_n rfl rfl ?_
  refine s_get (v := .int 8) rfl o39 rfl rfl ?_
  refine q_aload_n rfl rfl ?_
  refine s_get (v := .ref 192) rfl o39 rfl rfl ?_
  refine q_iload_n rfl rfl ?_
  have e192_39 := (f39.ne rfl (f38.ne rfl e192_37))
  refine s_iaload (j := 8) (v := .int 0) rfl e192_39 (by decide) rfl (by first | rfl | decide) ?_
  have e193_39 := (f39.ne rfl o38)
  refine s_iastore (j := 8) rfl e193_39 (by decide) rfl (fun h40 o40 f40 => ?_)
  have s40 := s39.put f40
  refine q_aload_n rfl rfl ?_
  refine q_dup rfl rfl ?_
  have e191_40 := (o39.ne f40 rfl)
  refine s_get (v := .int 8) rfl e191_40 rfl rfl ?_
  refine q_iconst rfl ?_
  refine s_iadd (k := 9) rfl (by decide) ?_
  refine s_put (vs' := [.int 0, .ref 192, .ref 193, .int 9, .ref 194, .ref 195, .ref 196, .ref 197, .ref 198, .ref 199, .ref 200, .ref 201, .ref 202, .ref 203, .ref 204, .ref 205, .int (-1), .int 0, .ref 206, .ref 207, .ref 208, .ref 209, .ref 210, .ref 211, .ref 212, .ref 213, .ref 214, .ref 215, .int 0, .int 0, .int 0, .int 0, .ref 216, .ref 217, .ref 218, .ref 219, .ref 220, .int (-1), .int 0, .int 0, .int 0, .int 0, .int 0, .int 0, .ref 221, .ref 222, .ref 223, .ref 224, .int 0, .ref 225, .int 0, .ref 226, .ref 227, .int 0, .ref 228, .ref 229, .ref 230, .ref 231, .ref 232]) rfl e191_40 rfl rfl rfl rfl (fun h41 o41 f41 => ?_)
  have s41 := s40.put f41
  refine s_iinc (y := 9) (lv' := [(2, .int 9), (0, .ref 191), (1, .int 12)]) rfl rfl (by decide) (by decide) rfl ?_
  refine q_goto rfl ?_
  refine q_iload_n rfl rfl ?_
  refine q_iload_n rfl rfl ?_
  refine q_icmp_ge rfl (fun c => absurd c (by decide)) (fun _ => ?_)
  refine q_aload_n rfl rfl ?_
  refine s_get (v := .ref 193) rfl o41 rfl rfl ?_
  refine q_aload_n rfl rfl ?_
  refine s_get (v := .int 9) rfl o41 rfl rfl ?_
  refine q_aload_n rfl rfl ?_
  refine s_get (v := .ref 192) rfl o41 rfl rfl ?_
  refine q_iload_n rfl rfl ?_
  have e192_41 := (f41.ne rfl (f40.ne rfl e192_39))
  refine s_iaload (j := 9) (v := .int 0) rfl e192_41 (by decide) rfl (by first | rfl | decide) ?_
  have e193_41 := (f41.ne rfl o40)
  refine s_iastore (j := 9) rfl e193_41 (by decide) rfl (fun h42 o42 f42 => ?_)
  have s42 := s41.put f42
  refine q_aload_n rfl rfl ?_
  refine q_dup rfl rfl ?_
  have e191_42 := (o41.ne f42 rfl)
  refine s_get (v := .int 9) rfl e191_42 rfl rfl ?_
  refine q_iconst rfl ?_
  refine s_iadd (k := 10) rfl (by decide) ?_
  refine s_put (vs' := [.int 0, .ref 192, .ref 193, .int 10, .ref 194, .ref 195, .ref 196, .ref 197, .ref 198, .ref 199, .ref 200, .ref 201, .ref 202, .ref 203, .ref 204, .ref 205, .int (-1), .int 0, .ref 206, .ref 207, .ref 208, .ref 209, .ref 210, .ref 211, .ref 212, .ref 213, .ref 214, .ref 215, .int 0, .int 0, .int 0, .int 0, .ref 216, .ref 217, .ref 218, .ref 219, .ref 220, .int (-1), .int 0, .int 0, .int 0, .int 0, .int 0, .int 0, .ref 221, .ref 222, .ref 223, .ref 224, .int 0, .ref 225, .int 0, .ref 226, .ref 227, .int 0, .ref 228, .ref 229, .ref 230, .ref 231, .ref 232]) rfl e191_42 rfl rfl rfl rfl (fun h43 o43 f43 => ?_)
  have s43 := s42.put f43
  refine s_iinc (y := 10) (lv' := [(2, .int 10), (0, .ref 191), (1, .int 12)]) rfl rfl (by decide) (by decide) rfl ?_
  refine q_goto rfl ?_
  refine q_iload_n rfl rfl ?_
  refine q_iload_n rfl rfl ?_
  refine q_icmp_ge rfl (fun c => absurd c (by decide)) (fun _ => ?_)
  refine q_aload_n rfl rfl ?_
  refine s_get (v := .ref 193) rfl o43 rfl rfl ?_
  refine q_aload_n rfl rfl ?_
  refine s_get (v := .int 10) rfl o43 rfl rfl ?_
  refine q_aload_n rfl rfl ?_
  refine s_get (v := .ref 192) rfl o43 rfl rfl ?_
  refine q_iload_n rfl rfl ?_
  have e192_43 := (f43.ne rfl (f42.ne rfl e192_41))
  refine s_iaload (j := 10) (v := .int 0) rfl e192_43 (by decide) rfl (by first | rfl | decide) ?_
  have e193_43 := (f43.ne rfl o42)
  refine s_iastore (j := 10) rfl e193_43 (by decide) rfl (fun h44 o44 f44 => ?_)
  have s44 := s43.put f44
  refine q_aload_n rfl rfl ?_
  refine q_dup rfl rfl ?_
  have e191_44 := (o43.ne f44 rfl)
  refine s_get (v := .int 10) rfl e191_44 rfl rfl ?_
  refine q_iconst rfl ?_
  refine s_iadd (k := 11) rfl (by decide) ?_
  refine s_put (vs' := [.int 0, .ref 192, .ref 193, .int 11, .ref 194, .ref 195, .ref 196, .ref 197, .ref 198, .ref 199, .ref 200, .ref 201, .ref 202, .ref 203, .ref 204, .ref 205, .int (-1), .int 0, .ref 206, .ref 207, .ref 208, .ref 209, .ref 210, .ref 211, .ref 212, .ref 213, .ref 214, .ref 215, .int 0, .int 0, .int 0, .int 0, .ref 216, .ref 217, .ref 218, .ref 219, .ref 220, .int (-1), .int 0, .int 0, .int 0, .int 0, .int 0, .int 0, .ref 221, .ref 222, .ref 223, .ref 224, .int 0, .ref 225, .int 0, .ref 226, .ref 227, .int 0, .ref 228, .ref 229, .ref 230, .ref 231, .ref 232]) rfl e191_44 rfl rfl rfl rfl (fun h45 o45 f45 => ?_)
  have s45 := s44.put f45
  refine s_iinc (y := 11) (lv' := [(2, .int 11), (0, .ref 191), (1, .int 12)]) rfl rfl (by decide) (by decide) rfl ?_
  refine q_goto rfl ?_
  refine q_iload_n rfl rfl ?_
  refine q_iload_n rfl rfl ?_
  refine q_icmp_ge rfl (fun c => absurd c (by decide)) (fun _ => ?_)
  refine q_aload_n rfl rfl ?_
  refine s_get (v := .ref 193) rfl o45 rfl rfl ?_
  refine q_aload_n rfl rfl ?_
  refine s_get (v := .int 11) rfl o45 rfl rfl ?_
  refine q_aload_n rfl rfl ?_
  refine s_get (v := .ref 192) rfl o45 rfl rfl ?_
  refine q_iload_n rfl rfl ?_
  have e192_45 := (f45.ne rfl (f44.ne rfl e192_43))
  refine s_iaload (j := 11) (v := .int 0) rfl e192_45 (by decide) rfl (by first | rfl | decide) ?_
  have e193_45 := (f45.ne rfl o44)
  refine s_iastore (j := 11) rfl e193_45 (by decide) rfl (fun h46 o46 f46 => ?_)
  have s46 := s45.put f46
  refine q_aload_n rfl rfl ?_
  refine q_dup rfl rfl ?_
  have e191_46 := (o45.ne f46 rfl)
  refine s_get (v := .int 11) rfl e191_46 rfl rfl ?_
  refine q_iconst rfl ?_
  refine s_iadd (k := 12) rfl (by decide) ?_
  refine s_put (vs' := [.int 0, .ref 192, .ref 193, .int 12, .ref 194, .ref 195, .ref 196, .ref 197, .ref 198, .ref 199, .ref 200, .ref 201, .ref 202, .ref 203, .ref 204, .ref 205, .int (-1), .int 0, .ref 206, .ref 207, .ref 208, .ref 209, .ref 210, .ref 211, .ref 212, .ref 213, .ref 214, .ref 215, .int 0, .int 0, .int 0, .int 0, .ref 216, .ref 217, .ref 218, .ref 219, .ref 220, .int (-1), .int 0, .int 0, .int 0, .int 0, .int 0, .int 0, .ref 221, .ref 222, .ref 223, .ref 224, .int 0, .ref 225, .int 0, .ref 226, .ref 227, .int 0, .ref 228, .ref 229, .ref 230, .ref 231, .ref 232]) rfl e191_46 rfl rfl rfl rfl (fun h47 o47 f47 => ?_)
  have s47 := s46.put f47
  refine s_iinc (y := 12) (lv' := [(2, .int 12), (0, .ref 191), (1, .int 12)]) rfl rfl (by decide) (by decide) rfl ?_
  refine q_goto rfl ?_
  refine q_iload_n rfl rfl ?_
  refine q_iload_n rfl rfl ?_
  refine q_icmp_ge rfl (fun _ => ?_) (fun c => absurd (by decide) c)
  refine q_iconst rfl ?_
  refine s_istore_n (lv' := [(2, .int 0), (0, .ref 191), (1, .int 12)]) rfl (by decide) rfl ?_
  refine q_iload_n rfl rfl ?_
  refine q_bipush rfl ?_
  refine q_icmp_ge rfl (fun c => absurd c (by decide)) (fun _ => ?_)
  refine q_aload_n rfl rfl ?_
  refine s_get (v := .ref 192) rfl o47 rfl rfl ?_
  refine q_iload_n rfl rfl ?_
  refine q_iconst rfl ?_
  have e192_47 := (f47.ne rfl (f46.ne rfl e192_45))
  refine s_iastore (j := 0) rfl e192_47 (by decide) rfl (fun h48 o48 f48 => ?_)
  have s48 := s47.put f48
  refine s_iinc (y := 1) (lv' := [(2, .int 1), (0, .ref 191), (1, .int 12)]) rfl rfl (by decide) (by decide) rfl ?_
  refine q_goto rfl ?_
  refine q_iload_n rfl rfl ?_
  refine q_bipush rfl ?_
  refine q_icmp_ge rfl (fun c => absurd c (by decide)) (fun _ => ?_)
  refine q_aload_n rfl rfl ?_
  have e191_48 := (o47.ne f48 rfl)
  refine s_get (v := .ref 192) rfl e191_48 rfl rfl ?_
  refine q_iload_n rfl rfl ?_
  refine q_iconst rfl ?_
  refine s_iastore (j := 1) rfl o48 (by decide) rfl (fun h49 o49 f49 => ?_)
  have s49 := s48.put f49
  refine s_iinc (y := 2) (lv' := [(2, .int 2), (0, .ref 191), (1, .int 12)]) rfl rfl (by decide) (by decide) rfl ?_
  refine q_goto rfl ?_
  refine q_iload_n rfl rfl ?_
  refine q_bipush rfl ?_
  refine q_icmp_ge rfl (fun c => absurd c (by decide)) (fun _ => ?_)
  refine q_aload_n rfl rfl ?_
  have e191_49 := (e191_48.ne f49 rfl)
  refine s_get (v := .ref 192) rfl e191_49 rfl rfl ?_
  refine q_iload_n rfl rfl ?_
  refine q_iconst rfl ?_
  refine s_iastore (j := 2) rfl o49 (by decide) rfl (fun h50 o50 f50 => ?_)
  have s50 := s49.put f50
  refine s_iinc (y := 3) (lv' := [(2, .int 3), (0, .ref 191), (1, .int 12)]) rfl rfl (by decide) (by decide) rfl ?_
  refine q_goto rfl ?_
  refine q_iload_n rfl rfl ?_
  refine q_bipush rfl ?_
  refine q_icmp_ge rfl (fun c => absurd c (by decide)) (fun _ => ?_)
  refine q_aload_n rfl rfl ?_
  have e191_50 := (e191_49.ne f50 rfl)
  refine s_get (v := .ref 192) rfl e191_50 rfl rfl ?_
  refine q_iload_n rfl rfl ?_
  refine q_iconst rfl ?_
  refine s_iastore (j := 3) rfl o50 (by decide) rfl (fun h51 o51 f51 => ?_)
  have s51 := s50.put f51
  refine s_iinc (y := 4) (lv' := [(2, .int 4), (0, .ref 191), (1, .int 12)]) rfl rfl (by decide) (by decide) rfl ?_
  refine q_goto rfl ?_
  refine q_iload_n rfl rfl ?_
  refine q_bipush rfl ?_
  refine q_icmp_ge rfl (fun c => absurd c (by decide)) (fun _ => ?_)
  refine q_aload_n rfl rfl ?_
  have e191_51 := (e191_50.ne f51 rfl)
  refine s_get (v := .ref 192) rfl e191_51 rfl rfl ?_
  refine q_iload_n rfl rfl ?_
  refine q_iconst rfl ?_
  refine s_iastore (j := 4) rfl o51 (by decide) rfl (fun h52 o52 f52 => ?_)
  have s52 := s51.put f52
  refine s_iinc (y := 5) (lv' := [(2, .int 5), (0, .ref 191), (1, .int 12)]) rfl rfl (by decide) (by decide) rfl ?_
  refine q_goto rfl ?_
  refine q_iload_n rfl rfl ?_
  refine q_bipush rfl ?_
  refine q_icmp_ge rfl (fun c => absurd c (by decide)) (fun _ => ?_)
  refine q_aload_n rfl rfl ?_
  have e191_52 := (e191_51.ne f52 rfl)
  refine s_get (v := .ref 192) rfl e191_52 rfl rfl ?_
  refine q_iload_n rfl rfl ?_
  refine q_iconst rfl ?_
  refine s_iastore (j := 5) rfl o52 (by decide) rfl (fun h53 o53 f53 => ?_)
  have s53 := s52.put f53
  refine s_iinc (y := 6) (lv' := [(2, .int 6), (0, .ref 191), (1, .int 12)]) rfl rfl (by decide) (by decide) rfl ?_
  refine q_goto rfl ?_
  refine q_iload_n rfl rfl ?_
  refine q_bipush rfl ?_
  refine q_icmp_ge rfl (fun c => absurd c (by decide)) (fun _ => ?_)
  refine q_aload_n rfl rfl ?_
  have e191_53 := (e191_52.ne f53 rfl)
  refine s_get (v := .ref 192) rfl e191_53 rfl rfl ?_
  refine q_iload_n rfl rfl ?_
  refine q_iconst rfl ?_
  refine s_iastore (j := 6) rfl o53 (by decide) rfl (fun h54 o54 f54 => ?_)
  have s54 := s53.put f54
  refine s_iinc (y := 7) (lv' := [(2, .int 7), (0, .ref 191), (1, .int 12)]) rfl rfl (by decide) (by decide) rfl ?_
  refine q_goto rfl ?_
  refine q_iload_n rfl rfl ?_
  refine q_bipush rfl ?_
  refine q_icmp_ge rfl (fun c => absurd c (by decide)) (fun _ => ?_)
  refine q_aload_n rfl rfl ?_
  have e191_54 := (e191_53.ne f54 rfl)
  refine s_get (v := .ref 192) rfl e191_54 rfl rfl ?_
  refine q_iload_n rfl rfl ?_
  refine q_iconst rfl ?_
  refine s_iastore (j := 7) rfl o54 (by decide) rfl (fun h55 o55 f55 => ?_)
  have s55 := s54.put f55
  refine s_iinc (y := 8) (lv' := [(2, .int 8), (0, .ref 191), (1, .int 12)]) rfl rfl (by decide) (by decide) rfl ?_
  refine q_goto rfl ?_
  refine q_iload_n rfl rfl ?_
  refine q_bipush rfl ?_
  refine q_icmp_ge rfl (fun c => absurd c (by decide)) (fun _ => ?_)
  refine q_aload_n rfl rfl ?_
  have e191_55 := (e191_54.ne f55 rfl)
  refine s_get (v := .ref 192) rfl e191_55 rfl rfl ?_
  refine q_iload_n rfl rfl ?_
  refine q_iconst rfl ?_
  refine s_iastore (j := 8) rfl o55 (by decide) rfl (fun h56 o56 f56 => ?_)
  have s56 := s55.put f56
  refine s_iinc (y := 9) (lv' := [(2, .int 9), (0, .ref 191), (1, .int 12)]) rfl rfl (by decide) (by decide) rfl ?_
  refine q_goto rfl ?_
  refine q_iload_n rfl rfl ?_
  refine q_bipush rfl ?_
  refine q_icmp_ge rfl (fun c => absurd c (by decide)) (fun _ => ?_)
  refine q_aload_n rfl rfl ?_
  have e191_56 := (e191_55.ne f56 rfl)
  refine s_get (v := .ref 192) rfl e191_56 rfl rfl ?_
  refine q_iload_n rfl rfl ?_
  refine q_iconst rfl ?_
  refine s_iastore (j := 9) rfl o56 (by decide) rfl (fun h57 o57 f57 => ?_)
  have s57 := s56.put f57
  refine s_iinc (y := 10) (lv' := [(2, .int 10), (0, .ref 191), (1, .int 12)]) rfl rfl (by decide) (by decide) rfl ?_
  refine q_goto rfl ?_
  refine q_iload_n rfl rfl ?_
  refine q_bipush rfl ?_
  refine q_icmp_ge rfl (fun c => absurd c (by decide)) (fun _ => ?_)
  refine q_aload_n rfl rfl ?_
  have e191_57 := (e191_56.ne f57 rfl)
  refine s_get (v := .ref 192) rfl e191_57 rfl rfl ?_
  refine q_iload_n rfl rfl ?_
  refine q_iconst rfl ?_
  refine s_iastore (j := 10) rfl o57 (by decide) rfl (fun h58 o58 f58 => ?_)
  have s58 := s57.put f58
  refine s_iinc (y := 11) (lv' := [(2, .int 11), (0, .ref 191), (1, .int 12)]) rfl rfl (by decide) (by decide) rfl ?_
  refine q_goto rfl ?_
  refine q_iload_n rfl rfl ?_
  refine q_bipush rfl ?_
  refine q_icmp_ge rfl (fun c => absurd c (by decide)) (fun _ => ?_)
  refine q_aload_n rfl rfl ?_
  have e191_58 := (e191_57.ne f58 rfl)
  refine s_get (v := .ref 192) rfl e191_58 rfl rfl ?_
  refine q_iload_n rfl rfl ?_
  refine q_iconst rfl ?_
  refine s_iastore (j := 11) rfl o58 (by decide) rfl (fun h59 o59 f59 => ?_)
  have s59 := s58.put f59
  refine s_iinc (y := 12) (lv' := [(2, .int 12), (0, .ref 191), (1, .int 12)]) rfl rfl (by decide) (by decide) rfl ?_
  refine q_goto rfl ?_
  refine q_iload_n rfl rfl ?_
  refine q_bipush rfl ?_
  refine q_icmp_ge rfl (fun c => absurd c (by decide)) (fun _ => ?_)
  refine q_aload_n rfl rfl ?_
  have e191_59 := (e191_58.ne f59 rfl)
  refine s_get (v := .ref 192) rfl e191_59 rfl rfl ?_
  refine q_iload_n rfl rfl ?_
  refine q_iconst rfl ?_
  refine s_iastore (j := 12) rfl o59 (by decide) rfl (fun h60 o60 f60 => ?_)
  have s60 := s59.put f60
  refine s_iinc (y := 13) (lv' := [(2, .int 13), (0, .ref 191), (1, .int 12)]) rfl rfl (by decide) (by decide) rfl ?_
  refine q_goto rfl ?_
  refine q_iload_n rfl rfl ?_
  refine q_bipush rfl ?_
  refine q_icmp_ge rfl (fun c => absurd c (by decide)) (fun _ => ?_)
  refine q_aload_n rfl rfl ?_
  have e191_60 := (e191_59.ne f60 rfl)
  refine s_get (v := .ref 192) rfl e191_60 rfl rfl ?_
  refine q_iload_n rfl rfl ?_
  refine q_iconst rfl ?_
  refine s_iastore (j := 13) rfl o60 (by decide) rfl (fun h61 o61 f61 => ?_)
  have s61 := s60.put f61
  refine s_iinc (y := 14) (lv' := [(2, .int 14), (0, .ref 191), (1, .int 12)]) rfl rfl (by decide) (by decide) rfl ?_
  refine q_goto rfl ?_
  refine q_iload_n rfl rfl ?_
  refine q_bipush rfl ?_
  refine q_icmp_ge rfl (fun c => absurd c (by decide)) (fun _ => ?_)
  refine q_aload_n rfl rfl ?_
  have e191_61 := (e191_60.ne f61 rfl)
  refine s_get (v := .ref 192) rfl e191_61 rfl rfl ?_
  refine q_iload_n rfl rfl ?_
  refine q_iconst rfl ?_
  refine s_iastore (j := 14) rfl o61 (by decide) rfl (fun h62 o62 f62 => ?_)
  have s62 := s61.put f62
  refine s_iinc (y := 15) (lv' := [(2, .int 15), (0, .ref 191), (1, .int 12)]) rfl rfl (by decide) (by decide) rfl ?_
  refine q_goto rfl ?_
  refine q_iload_n rfl rfl ?_
  refine q_bipush rfl ?_
  refine q_icmp_ge rfl (fun c => absurd c (by decide)) (fun _ => ?_)
  refine q_aload_n rfl rfl ?_
  have e191_62 := (e191_61.ne f62 rfl)
  refine s_get (v := .ref 192) rfl e191_62 rfl rfl ?_
  refine q_iload_n rfl rfl ?_
  refine q_iconst rfl ?_
  refine s_iastore (j := 15) rfl o62 (by decide) rfl (fun h63 o63 f63 => ?_)
  have s63 := s62.put f63
  refine s_iinc (y := 16) (lv' := [(2, .int 16), (0, .ref 191), (1, .int 12)]) rfl rfl (by decide) (by decide) rfl ?_
  refine q_goto rfl ?_
  refine q_iload_n rfl rfl ?_
  refine q_bipush rfl ?_
  refine q_icmp_ge rfl (fun c => absurd c (by decide)) (fun _ => ?_)
  refine q_aload_n rfl rfl ?_
  have e191_63 := (e191_62.ne f63 rfl)
  refine s_get (v := .ref 192) rfl e191_63 rfl rfl ?_
  refine q_iload_n rfl rfl ?_
  refine q_iconst rfl ?_
  refine s_iastore (j := 16) rfl o63 (by decide) rfl (fun h64 o64 f64 => ?_)
  have s64 := s63.put f64
  refine s_iinc (y := 17) (lv' := [(2, .int 17), (0, .ref 191), (1, .int 12)]) rfl rfl (by decide) (by decide) rfl ?_
  refine q_goto rfl ?_
  refine q_iload_n rfl rfl ?_
  refine q_bipush rfl ?_
  refine q_icmp_ge rfl (fun c => absurd c (by decide)) (fun _ => ?_)
  refine q_aload_n rfl rfl ?_
  have e191_64 := (e191_63.ne f64 rfl)
  refine s_get (v := .ref 192) rfl e191_64 rfl rfl ?_
  refine q_iload_n rfl rfl ?_
  refine q_iconst rfl ?_
  refine s_iastore (j := 17) rfl o64 (by decide) rfl (fun h65 o65 f65 => ?_)
  have s65 := s64.put f65
  refine s_iinc (y := 18) (lv' := [(2, .int 18), (0, .ref 191), (1, .int 12)]) rfl rfl (by decide) (by decide) rfl ?_
  refine q_goto rfl ?_
  refine q_iload_n rfl rfl ?_
  refine q_bipush rfl ?_
  refine q_icmp_ge rfl (fun c => absurd c (by decide)) (fun _ => ?_)
  refine q_aload_n rfl rfl ?_
  have e191_65 := (e191_64.ne f65 rfl)
  refine s_get (v := .ref 192) rfl e191_65 rfl rfl ?_
  refine q_iload_n rfl rfl ?_
  refine q_iconst rfl ?_
  refine s_iastore (j := 18) rfl o65 (by decide) rfl (fun h66 o66 f66 => ?_)
  have s66 := s65.put f66
  refine s_iinc (y := 19) (lv' := [(2, .int 19), (0, .ref 191), (1, .int 12)]) rfl rfl (by decide) (by decide) rfl ?_
  refine q_goto rfl ?_
  refine q_iload_n rfl rfl ?_
  refine q_bipush rfl ?_
  refine q_icmp_ge rfl (fun c => absurd c (by decide)) (fun _ => ?_)
  refine q_aload_n rfl rfl ?_
  have e191_66 := (e191_65.ne f66 rfl)
  refine s_get (v := .ref 192) rfl e191_66 rfl rfl ?_
  refine q_iload_n rfl rfl ?_
  refine q_iconst rfl ?_
  refine s_iastore (j := 19) rfl o66 (by decide) rfl (fun h67 o67 f67 => ?_)
  have s67 := s66.put f67
  refine s_iinc (y := 20) (lv' := [(2, .int 20), (0, .ref 191), (1, .int 12)]) rfl rfl (by decide) (by decide) rfl ?_
  refine q_goto rfl ?_
  refine q_iload_n rfl rfl ?_
  refine q_bipush rfl ?_
  refine q_icmp_ge rfl (fun _ => ?_) (fun c => absurd (by decide) c)
  refine q_aload_n rfl rfl ?_
  have e191_67 := (e191_66.ne f67 rfl)
  refine s_get (v := .int 12) rfl e191_67 rfl rfl ?_
  refine q_ireturn rfl rfl ?_
  show aW aiP 0 17 658 243 [(4, .int 0), (3, .ref 233), (2, .ref 191), (1, .ref 6), (0, .ref 0)] [.int 12, .int 12] h67 _
  refine q_icmp_eq rfl (fun _ => ?_) (fun c => absurd (by decide) c)
  refine s_iinc (y := 6) (lv' := [(4, .int 6), (3, .ref 233), (2, .ref 191), (1, .ref 6), (0, .ref 0)]) rfl rfl (by decide) (by decide) rfl ?_
  refine q_goto rfl ?_
  refine q_iload rfl rfl ?_
  refine q_aload_n rfl rfl ?_
  have e0_67 := (f67.ne rfl (f66.ne rfl (f65.ne rfl (f64.ne rfl (f63.ne rfl (f62.ne rfl (f61.ne rfl (f60.ne rfl (f59.ne rfl (f58.ne rfl (f57.ne rfl (f56.ne rfl (f55.ne rfl (f54.ne rfl (f53.ne rfl (f52.ne rfl (f51.ne rfl (f50.ne rfl (f49.ne rfl (f48.ne rfl (f47.ne rfl (f46.ne rfl (f45.ne rfl (f44.ne rfl (f43.ne rfl (f42.ne rfl (f41.ne rfl (f40.ne rfl (f39.ne rfl (f38.ne rfl (f37.ne rfl (f36.ne rfl (f35.ne rfl (f34.ne rfl (f33.ne rfl (f32.ne rfl (f31.ne rfl (f30.ne rfl (f29.ne rfl (f28.ne rfl (f27.ne rfl (f26.ne rfl (f25.ne rfl (f24.ne rfl (f23.ne rfl e0_22)))))))))))))))))))))))))))))))))))))))))))))
  refine s_alen (x := 6) rfl e0_67 rfl (by decide) ?_
  refine q_bipush rfl ?_
  refine s_isub (k := 0) rfl (by decide) ?_
  refine q_icmp_gt rfl (fun _ => ?_) (fun c => absurd (by decide) c)
  refine q_iconst rfl ?_
  refine q_ireturn rfl rfl ?_
  exact ⟨rfl, s67.bd rfl⟩
set_option maxRecDepth 20000 in
set_option maxHeartbeats 4000000 in
theorem p_case1_13 {xs : Nat → Int32} {h : ai_H} (F : Fresh 6 xs h) (hk : xs 0 &&& 31 = 1) (hw : xs 1 = 13) : aW aiP 0 17 658 33 [(4, .int 0), (3, .ref 233), (2, .ref 191), (1, .ref 6), (0, .ref 0)] [] h p_Q := by
  obtain ⟨e0, e1, ⟨g2, e2⟩, ⟨g3, e3⟩, ⟨g4, e4⟩, e5, e6, e7, e8, e9, e51, e93, e135, e177, e178, e179, e180, e181, e182, e183, e184, e185, e186, e187, e188, e189, e190, e191, e192, e193, e194, e195, e196, e197, e198, e199, e200, e201, e202, e203, e204, e205, e206, e207, e208, e209, e210, e211, e212, e213, e214, e215, e216, e217, e218, e219, e220, e221, e222, e223, e224, e225, e226, e227, ⟨g228, e228⟩, ⟨g229, e229⟩, e230, e231, e232, e233, s0⟩ := F
  refine q_aload_n rfl rfl ?_
  refine q_iload rfl rfl ?_
  refine s_iaload (j := 0) (v := .int (xs 0)) rfl e0 (by decide) rfl (by first | rfl | decide) ?_
  refine q_bipush rfl ?_
  refine s_iand (k := ((xs 0) &&& (31 : Int32))) rfl rfl ?_
  rw [hk]
  show aW aiP 0 17 658 40 [(4, .int 0), (3, .ref 233), (2, .ref 191), (1, .ref 6), (0, .ref 0)] [.int 1] h _
  refine s_sw (tg := 223) rfl rfl ?_
  refine q_aload_n rfl rfl ?_
  refine q_aload_n rfl rfl ?_
  refine q_iload rfl rfl ?_
  refine q_iconst rfl ?_
  refine s_iadd (k := 1) rfl (by decide) ?_
  refine s_iaload (j := 1) (v := .int (xs 1)) rfl e0 (by decide) rfl (by first | rfl | decide) ?_
  rw [hw]
  refine s_callV (as := [.int 13]) (rest := []) (d' := 16) (w' := 637) (lv' := [(0, .ref 6), (1, .int 13)]) rfl e6 rfl rfl rfl rfl rfl rfl ?_
  refine q_iload_n rfl rfl ?_
  refine q_if_lt rfl (fun c => absurd c (by decide)) (fun _ => ?_)
  refine q_iload_n rfl rfl ?_
  refine q_bipush rfl ?_
  refine q_icmp_gt rfl (fun c => absurd c (by decide)) (fun _ => ?_)
  refine q_aload_n rfl rfl ?_
  refine s_get (v := .int 0) rfl e6 rfl rfl ?_
  refine q_iload_n rfl rfl ?_
  refine s_iadd (k := 13) rfl (by decide) ?_
  refine q_sipush rfl ?_
  refine q_icmp_le rfl (fun _ => ?_) (fun c => absurd (by decide) c)
  refine q_aload_n rfl rfl ?_
  refine s_get (v := .ref 7) rfl e6 rfl rfl ?_
  refine q_iconst rfl ?_
  refine q_aload_n rfl rfl ?_
  refine s_get (v := .ref 8) rfl e6 rfl rfl ?_
  refine q_aload_n rfl rfl ?_
  refine s_get (v := .int 0) rfl e6 rfl rfl ?_
  refine q_iload_n rfl rfl ?_
  refine s_copy (sp := 0) (dp := 0) (k := 13) rfl e7 e8 (by decide) (by decide) (by decide) rfl (by decide) (by decide) (by decide) (fun i _ => rfl) (fun h1 o1 f1 => ?_)
  have s1 := s0.put f1
  refine q_aload_n rfl rfl ?_
  refine q_dup rfl rfl ?_
  have e6_1 := (e6.ne f1 rfl)
  refine s_get (v := .int 0) rfl e6_1 rfl rfl ?_
  refine q_iload_n rfl rfl ?_
  refine s_iadd (k := 13) rfl (by decide) ?_
  refine s_put (vs' := [.ref 7, .ref 8, .int 13, .ref 9, .int (-1), .ref 51, .ref 93, .ref 135, .ref 177, .ref 180, .int 0, .ref 183, .ref 186, .ref 189]) rfl e6_1 rfl rfl rfl rfl (fun h2 o2 f2 => ?_)
  have s2 := s1.put f2
  refine q_aload_n rfl rfl ?_
  refine s_get (v := .ref 7) rfl o2 rfl rfl ?_
  refine q_iconst rfl ?_
  refine s_callS (as := [.ref 7, .int 0]) (rest := []) (d' := 15) (w' := 614) (lv' := [(0, .ref 7), (1, .int 0)]) rfl rfl rfl rfl rfl rfl rfl rfl ?_
  refine q_iconst rfl ?_
  refine s_istore_n (lv' := [(2, .int 0), (0, .ref 7), (1, .int 0)]) rfl (by decide) rfl ?_
  refine q_aload_n rfl rfl ?_
  have e7_2 := (f2.ne rfl (f1.ne rfl e7))
  refine s_alen (x := 20) rfl e7_2 rfl (by decide) ?_
  refine s_istore_n (lv' := [(3, .int 20), (2, .int 0), (0, .ref 7), (1, .int 0)]) rfl (by decide) rfl ?_
  refine q_iload_n rfl rfl ?_
  refine q_iload_n rfl rfl ?_
  refine q_icmp_ge rfl (fun c => absurd c (by decide)) (fun _ => ?_)
  refine q_aload_n rfl rfl ?_
  refine q_iload_n rfl rfl ?_
  refine q_iload_n rfl rfl ?_
  refine s_bastore (j := 0) rfl e7_2 (by decide) rfl (fun h3 o3 f3 => ?_)
  have s3 := s2.put f3
  refine s_iinc (y := 1) (lv' := [(2, .int 1), (3, .int 20), (0, .ref 7), (1, .int 0)]) rfl rfl (by decide) (by decide) rfl ?_
  refine q_goto rfl ?_
  refine q_iload_n rfl rfl ?_
  refine q_iload_n rfl rfl ?_
  refine q_icmp_ge rfl (fun c => absurd c (by decide)) (fun _ => ?_)
  refine q_aload_n rfl rfl ?_
  refine q_iload_n rfl rfl ?_
  refine q_iload_n rfl rfl ?_
  refine s_bastore (j := 1) rfl o3 (by decide) rfl (fun h4 o4 f4 => ?_)
  have s4 := s3.put f4
  refine s_iinc (y := 2) (lv' := [(2, .int 2), (3, .int 20), (0, .ref 7), (1, .int 0)]) rfl rfl (by decide) (by decide) rfl ?_
  refine q_goto rfl ?_
  refine q_iload_n rfl rfl ?_
  refine q_iload_n rfl rfl ?_
  refine q_icmp_ge rfl (fun c => absurd c (by decide)) (fun _ => ?_)
  refine q_aload_n rfl rfl ?_
  refine q_iload_n rfl rfl ?_
  refine q_iload_n rfl rfl ?_
  refine s_bastore (j := 2) rfl o4 (by decide) rfl (fun h5 o5 f5 => ?_)
  have s5 := s4.put f5
  refine s_iinc (y := 3) (lv' := [(2, .int 3), (3, .int 20), (0, .ref 7), (1, .int 0)]) rfl rfl (by decide) (by decide) rfl ?_
  refine q_goto rfl ?_
  refine q_iload_n rfl rfl ?_
  refine q_iload_n rfl rfl ?_
  refine q_icmp_ge rfl (fun c => absurd c (by decide)) (fun _ => ?_)
  refine q_aload_n rfl rfl ?_
  refine q_iload_n rfl rfl ?_
  refine q_iload_n rfl rfl ?_
  refine s_bastore (j := 3) rfl o5 (by decide) rfl (fun h6 o6 f6 => ?_)
  have s6 := s5.put f6
  refine s_iinc (y := 4) (lv' := [(2, .int 4), (3, .int 20), (0, .ref 7), (1, .int 0)]) rfl rfl (by decide) (by decide) rfl ?_
  refine q_goto rfl ?_
  refine q_iload_n rfl rfl ?_
  refine q_iload_n rfl rfl ?_
  refine q_icmp_ge rfl (fun c => absurd c (by decide)) (fun _ => ?_)
  refine q_aload_n rfl rfl ?_
  refine q_iload_n rfl rfl ?_
  refine q_iload_n rfl rfl ?_
  refine s_bastore (j := 4) rfl o6 (by decide) rfl (fun h7 o7 f7 => ?_)
  have s7 := s6.put f7
  refine s_iinc (y := 5) (lv' := [(2, .int 5), (3, .int 20), (0, .ref 7), (1, .int 0)]) rfl rfl (by decide) (by decide) rfl ?_
  refine q_goto rfl ?_
  refine q_iload_n rfl rfl ?_
  refine q_iload_n rfl rfl ?_
  refine q_icmp_ge rfl (fun c => absurd c (by decide)) (fun _ => ?_)
  refine q_aload_n rfl rfl ?_
  refine q_iload_n rfl rfl ?_
  refine q_iload_n rfl rfl ?_
  refine s_bastore (j := 5) rfl o7 (by decide) rfl (fun h8 o8 f8 => ?_)
  have s8 := s7.put f8
  refine s_iinc (y := 6) (lv' := [(2, .int 6), (3, .int 20), (0, .ref 7), (1, .int 0)]) rfl rfl (by decide) (by decide) rfl ?_
  refine q_goto rfl ?_
  refine q_iload_n rfl rfl ?_
  refine q_iload_n rfl rfl ?_
  refine q_icmp_ge rfl (fun c => absurd c (by decide)) (fun _ => ?_)
  refine q_aload_n rfl rfl ?_
  refine q_iload_n rfl rfl ?_
  refine q_iload_n rfl rfl ?_
  refine s_bastore (j := 6) rfl o8 (by decide) rfl (fun h9 o9 f9 => ?_)
  have s9 := s8.put f9
  refine s_iinc (y := 7) (lv' := [(2, .int 7), (3, .int 20), (0, .ref 7), (1, .int 0)]) rfl rfl (by decide) (by decide) rfl ?_
  refine q_goto rfl ?_
  refine q_iload_n rfl rfl ?_
  refine q_iload_n rfl rfl ?_
  refine q_icmp_ge rfl (fun c => absurd c (by decide)) (fun _ => ?_)
  refine q_aload_n rfl rfl ?_
  refine q_iload_n rfl rfl ?_
  refine q_iload_n rfl rfl ?_
  refine s_bastore (j := 7) rfl o9 (by decide) rfl (fun h10 o10 f10 => ?_)
  have s10 := s9.put f10
  refine s_iinc (y := 8) (lv' := [(2, .int 8), (3, .int 20), (0, .ref 7), (1, .int 0)]) rfl rfl (by decide) (by decide) rfl ?_
  refine q_goto rfl ?_
  refine q_iload_n rfl rfl ?_
  refine q_iload_n rfl rfl ?_
  refine q_icmp_ge rfl (fun c => absurd c (by decide)) (fun _ => ?_)
  refine q_aload_n rfl rfl ?_
  refine q_iload_n rfl rfl ?_
  refine q_iload_n rfl rfl ?_
  refine s_bastore (j := 8) rfl o10 (by decide) rfl (fun h11 o11 f11 => ?_)
  have s11 := s10.put f11
  refine s_iinc (y := 9) (lv' := [(2, .int 9), (3, .int 20), (0, .ref 7), (1, .int 0)]) rfl rfl (by decide) (by decide) rfl ?_
  refine q_goto rfl ?_
  refine q_iload_n rfl rfl ?_
  refine q_iload_n rfl rfl ?_
  refine q_icmp_ge rfl (fun c => absurd c (by decide)) (fun _ => ?_)
  refine q_aload_n rfl rfl ?_
  refine q_iload_n rfl rfl ?_
  refine q_iload_n rfl rfl ?_
  refine s_bastore (j := 9) rfl o11 (by decide) rfl (fun h12 o12 f12 => ?_)
  have s12 := s11.put f12
  refine s_iinc (y := 10) (lv' := [(2, .int 10), (3, .int 20), (0, .ref 7), (1, .int 0)]) rfl rfl (by decide) (by decide) rfl ?_
  refine q_goto rfl ?_
  refine q_iload_n rfl rfl ?_
  refine q_iload_n rfl rfl ?_
  refine q_icmp_ge rfl (fun c => absurd c (by decide)) (fun _ => ?_)
  refine q_aload_n rfl rfl ?_
  refine q_iload_n rfl rfl ?_
  refine q_iload_n rfl rfl ?_
  refine s_bastore (j := 10) rfl o12 (by decide) rfl (fun h13 o13 f13 => ?_)
  have s13 := s12.put f13
  refine s_iinc (y := 11) (lv' := [(2, .int 11), (3, .int 20), (0, .ref 7), (1, .int 0)]) rfl rfl (by decide) (by decide) rfl ?_
  refine q_goto rfl ?_
  refine q_iload_n rfl rfl ?_
  refine q_iload_n rfl rfl ?_
  refine q_icmp_ge rfl (fun c => absurd c (by decide)) (fun _ => ?_)
  refine q_aload_n rfl rfl ?_
  refine q_iload_n rfl rfl ?_
  refine q_iload_n rfl rfl ?_
  refine s_bastore (j := 11) rfl o13 (by decide) rfl (fun h14 o14 f14 => ?_)
  have s14 := s13.put f14
  refine s_iinc (y := 12) (lv' := [(2, .int 12), (3, .int 20), (0, .ref 7), (1, .int 0)]) rfl rfl (by decide) (by decide) rfl ?_
  refine q_goto rfl ?_
  refine q_iload_n rfl rfl ?_
  refine q_iload_n rfl rfl ?_
  refine q_icmp_ge rfl (fun c => absurd c (by decide)) (fun _ => ?_)
  refine q_aload_n rfl rfl ?_
  refine q_iload_n rfl rfl ?_
  refine q_iload_n rfl rfl ?_
  refine s_bastore (j := 12) rfl o14 (by decide) rfl (fun h15 o15 f15 => ?_)
  have s15 := s14.put f15
  refine s_iinc (y := 13) (lv' := [(2, .int 13), (3, .int 20), (0, .ref 7), (1, .int 0)]) rfl rfl (by decide) (by decide) rfl ?_
  refine q_goto rfl ?_
  refine q_iload_n rfl rfl ?_
  refine q_iload_n rfl rfl ?_
  refine q_icmp_ge rfl (fun c => absurd c (by decide)) (fun _ => ?_)
  refine q_aload_n rfl rfl ?_
  refine q_iload_n rfl rfl ?_
  refine q_iload_n rfl rfl ?_
  refine s_bastore (j := 13) rfl o15 (by decide) rfl (fun h16 o16 f16 => ?_)
  have s16 := s15.put f16
  refine s_iinc (y := 14) (lv' := [(2, .int 14), (3, .int 20), (0, .ref 7), (1, .int 0)]) rfl rfl (by decide) (by decide) rfl ?_
  refine q_goto rfl ?_
  refine q_iload_n rfl rfl ?_
  refine q_iload_n rfl rfl ?_
  refine q_icmp_ge rfl (fun c => absurd c (by decide)) (fun _ => ?_)
  refine q_aload_n rfl rfl ?_
  refine q_iload_n rfl rfl ?_
  refine q_iload_n rfl rfl ?_
  refine s_bastore (j := 14) rfl o16 (by decide) rfl (fun h17 o17 f17 => ?_)
  have s17 := s16.put f17
  refine s_iinc (y := 15) (lv' := [(2, .int 15), (3, .int 20), (0, .ref 7), (1, .int 0)]) rfl rfl (by decide) (by decide) rfl ?_
  refine q_goto rfl ?_
  refine q_iload_n rfl rfl ?_
  refine q_iload_n rfl rfl ?_
  refine q_icmp_ge rfl (fun c => absurd c (by decide)) (fun _ => ?_)
  refine q_aload_n rfl rfl ?_
  refine q_iload_n rfl rfl ?_
  refine q_iload_n rfl rfl ?_
  refine s_bastore (j := 15) rfl o17 (by decide) rfl (fun h18 o18 f18 => ?_)
  have s18 := s17.put f18
  refine s_iinc (y := 16) (lv' := [(2, .int 16), (3, .int 20), (0, .ref 7), (1, .int 0)]) rfl rfl (by decide) (by decide) rfl ?_
  refine q_goto rfl ?_
  refine q_iload_n rfl rfl ?_
  refine q_iload_n rfl rfl ?_
  refine q_icmp_ge rfl (fun c => absurd c (by decide)) (fun _ => ?_)
  refine q_aload_n rfl rfl ?_
  refine q_iload_n rfl rfl ?_
  refine q_iload_n rfl rfl ?_
  refine s_bastore (j := 16) rfl o18 (by decide) rfl (fun h19 o19 f19 => ?_)
  have s19 := s18.put f19
  refine s_iinc (y := 17) (lv' := [(2, .int 17), (3, .int 20), (0, .ref 7), (1, .int 0)]) rfl rfl (by decide) (by decide) rfl ?_
  refine q_goto rfl ?_
  refine q_iload_n rfl rfl ?_
  refine q_iload_n rfl rfl ?_
  refine q_icmp_ge rfl (fun c => absurd c (by decide)) (fun _ => ?_)
  refine q_aload_n rfl rfl ?_
  refine q_iload_n rfl rfl ?_
  refine q_iload_n rfl rfl ?_
  refine s_bastore (j := 17) rfl o19 (by decide) rfl (fun h20 o20 f20 => ?_)
  have s20 := s19.put f20
  refine s_iinc (y := 18) (lv' := [(2, .int 18), (3, .int 20), (0, .ref 7), (1, .int 0)]) rfl rfl (by decide) (by decide) rfl ?_
  refine q_goto rfl ?_
  refine q_iload_n rfl rfl ?_
  refine q_iload_n rfl rfl ?_
  refine q_icmp_ge rfl (fun c => absurd c (by decide)) (fun _ => ?_)
  refine q_aload_n rfl rfl ?_
  refine q_iload_n rfl rfl ?_
  refine q_iload_n rfl rfl ?_
  refine s_bastore (j := 18) rfl o20 (by decide) rfl (fun h21 o21 f21 => ?_)
  have s21 := s20.put f21
  refine s_iinc (y := 19) (lv' := [(2, .int 19), (3, .int 20), (0, .ref 7), (1, .int 0)]) rfl rfl (by decide) (by decide) rfl ?_
  refine q_goto rfl ?_
  refine q_iload_n rfl rfl ?_
  refine q_iload_n rfl rfl ?_
  refine q_icmp_ge rfl (fun c => absurd c (by decide)) (fun _ => ?_)
  refine q_aload_n rfl rfl ?_
  refine q_iload_n rfl rfl ?_
  refine q_iload_n rfl rfl ?_
  refine s_bastore (j := 19) rfl o21 (by decide) rfl (fun h22 o22 f22 => ?_)
  have s22 := s21.put f22
  refine s_iinc (y := 20) (lv' := [(2, .int 20), (3, .int 20), (0, .ref 7), (1, .int 0)]) rfl rfl (by decide) (by decide) rfl ?_
  refine q_goto rfl ?_
  refine q_iload_n rfl rfl ?_
  refine q_iload_n rfl rfl ?_
  refine q_icmp_ge rfl (fun _ => ?_) (fun c => absurd (by decide) c)
  refine q_return rfl rfl ?_
  show aW aiP 15 16 637 59 [(0, .ref 6), (1, .int 13)] [] h22 _
  refine q_aload_n rfl rfl ?_
  have e6_22 := ((((((((((((((((((((o2.ne f3 rfl).ne f4 rfl).ne f5 rfl).ne f6 rfl).ne f7 rfl).ne f8 rfl).ne f9 rfl).ne f10 rfl).ne f11 rfl).ne f12 rfl).ne f13 rfl).ne f14 rfl).ne f15 rfl).ne f16 rfl).ne f17 rfl).ne f18 rfl).ne f19 rfl).ne f20 rfl).ne f21 rfl).ne f22 rfl)
  refine s_get (v := .int 13) rfl e6_22 rfl rfl ?_
  refine q_ireturn rfl rfl ?_
  show aW aiP 0 17 658 233 [(4, .int 0), (3, .ref 233), (2, .ref 191), (1, .ref 6), (0, .ref 0)] [.int 13] h22 _
  refine q_aload_n rfl rfl ?_
  refine q_aload_n rfl rfl ?_
  refine q_iload rfl rfl ?_
  refine q_iconst rfl ?_
  refine s_iadd (k := 1) rfl (by decide) ?_
  have e0_22 := (f22.ne rfl (f21.ne rfl (f20.ne rfl (f19.ne rfl (f18.ne rfl (f17.ne rfl (f16.ne rfl (f15.ne rfl (f14.ne rfl (f13.ne rfl (f12.ne rfl (f11.ne rfl (f10.ne rfl (f9.ne rfl (f8.ne rfl (f7.ne rfl (f6.ne rfl (f5.ne rfl (f4.ne rfl (f3.ne rfl (f2.ne rfl (f1.ne rfl e0))))))))))))))))))))))
  refine s_iaload (j := 1) (v := .int (xs 1)) rfl e0_22 (by decide) rfl (by first | rfl | decide) ?_
  rw [hw]
  have e191_22 := ((((((((((((((((((((((e191.ne f1 rfl).ne f2 rfl).ne f3 rfl).ne f4 rfl).ne f5 rfl).ne f6 rfl).ne f7 rfl).ne f8 rfl).ne f9 rfl).ne f10 rfl).ne f11 rfl).ne f12 rfl).ne f13 rfl).ne f14 rfl).ne f15 rfl).ne f16 rfl).ne f17 rfl).ne f18 rfl).ne f19 rfl).ne f20 rfl).ne f21 rfl).ne f22 rfl)
  refine s_callV (as := [.int 13]) (rest := [.int 13]) (d' := 16) (w' := 636) (lv' := [(0, .ref 191), (1, .int 13)]) rfl e191_22 rfl rfl rfl rfl rfl rfl ?_
  refine q_aload_n rfl rfl ?_
  refine q_iconst rfl ?_
  refine s_put (vs' := [.int 0, .ref 192, .ref 193, .int 0, .ref 194, .ref 195, .ref 196, .ref 197, .ref 198, .ref 199, .ref 200, .ref 201, .ref 202, .ref 203, .ref 204, .ref 205, .int (-1), .int 0, .ref 206, .ref 207, .ref 208, .ref 209, .ref 210, .ref 211, .ref 212, .ref 213, .ref 214, .ref 215, .int 0, .int 0, .int 0, .int 0, .ref 216, .ref 217, .ref 218, .ref 219, .ref 220, .int (-1), .int 0, .int 0, .int 0, .int 0, .int 0, .int 0, .ref 221, .ref 222, .ref 223, .ref 224, .int 0, .ref 225, .int 0, .ref 226, .ref 227, .int 0, .ref 228, .ref 229, .ref 230, .ref 231, .ref 232]) rfl e191_22 rfl rfl rfl rfl (fun h23 o23 f23 => ?_)
  have s23 := s22.put f23
  refine q_iload_n rfl rfl ?_
  refine q_if_lt rfl (fun c => absurd c (by decide)) (fun _ => ?_)
  refine q_iload_n rfl rfl ?_
  refine q_bipush rfl ?_
  refine q_icmp_gt rfl (fun c => absurd c (by decide)) (fun _ => ?_)
  refine q_aload_n rfl rfl ?_
  refine s_get (v := .int 0) rfl o23 rfl rfl ?_
  refine q_iload_n rfl rfl ?_
  refine s_iadd (k := 13) rfl (by decide) ?_
  refine q_sipush rfl ?_
  refine q_icmp_le rfl (fun _ => ?_) (fun c => absurd (by decide) c)
  refine q_iconst rfl ?_
  refine s_istore_n (lv' := [(2, .int 0), (0, .ref 191), (1, .int 13)]) rfl (by decide) rfl ?_
  refine q_iload_n rfl rfl ?_
  refine q_iload_n rfl rfl ?_
  refine q_icmp_ge rfl (fun c => absurd c (by decide)) (fun _ => ?_)
  refine q_aload_n rfl rfl ?_
  refine s_get (v := .ref 193) rfl o23 rfl rfl ?_
  refine q_aload_n rfl rfl ?_
  refine s_get (v := .int 0) rfl o23 rfl rfl ?_
  refine q_aload_n rfl rfl ?_
  refine s_get (v := .ref 192) rfl o23 rfl rfl ?_
  refine q_iload_n rfl rfl ?_
  have e192_23 := (f23.ne rfl (f22.ne rfl (f21.ne rfl (f20.ne rfl (f19.ne rfl (f18.ne rfl (f17.ne rfl (f16.ne rfl (f15.ne rfl (f14.ne rfl (f13.ne rfl (f12.ne rfl (f11.ne rfl (f10.ne rfl (f9.ne rfl (f8.ne rfl (f7.ne rfl (f6.ne rfl (f5.ne rfl (f4.ne rfl (f3.ne rfl (f2.ne rfl (f1.ne rfl e192)))))))))))))))))))))))
  refine s_iaload (j := 0) (v := .int 0) rfl e192_23 (by decide) rfl (by first | rfl | decide) ?_
  have e193_23 := (f23.ne rfl (f22.ne rfl (f21.ne rfl (f20.ne rfl (f19.ne rfl (f18.ne rfl (f17.ne rfl (f16.ne rfl (f15.ne rfl (f14.ne rfl (f13.ne rfl (f12.ne rfl (f11.ne rfl (f10.ne rfl (f9.ne rfl (f8.ne rfl (f7.ne rfl (f6.ne rfl (f5.ne rfl (f4.ne rfl (f3.ne rfl (f2.ne rfl (f1.ne rfl e193)))))))))))))))))))))))
  refine s_iastore (j := 0) rfl e193_23 (by decide) rfl (fun h24 o24 f24 => ?_)
  have s24 := s23.put f24
  refine q_aload_n rfl rfl ?_
  refine q_dup rfl rfl ?_
  have e191_24 := (o23.ne f24 rfl)
  refine s_get (v := .int 0) rfl e191_24 rfl rfl ?_
  refine q_iconst rfl ?_
  refine s_iadd (k := 1) rfl (by decide) ?_
  refine s_put (vs' := [.int 0, .ref 192, .ref 193, .int 1, .ref 194, .ref 195, .ref 196, .ref 197, .ref 198, .ref 199, .ref 200, .ref 201, .ref 202, .ref 203, .ref 204, .ref 205, .int (-1), .int 0, .ref 206, .ref 207, .ref 208, .ref 209, .ref 210, .ref 211, .ref 212, .ref 213, .ref 214, .ref 215, .int 0, .int 0, .int 0, .int 0, .ref 216, .ref 217, .ref 218, .ref 219, .ref 220, .int (-1), .int 0, .int 0, .int 0, .int 0, .int 0, .int 0, .ref 221, .ref 222, .ref 223, .ref 224, .int 0, .ref 225, .int 0, .ref 226, .ref 227, .int 0, .ref 228, .ref 229, .ref 230, .ref 231, .ref 232]) rfl e191_24 rfl rfl rfl rfl (fun h25 o25 f25 => ?_)
  have s25 := s24.put f25
  refine s_iinc (y := 1) (lv' := [(2, .int 1), (0, .ref 191), (1, .int 13)]) rfl rfl (by decide) (by decide) rfl ?_
  refine q_goto rfl ?_
  refine q_iload_n rfl rfl ?_
  refine q_iload_n rfl rfl ?_
  refine q_icmp_ge rfl (fun c => absurd c (by decide)) (fun _ => ?_)
  refine q_aload_n rfl rfl ?_
  refine s_get (v := .ref 193) rfl o25 rfl rfl ?_
  refine q_aload_n rfl rfl ?_
  refine s_get (v := .int 1) rfl o25 rfl rfl ?_
  refine q_aload_n rfl rfl ?_
  refine s_get (v := .ref 192) rfl o25 rfl rfl ?_
  refine q_iload_n rfl rfl ?_
  have e192_25 := (f25.ne rfl (f24.ne rfl e192_23))
  refine s_iaload (j := 1) (v := .int 0) rfl e192_25 (by decide) rfl (by first | rfl | decide) ?_
  have e193_25 := (f25.ne rfl o24)
  refine s_iastore (j := 1) rfl e193_25 (by decide) rfl (fun h26 o26 f26 => ?_)
  have s26 := s25.put f26
  refine q_aload_n rfl rfl ?_
  refine q_dup rfl rfl ?_
  have e191_26 := (o25.ne f26 rfl)
  refine s_get (v := .int 1) rfl e191_26 rfl rfl ?_
  refine q_iconst rfl ?_
  refine s_iadd (k := 2) rfl (by decide) ?_
  refine s_put (vs' := [.int 0, .ref 192, .ref 193, .int 2, .ref 194, .ref 195, .ref 196, .ref 197, .ref 198, .ref 199, .ref 200, .ref 201, .ref 202, .ref 203, .ref 204, .ref 205, .int (-1), .int 0, .ref 206, .ref 207, .ref 208, .ref 209, .ref 210, .ref 211, .ref 212, .ref 213, .ref 214, .ref 215, .int 0, .int 0, .int 0, .int 0, .ref 216, .ref 217, .ref 218, .ref 219, .ref 220, .int (-1), .int 0, .int 0, .int 0, .int 0, .int 0, .int 0, .ref 221, .ref 222, .ref 223, .ref 224, .int 0, .ref 225, .int 0, .ref 226, .ref 227, .int 0, .ref 228, .ref 229, .ref 230, .ref 231, .ref 232]) rfl e191_26 rfl rfl rfl rfl (fun h27 o27 f27 => ?_)
  have s27 := s26.put f27
  refine s_iinc (y := 2) (lv' := [(2, .int 2), (0, .ref 191), (1, .int 13)]) rfl rfl (by decide) (by decide) rfl ?_
  refine q_goto rfl ?_
  refine q_iload_n rfl rfl ?_
  refine q_iload_n rfl rfl ?_
  refine q_icmp_ge rfl (fun c => absurd c (by decide)) (fun _ => ?_)
  refine q_aload_n rfl rfl ?_
  refine s_get (v := .ref 193) rfl o27 rfl rfl ?_
  refine q_aload_n rfl rfl ?_
  refine s_get (v := .int 2) rfl o27 rfl rfl ?_
  refine q_aload_n rfl rfl ?_
  refine s_get (v := .ref 192) rfl o27 rfl rfl ?_
  refine q_iload_n rfl rfl ?_
  have e192_27 := (f27.ne rfl (f26.ne rfl e192_25))
  refine s_iaload (j := 2) (v := .int 0) rfl e192_27 (by decide) rfl (by first | rfl | decide) ?_
  have e193_27 := (f27.ne rfl o26)
  refine s_iastore (j := 2) rfl e193_27 (by decide) rfl (fun h28 o28 f28 => ?_)
  have s28 := s27.put f28
  refine q_aload_n rfl rfl ?_
  refine q_dup rfl rfl ?_
  have e191_28 := (o27.ne f28 rfl)
  refine s_get (v := .int 2) rfl e191_28 rfl rfl ?_
  refine q_iconst rfl ?_
  refine s_iadd (k := 3) rfl (by decide) ?_
  refine s_put (vs' := [.int 0, .ref 192, .ref 193, .int 3, .ref 194, .ref 195, .ref 196, .ref 197, .ref 198, .ref 199, .ref 200, .ref 201, .ref 202, .ref 203, .ref 204, .ref 205, .int (-1), .int 0, .ref 206, .ref 207, .ref 208, .ref 209, .ref 210, .ref 211, .ref 212, .ref 213, .ref 214, .ref 215, .int 0, .int 0, .int 0, .int 0, .ref 216, .ref 217, .ref 218, .ref 219, .ref 220, .int (-1), .int 0, .int 0, .int 0, .int 0, .int 0, .int 0, .ref 221, .ref 222, .ref 223, .ref 224, .int 0, .ref 225, .int 0, .ref 226, .ref 227, .int 0, .ref 228, .ref 229, .ref 230, .ref 231, .ref 232]) rfl e191_28 rfl rfl rfl rfl (fun h29 o29 f29 => ?_)
  have s29 := s28.put f29
  refine s_iinc (y := 3) (lv' := [(2, .int 3), (0, .ref 191), (1, .int 13)]) rfl rfl (by decide) (by decide) rfl ?_
  refine q_goto rfl ?_
  refine q_iload_n rfl rfl ?_
  refine q_iload_n rfl rfl ?_
  refine q_icmp_ge rfl (fun c => absurd c (by decide)) (fun _ => ?_)
  refine q_aload_n rfl rfl ?_
  refine s_get (v := .ref 193) rfl o29 rfl rfl ?_
  refine q_aload_n rfl rfl ?_
  refine s_get (v := .int 3) rfl o29 rfl rfl ?_
  refine q_aload_n rfl rfl ?_
  refine s_get (v := .ref 192) rfl o29 rfl rfl ?_
  refine q_iload_n rfl rfl ?_
  have e192_29 := (f29.ne rfl (f28.ne rfl e192_27))
  refine s_iaload (j := 3) (v := .int 0) rfl e192_29 (by decide) rfl (by first | rfl | decide) ?_
  have e193_29 := (f29.ne rfl o28)
  refine s_iastore (j := 3) rfl e193_29 (by decide) rfl (fun h30 o30 f30 => ?_)
  have s30 := s29.put f30
  refine q_aload_n rfl rfl ?_
  refine q_dup rfl rfl ?_
  have e191_30 := (o29.ne f30 rfl)
  refine s_get (v := .int 3) rfl e191_30 rfl rfl ?_
  refine q_iconst rfl ?_
  refine s_iadd (k := 4) rfl (by decide) ?_
  refine s_put (vs' := [.int 0, .ref 192, .ref 193, .int 4, .ref 194, .ref 195, .ref 196, .ref 197, .ref 198, .ref 199, .ref 200, .ref 201, .ref 202, .ref 203, .ref 204, .ref 205, .int (-1), .int 0, .ref 206, .ref 207, .ref 208, .ref 209, .ref 210, .ref 211, .ref 212, .ref 213, .ref 214, .ref 215, .int 0, .int 0, .int 0, .int 0, .ref 216, .ref 217, .ref 218, .ref 219, .ref 220, .int (-1), .int 0, .int 0, .int 0, .int 0, .int 0, .int 0, .ref 221, .ref 222, .ref 223, .ref 224, .int 0, .ref 225, .int 0, .ref 226, .ref 227, .int 0, .ref 228, .ref 229, .ref 230, .ref 231, .ref 232]) rfl e191_30 rfl rfl rfl rfl (fun h31 o31 f31 => ?_)
  have s31 := s30.put f31
  refine s_iinc (y := 4) (lv' := [(2, .int 4), (0, .ref 191), (1, .int 13)]) rfl rfl (by decide) (by decide) rfl ?_
  refine q_goto rfl ?_
  refine q_iload_n rfl rfl ?_
  refine q_iload_n rfl rfl ?_
  refine q_icmp_ge rfl (fun c => absurd c (by decide)) (fun _ => ?_)
  refine q_aload_n rfl rfl ?_
  refine s_get (v := .ref 193) rfl o31 rfl rfl ?_
  refine q_aload_n rfl rfl ?_
  refine s_get (v := .int 4) rfl o31 rfl rfl ?_
  refine q_aload_n rfl rfl ?_
  refine s_get (v := .ref 192) rfl o31 rfl rfl ?_
  refine q_iload_n rfl rfl ?_
  have e192_31 := (f31.ne rfl (f30.ne rfl e192_29))
  refine s_iaload (j := 4) (v := .int 0) rfl e192_31 (by decide) rfl (by first | rfl | decide) ?_
  have e193_31 := (f31.ne rfl o30)
  refine s_iastore (j := 4) rfl e193_31 (by decide) rfl (fun h32 o32 f32 => ?_)
  have s32 := s31.put f32
  refine q_aload_n rfl rfl ?_
  refine q_dup rfl rfl ?_
  have e191_32 := (o31.ne f32 rfl)
  refine s_get (v := .int 4) rfl e191_32 rfl rfl ?_
  refine q_iconst rfl ?_
  refine s_iadd (k := 5) rfl (by decide) ?_
  refine s_put (vs' := [.int 0, .ref 192, .ref 193, .int 5, .ref 194, .ref 195, .ref 196, .ref 197, .ref 198, .ref 199, .ref 200, .ref 201, .ref 202, .ref 203, .ref 204, .ref 205, .int (-1), .int 0, .ref 206, .ref 207, .ref 208, .ref 209, .ref 210, .ref 211, .ref 212, .ref 213, .ref 214, .ref 215, .int 0, .int 0, .int 0, .int 0, .ref 216, .ref 217, .ref 218, .ref 219, .ref 220, .int (-1), .int 0, .int 0, .int 0, .int 0, .int 0, .int 0, .ref 221, .ref 222, .ref 223, .ref 224, .int 0, .ref 225, .int 0, .ref 226, .ref 227, .int 0, .ref 228, .ref 229, .ref 230, .ref 231, .ref 232]) rfl e191_32 rfl rfl rfl rfl (fun h33 o33 f33 => ?_)
  have s33 := s32.put f33
  refine s_iinc (y := 5) (lv' := [(2, .int 5), (0, .ref 191), (1, .int 13)]) rfl rfl (by decide) (by decide) rfl ?_
  refine q_goto rfl ?_
  refine q_iload_n rfl rfl ?_
  refine q_iload_n rfl rfl ?_
  refine q_icmp_ge rfl (fun c => absurd c (by decide)) (fun _ => ?_)
  refine q_aload_n rfl rfl ?_
  refine s_get (v := .ref 193) rfl o33 rfl rfl ?_
  refine q_aload_n rfl rfl ?_
  refine s_get (v := .int 5) rfl o33 rfl rfl ?_
  refine q_aload_n rfl rfl ?_
  refine s_get (v := .ref 192) rfl o33 rfl rfl ?_
  refine q_iload_n rfl rfl ?_
  have e192_33 := (f33.ne rfl (f32.ne rfl e192_31))
  refine s_iaload (j := 5) (v := .int 0) rfl e192_33 (by decide) rfl (by first | rfl | decide) ?_
  have e193_33 := (f33.ne rfl o32)
  refine s_iastore (j := 5) rfl e193_33 (by decide) rfl (fun h34 o34 f34 => ?_)
  have s34 := s33.put f34
  refine q_aload_n rfl rfl ?_
  refine q_dup rfl rfl ?_
  have e191_34 := (o33.ne f34 rfl)
  refine s_get (v := .int 5) rfl e191_34 rfl rfl ?_
  refine q_iconst rfl ?_
  refine s_iadd (k := 6) rfl (by decide) ?_
  refine s_put (vs' := [.int 0, .ref 192, .ref 193, .int 6, .ref 194, .ref 195, .ref 196, .ref 197, .ref 198, .ref 199, .ref 200, .ref 201, .ref 202, .ref 203, .ref 204, .ref 205, .int (-1), .int 0, .ref 206, .ref 207, .ref 208, .ref 209, .ref 210, .ref 211, .ref 212, .ref 213, .ref 214, .ref 215, .int 0, .int 0, .int 0, .int 0, .ref 216, .ref 217, .ref 218, .ref 219, .ref 220, .int (-1), .int 0, .int 0, .int 0, .int 0, .int 0, .int 0, .ref 221, .ref 222, .ref 223, .ref 224, .int 0, .ref 225, .int 0, .ref 226, .ref 227, .int 0, .ref 228, .ref 229, .ref 230, .ref 231, .ref 232]) rfl e191_34 rfl rfl rfl rfl (fun h35 o35 f35 => ?_)
  have s35 := s34.put f35
  refine s_iinc (y := 6) (lv' := [(2, .int 6), (0, .ref 191), (1, .int 13)]) rfl rfl (by decide) (by decide) rfl ?_
  refine q_goto rfl ?_
  refine q_iload_n rfl rfl ?_
  refine q_iload_n rfl rfl ?_
  refine q_icmp_ge rfl (fun c => absurd c (by decide)) (fun _ => ?_)
  refine q_aload_n rfl rfl ?_
  refine s_get (v := .ref 193) rfl o35 rfl rfl ?_
  refine q_aload_n rfl rfl ?_
  refine s_get (v := .int 6) rfl o35 rfl rfl ?_
  refine q_aload_n rfl rfl ?_
  refine s_get (v := .ref 192) rfl o35 rfl rfl ?_
  refine q_iload_n rfl rfl ?_
  have e192_35 := (f35.ne rfl (f34.ne rfl e192_33))
  refine s_iaload (j := 6) (v := .int 0) rfl e192_35 (by decide) rfl (by first | rfl | decide) ?_
  have e193_35 := (f35.ne rfl o34)
  refine s_iastore (j := 6) rfl e193_35 (by decide) rfl (fun h36 o36 f36 => ?_)
  have s36 := s35.put f36
  refine q_aload_n rfl rfl ?_
  refine q_dup rfl rfl ?_
  have e191_36 := (o35.ne f36 rfl)
  refine s_get (v := .int 6) rfl e191_36 rfl rfl ?_
  refine q_iconst rfl ?_
  refine s_iadd (k := 7) rfl (by decide) ?_
  refine s_put (vs' := [.int 0, .ref 192, .ref 193, .int 7, .ref 194, .ref 195, .ref 196, .ref 197, .ref 198, .ref 199, .ref 200, .ref 201, .ref 202, .ref 203, .ref 204, .ref 205, .int (-1), .int 0, .ref 206, .ref 207, .ref 208, .ref 209, .ref 210, .ref 211, .ref 212, .ref 213, .ref 214, .ref 215, .int 0, .int 0, .int 0, .int 0, .ref 216, .ref 217, .ref 218, .ref 219, .ref 220, .int (-1), .int 0, .int 0, .int 0, .int 0, .int 0, .int 0, .ref 221, .ref 222, .ref 223, .ref 224, .int 0, .ref 225, .int 0, .ref 226, .ref 227, .int 0, .ref 228, .ref 229, .ref 230, .ref 231, .ref 232]) rfl e191_36 rfl rfl rfl rfl (fun h37 o37 f37 => ?_)
  have s37 := s36.put f37
  refine s_iinc (y := 7) (lv' := [(2, .int 7), (0, .ref 191), (1, .int 13)]) rfl rfl (by decide) (by decide) rfl ?_
  refine q_goto rfl ?_
  refine q_iload_n rfl rfl ?_
  refine q_iload_n rfl rfl ?_
  refine q_icmp_ge rfl (fun c => absurd c (by decide)) (fun _ => ?_)
  refine q_aload_n rfl rfl ?_
  refine s_get (v := .ref 193) rfl o37 rfl rfl ?_
  refine q_aload_n rfl rfl ?_
  refine s_get (v := .int 7) rfl o37 rfl rfl ?_
  refine q_aload_n rfl rfl ?_
  refine s_get (v := .ref 192) rfl o37 rfl rfl ?_
  refine q_iload_n rfl rfl ?_
  have e192_37 := (f37.ne rfl (f36.ne rfl e192_35))
  refine s_iaload (j := 7) (v := .int 0) rfl e192_37 (by decide) rfl (by first | rfl | decide) ?_
  have e193_37 := (f37.ne rfl o36)
  refine s_iastore (j := 7) rfl e193_37 (by decide) rfl (fun h38 o38 f38 => ?_)
  have s38 := s37.put f38
  refine q_aload_n rfl rfl ?_
  refine q_dup rfl rfl ?_
  have e191_38 := (o37.ne f38 rfl)
  refine s_get (v := .int 7) rfl e191_38 rfl rfl ?_
  refine q_iconst rfl ?_
  refine s_iadd (k := 8) rfl (by decide) ?_
  refine s_put (vs' := [.int 0, .ref 192, .ref 193, .int 8, .ref 194, .ref 195, .ref 196, .ref 197, .ref 198, .ref 199, .ref 200, .ref 201, .ref 202, .ref 203, .ref 204, .ref 205, .int (-1), .int 0, .ref 206, .ref 207, .ref 208, .ref 209, .ref 210, .ref 211, .ref 212, .ref 213, .ref 214, .ref 215, .int 0, .int 0, .int 0, .int 0, .ref 216, .ref 217, .ref 218, .ref 219, .ref 220, .int (-1), .int 0, .int 0, .int 0, .int 0, .int 0, .int 0, .ref 221, .ref 222, .ref 223, .ref 224, .int 0, .ref 225, .int 0, .ref 226, .ref 227, .int 0, .ref 228, .ref 229, .ref 230, .ref 231, .ref 232]) rfl e191_38 rfl rfl rfl rfl (fun h39 o39 f39 => ?_)
  have s39 := s38.put f39
  refine s_iinc (y := 8) (lv' := [(2, .int 8), (0, .ref 191), (1, .int 13)]) rfl rfl (by decide) (by decide) rfl ?_
  refine q_goto rfl ?_
  refine q_iload_n rfl rfl ?_
  refine q_iload_n rfl rfl ?_
  refine q_icmp_ge rfl (fun c => absurd c (by decide)) (fun _ => ?_)
  refine q_aload_n rfl rfl ?_
  refine s_get (v := .ref 193) rfl o39 rfl rfl ?_
  refine q_aload_n rfl rfl ?_
  refine s_get (v := .int 8) rfl o39 rfl rfl ?_
  refine q_aload_n rfl rfl ?_
  refine s_get (v := .ref 192) rfl o39 rfl rfl ?_
  refine q_iload_n rfl rfl ?_
  have e192_39 := (f39.ne rfl (f38.ne rfl e192_37))
  refine s_iaload (j := 8) (v := .int 0) rfl e192_39 (by decide) rfl (by first | rfl | decide) ?_
  have e193_39 := (f39.ne rfl o38)
  refine s_iastore (j := 8) rfl e193_39 (by decide) rfl (fun h40 o40 f40 => ?_)
  have s40 := s39.put f40
  refine q_aload_n rfl rfl ?_
  refine q_dup rfl rfl ?_
  have e191_40 := (o39.ne f40 rfl)
  refine s_get (v := .int 8) rfl e191_40 rfl rfl ?_
  refine q_iconst rfl ?_
  refine s_iadd (k := 9) rfl (by decide) ?_
  refine s_put (vs' := [.int 0, .ref 192, .ref 193, .int 9, .ref 194, .ref 195, .ref 196, .ref 197, .ref 198, .ref 199, .ref 200, .ref 201, .ref 202, .ref 203, .ref 204, .ref 205, .int (-1), .int 0, .ref 206, .ref 207, .ref 208, .ref 209, .ref 210, .ref 211, .ref 212, .ref 213, .ref 214, .ref 215, .int 0, .int 0, .int 0, .int 0, .ref 216, .ref 217, .ref 218, .ref 219, .ref 220, .int (-1), .int 0, .int 0, .int 0, .int 0, .int 0, .int 0, .ref 221, .ref 222, .ref 223, .ref 224, .int 0, .ref 225, .int 0, .ref 226, .ref 227, .int 0, .ref 228, .ref 229, .ref 230, .ref 231, .ref 232]) rfl e191_40 rfl rfl rfl rfl (fun h41 o41 f41 => ?_)
  have s41 := s40.put f41
  refine s_iinc (y := 9) (lv' := [(2, .int 9), (0, .ref 191), (1, .int 13)]) rfl rfl (by decide) (by decide) rfl ?_
  refine q_goto rfl ?_
  refine q_iload_n rfl rfl ?_
  refine q_iload_n rfl rfl ?_
  refine q_icmp_ge rfl (fun c => absurd c (by decide)) (fun _ => ?_)
  refine q_aload_n rfl rfl ?_
  refine s_get (v := .ref 193) rfl o41 rfl rfl ?_
  refine q_aload_n rfl rfl ?_
  refine s_get (v := .int 9) rfl o41 rfl rfl ?_
  refine q_aload_n rfl rfl ?_
  refine s_get (v := .ref 192) rfl o41 rfl rfl ?_
  refine q_iload_n rfl rfl ?_
  have e192_41 := (f41.ne rfl (f40.ne rfl e192_39))
  refine s_iaload (j := 9) (v := .int 0) rfl e192_41 (by decide) rfl (by first | rfl | decide) ?_
  have e193_41 := (f41.ne rfl o40)
  refine s_iastore (j := 9) rfl e193_41 (by decide) rfl (fun h42 o42 f42 => ?_)
  have s42 := s41.put f42
  refine q_aload_n rfl rfl ?_
  refine q_dup rfl rfl ?_
  have e191_42 := (o41.ne f42 rfl)
  refine s_get (v := .int 9) rfl e191_42 rfl rfl ?_
  refine q_iconst rfl ?_
  refine s_iadd (k := 10) rfl (by decide) ?_
  refine s_put (vs' := [.int 0, .ref 192, .ref 193, .int 10, .ref 194, .ref 195, .ref 196, .ref 197, .ref 198, .ref 199, .ref 200, .ref 201, .ref 202, .ref 203, .ref 204, .ref 205, .int (-1), .int 0, .ref 206, .ref 207, .ref 208, .ref 209, .ref 210, .ref 211, .ref 212, .ref 213, .ref 214, .ref 215, .int 0, .int 0, .int 0, .int 0, .ref 216, .ref 217, .ref 218, .ref 219, .ref 220, .int (-1), .int 0, .int 0, .int 0, .int 0, .int 0, .int 0, .ref 221, .ref 222, .ref 223, .ref 224, .int 0, .ref 225, .int 0, .ref 226, .ref 227, .int 0, .ref 228, .ref 229, .ref 230, .ref 231, .ref 232]) rfl e191_42 rfl rfl rfl rfl (fun h43 o43 f43 => ?_)
  have s43 := s42.put f43
  refine s_iinc (y := 10) (lv' := [(2, .int 10), (0, .ref 191), (1, .int 13)]) rfl rfl (by decide) (by decide) rfl ?_
  refine q_goto rfl ?_
  refine q_iload_n rfl rfl ?_
  refine q_iload_n rfl rfl ?_
  refine q_icmp_ge rfl (fun c => absurd c (by decide)) (fun _ => ?_)
  refine q_aload_n rfl rfl ?_
  refine s_get (v := .ref 193) rfl o43 rfl rfl ?_
  refine q_aload_n rfl rfl ?_
  refine s_get (v := .int 10) rfl o43 rfl rfl ?_
  refine q_aload_n rfl rfl ?_
  refine s_get (v := .ref 192) rfl o43 rfl rfl ?_
  refine q_iload_n rfl rfl ?_
  have e192_43 := (f43.ne rfl (f42.ne rfl e192_41))
  refine s_iaload (j := 10) (v := .int 0) rfl e192_43 (by decide) rfl (by first | rfl | decide) ?_
  have e193_43 := (f43.ne rfl o42)
  refine s_iastore (j := 10) rfl e193_43 (by decide) rfl (fun h44 o44 f44 => ?_)
  have s44 := s43.put f44
  refine q_aload_n rfl rfl ?_
  refine q_dup rfl rfl ?_
  have e191_44 := (o43.ne f44 rfl)
  refine s_get (v := .int 10) rfl e191_44 rfl rfl ?_
  refine q_iconst rfl ?_
  refine s_iadd (k := 11) rfl (by decide) ?_
  refine s_put (vs' := [.int 0, .ref 192, .ref 193, .int 11, .ref 194, .ref 195, .ref 196, .ref 197, .ref 198, .ref 199, .ref 200, .ref 201, .ref 202, .ref 203, .ref 204, .ref 205, .int (-1), .int 0, .ref 206, .ref 207, .ref 208, .ref 209, .ref 210, .ref 211, .ref 212, .ref 213, .ref 214, .ref 215, .int 0, .int 0, .int 0, .int 0, .ref 216, .ref 217, .ref 218, .ref 219, .ref 220, .int (-1), .int 0, .int 0, .int 0, .int 0, .int 0, .int 0, .ref 221, .ref 222, .ref 223, .ref 224, .int 0, .ref 225, .int 0, .ref 226, .ref 227, .int 0, .ref 228, .ref 229, .ref 230, .ref 231, .ref 232]) rfl e191_44 rfl rfl rfl rfl (fun h45 o45 f45 => ?_)
  have s45 := s44.put f45
  refine s_iinc (y := 11) (lv' := [(2, .int 11), (0, .ref 191), (1, .int 13)]) rfl rfl (by decide) (by decide) rfl ?_
  refine q_goto rfl ?_
  refine q_iload_n rfl rfl ?_
  refine q_iload_n rfl rfl ?_
  refine q_icmp_ge rfl (fun c => absurd c (by decide)) (fun _ => ?_)
  refine q_aload_n rfl rfl ?_
  refine s_get (v := .ref 193) rfl o45 rfl rfl ?_
  refine q_aload_n rfl rfl ?_
  refine s_get (v := .int 11) rfl o45 rfl rfl ?_
  refine q_aload_n rfl rfl ?_
  refine s_get (v := .ref 192) rfl o45 rfl rfl ?_
  refine q_iload_n rfl rfl ?_
  have e192_45 := (f45.ne rfl (f44.ne rfl e192_43))
  refine s_iaload (j := 11) (v := .int 0) rfl e192_45 (by decide) rfl (by first | rfl | decide) ?_
  have e193_45 := (f45.ne rfl o44)
  refine s_iastore (j := 11) rfl e193_45 (by decide) rfl (fun h46 o46 f46 => ?_)
  have s46 := s45.put f46
  refine q_aload_n rfl rfl ?_
  refine q_dup rfl rfl ?_
  have e191_46 := (o45.ne f46 rfl)
  refine s_get (v := .int 11) rfl e191_46 rfl rfl ?_
  refine q_iconst rfl ?_
  refine s_iadd (k := 12) rfl (by decide) ?_
  refine s_put (vs' := [.int 0, .ref 192, .ref 193, .int 12, .ref 194, .ref 195, .ref 196, .ref 197, .ref 198, .ref 199, .ref 200, .ref 201, .ref 202, .ref 203, .ref 204, .ref 205, .int (-1), .int 0, .ref 206, .ref 207, .ref 208, .ref 209, .ref 210, .ref 211, .ref 212, .ref 213, .ref 214, .ref 215, .int 0, .int 0, .int 0, .int 0, .ref 216, .ref 217, .ref 218, .ref 219, .ref 220, .int (-1), .int 0, .int 0, .int 0, .int 0, .int 0, .int 0, .ref 221, .ref 222, .ref 223, .ref 224, .int 0, .ref 225, .int 0, .ref 226, .ref 227, .int 0, .ref 228, .ref 229, .ref 230, .ref 231, .ref 232]) rfl e191_46 rfl rfl rfl rfl (fun h47 o47 f47 => ?_)
  have s47 := s46.put f47
  refine s_iinc (y := 12) (lv' := [(2, .int 12), (0, .ref 191), (1, .int 13)]) rfl rfl (by decide) (by decide) rfl ?_
  refine q_goto rfl ?_
  refine q_iload_n rfl rfl ?_
  refine q_iload_n rfl rfl ?_
  refine q_icmp_ge rfl (fun c => absurd c (by decide)) (fun _ => ?_)
  refine q_aload_n rfl rfl ?_
  refine s_get (v := .ref 193) rfl o47 rfl rfl ?_
  refine q_aload_n rfl rfl ?_
  refine s_get (v := .int 12) rfl o47 rfl rfl ?_
  refine q_aload_n rfl rfl ?_
  refine s_get (v := .ref 192) rfl o47 rfl rfl ?_
  refine q_iload_n rfl rfl ?_
  have e192_47 := (f47.ne rfl (f46.ne rfl e192_45))
  refine s_iaload (j := 12) (v := .int 0) rfl e192_47 (by decide) rfl (by first | rfl | decide) ?_
  have e193_47 := (f47.ne rfl o46)
  refine s_iastore (j := 12) rfl e193_47 (by decide) rfl (fun h48 o48 f48 => ?_)
  have s48 := s47.put f48
  refine q_aload_n rfl rfl ?_
  refine q_dup rfl rfl ?_
  have e191_48 := (o47.ne f48 rfl)
  refine s_get (v := .int 12) rfl e191_48 rfl rfl ?_
  refine q_iconst rfl ?_
  refine s_iadd (k := 13) rfl (by decide) ?_
  refine s_put (vs' := [.int 0, .ref 192, .ref 193, .int 13, .ref 194, .ref 195, .ref 196, .ref 197, .ref 198, .ref 199, .ref 200, .ref 201, .ref 202, .ref 203, .ref 204, .ref 205, .int (-1), .int 0, .ref 206, .ref 207, .ref 208, .ref 209, .ref 210, .ref 211, .ref 212, .ref 213, .ref 214, .ref 215, .int 0, .int 0, .int 0, .int 0, .ref 216, .ref 217, .ref 218, .ref 219, .ref 220, .int (-1), .int 0, .int 0, .int 0, .int 0, .int 0, .int 0, .ref 221, .ref 222, .ref 223, .ref 224, .int 0, .ref 225, .int 0, .ref 226, .ref 227, .int 0, .ref 228, .ref 229, .ref 230, .ref 231, .ref 232]) rfl e191_48 rfl rfl rfl rfl (fun h49 o49 f49 => ?_)
  have s49 := s48.put f49
  refine s_iinc (y := 13) (lv' := [(2, .int 13), (0, .ref 191), (1, .int 13)]) rfl rfl (by decide) (by decide) rfl ?_
  refine q_goto rfl ?_
  refine q_iload_n rfl rfl ?_
  refine q_iload_n rfl rfl ?_
  refine q_icmp_ge rfl (fun _ => ?_) (fun c => absurd (by decide) c)
  refine q_iconst rfl ?_
  refine s_istore_n (lv' := [(2, .int 0), (0, .ref 191), (1, .int 13)]) rfl (by decide) rfl ?_
  refine q_iload_n rfl rfl ?_
  refine q_bipush rfl ?_
  refine q_icmp_ge rfl (fun c => absurd c (by decide)) (fun _ => ?_)
  refine q_aload_n rfl rfl ?_
  refine s_get (v := .ref 192) rfl o49 rfl rfl ?_
  refine q_iload_n rfl rfl ?_
  refine q_iconst rfl ?_
  have e192_49 := (f49.ne rfl (f48.ne rfl e192_47))
  refine s_iastore (j := 0) rfl e192_49 (by decide) rfl (fun h50 o50 f50 => ?_)
  have s50 := s49.put f50
  refine s_iinc (y := 1) (lv' := [(2, .int 1), (0, .ref 191), (1, .int 13)]) rfl rfl (by decide) (by decide) rfl ?_
  refine q_goto rfl ?_
  refine q_iload_n rfl rfl ?_
  refine q_bipush rfl ?_
  refine q_icmp_ge rfl (fun c => absurd c (by decide)) (fun _ => ?_)
  refine q_aload_n rfl rfl ?_
  have e191_50 := (o49.ne f50 rfl)
  refine s_get (v := .ref 192) rfl e191_50 rfl rfl ?_
  refine q_iload_n rfl rfl ?_
  refine q_iconst rfl ?_
  refine s_iastore (j := 1) rfl o50 (by decide) rfl (fun h51 o51 f51 => ?_)
  have s51 := s50.put f51
  refine s_iinc (y := 2) (lv' := [(2, .int 2), (0, .ref 191), (1, .int 13)]) rfl rfl (by decide) (by decide) rfl ?_
  refine q_goto rfl ?_
  refine q_iload_n rfl rfl ?_
  refine q_bipush rfl ?_
  refine q_icmp_ge rfl (fun c => absurd c (by decide)) (fun _ => ?_)
  refine q_aload_n rfl rfl ?_
  have e191_51 := (e191_50.ne f51 rfl)
  refine s_get (v := .ref 192) rfl e191_51 rfl rfl ?_
  refine q_iload_n rfl rfl ?_
  refine q_iconst rfl ?_
  refine s_iastore (j := 2) rfl o51 (by decide) rfl (fun h52 o52 f52 => ?_)
  have s52 := s51.put f52
  refine s_iinc (y := 3) (lv' := [(2, .int 3), (0, .ref 191), (1, .int 13)]) rfl rfl (by decide) (by decide) rfl ?_
  refine q_goto rfl ?_
  refine q_iload_n rfl rfl ?_
  refine q_bipush rfl ?_
  refine q_icmp_ge rfl (fun c => absurd c (by decide)) (fun _ => ?_)
  refine q_aload_n rfl rfl ?_
  have e191_52 := (e191_51.ne f52 rfl)
  refine s_get (v := .ref 192) rfl e191_52 rfl rfl ?_
  refine q_iload_n rfl rfl ?_
  refine q_iconst rfl ?_
  refine s_iastore (j := 3) rfl o52 (by decide) rfl (fun h53 o53 f53 => ?_)
  have s53 := s52.put f53
  refine s_iinc (y := 4) (lv' := [(2, .int 4), (0, .ref 191), (1, .int 13)]) rfl rfl (by decide) (by decide) rfl ?_
  refine q_goto rfl ?_
  refine q_iload_n rfl rfl ?_
  refine q_bipush rfl ?_
  refine q_icmp_ge rfl (fun c => absurd c (by decide)) (fun _ => ?_)
  refine q_aload_n rfl rfl ?_
  have e191_53 := (e191_52.ne f53 rfl)
  refine s_get (v := .ref 192) rfl e191_53 rfl rfl ?_
  refine q_iload_n rfl rfl ?_
  refine q_iconst rfl ?_
  refine s_iastore (j := 4) rfl o53 (by decide) rfl (fun h54 o54 f54 => ?_)
  have s54 := s53.put f54
  refine s_iinc (y := 5) (lv' := [(2, .int 5), (0, .ref 191), (1, .int 13)]) rfl rfl (by decide) (by decide) rfl ?_
  refine q_goto rfl ?_
  refine q_iload_n rfl rfl ?_
  refine q_bipush rfl ?_
  refine q_icmp_ge rfl (fun c => absurd c (by decide)) (fun _ => ?_)
  refine q_aload_n rfl rfl ?_
  have e191_54 := (e191_53.ne f54 rfl)
  refine s_get (v := .ref 192) rfl e191_54 rfl rfl ?_
  refine q_iload_n rfl rfl ?_
  refine q_iconst rfl ?_
  refine s_iastore (j := 5) rfl o54 (by decide) rfl (fun h55 o55 f55 => ?_)
  have s55 := s54.put f55
  refine s_iinc (y := 6) (lv' := [(2, .int 6), (0, .ref 191), (1, .int 13)]) rfl rfl (by decide) (by decide) rfl ?_
  refine q_goto rfl ?_
  refine q_iload_n rfl rfl ?_
  refine q_bipush rfl ?_
  refine q_icmp_ge rfl (fun c => absurd c (by decide)) (fun _ => ?_)
  refine q_aload_n rfl rfl ?_
  have e191_55 := (e191_54.ne f55 rfl)
  refine s_get (v := .ref 192) rfl e191_55 rfl rfl ?_
  refine q_iload_n rfl rfl ?_
  refine q_iconst rfl ?_
  refine s_iastore (j := 6) rfl o55 (by decide) rfl (fun h56 o56 f56 => ?_)
  have s56 := s55.put f56
  refine s_iinc (y := 7) (lv' := [(2, .int 7), (0, .ref 191), (1, .int 13)]) rfl rfl (by decide) (by decide) rfl ?_
  refine q_goto rfl ?_
  refine q_iload_n rfl rfl ?_
  refine q_bipush rfl ?_
  refine q_icmp_ge rfl (fun c => absurd c (by decide)) (fun _ => ?_)
  refine q_aload_n rfl rfl ?_
  have e191_56 := (e191_55.ne f56 rfl)
  refine s_get (v := .ref 192) rfl e191_56 rfl rfl ?_
  refine q_iload_n rfl rfl ?_
  refine q_iconst rfl ?_
  refine s_iastore (j := 7) rfl o56 (by decide) rfl (fun h57 o57 f57 => ?_)
  have s57 := s56.put f57
  refine s_iinc (y := 8) (lv' := [(2, .int 8), (0, .ref 191), (1, .int 13)]) rfl rfl (by decide) (by decide) rfl ?_
  refine q_goto rfl ?_
  refine q_iload_n rfl rfl ?_
  refine q_bipush rfl ?_
  refine q_icmp_ge rfl (fun c => absurd c (by decide)) (fun _ => ?_)
  refine q_aload_n rfl rfl ?_
  have e191_57 := (e191_56.ne f57 rfl)
  refine s_get (v := .ref 192) rfl e191_57 rfl rfl ?_
  refine q_iload_n rfl rfl ?_
  refine q_iconst rfl ?_
  refine s_iastore (j := 8) rfl o57 (by decide) rfl (fun h58 o58 f58 => ?_)
  have s58 := s57.put f58
  refine s_iinc (y := 9) (lv' := [(2, .int 9), (0, .ref 191), (1, .int 13)]) rfl rfl (by decide) (by decide) rfl ?_
  refine q_goto rfl ?_
  refine q_iload_n rfl rfl ?_
  refine q_bipush rfl ?_
  refine q_icmp_ge rfl (fun c => absurd c (by decide)) (fun _ => ?_)
  refine q_aload_n rfl rfl ?_
  have e191_58 := (e191_57.ne f58 rfl)
  refine s_get (v := .ref 192) rfl e191_58 rfl rfl ?_
  refine q_iload_n rfl rfl ?_
  refine q_iconst rfl ?_
  refine s_iastore (j := 9) rfl o58 (by decide) rfl (fun h59 o59 f59 => ?_)
  have s59 := s58.put f59
  refine s_iinc (y := 10) (lv' := [(2, .int 10), (0, .ref 191), (1, .int 13)]) rfl rfl (by decide) (by decide) rfl ?_
  refine q_goto rfl ?_
  refine q_iload_n rfl rfl ?_
  refine q_bipush rfl ?_
  refine q_icmp_ge rfl (fun c => absurd c (by decide)) (fun _ => ?_)
  refine q_aload_n rfl rfl ?_
  have e191_59 := (e191_58.ne f59 rfl)
  refine s_get (v := .ref 192) rfl e191_59 rfl rfl ?_
  refine q_iload_n rfl rfl ?_
  refine q_iconst rfl ?_
  refine s_iastore (j := 10) rfl o59 (by decide) rfl (fun h60 o60 f60 => ?_)
  have s60 := s59.put f60
  refine s_iinc (y := 11) (lv' := [(2, .int 11), (0, .ref 191), (1, .int 13)]) rfl rfl (by decide) (by decide) rfl ?_
  refine q_goto rfl ?_
  refine q_iload_n rfl rfl ?_
  refine q_bipush rfl ?_
  refine q_icmp_ge rfl (fun c => absurd c (by decide)) (fun _ => ?_)
  refine q_aload_n rfl rfl ?_
  have e191_60 := (e191_59.ne f60 rfl)
  refine s_get (v := .ref 192) rfl e191_60 rfl rfl ?_
  refine q_iload_n rfl rfl ?_
  refine q_iconst rfl ?_
  refine s_iastore (j := 11) rfl o60 (by decide) rfl (fun h61 o61 f61 => ?_)
  have s61 := s60.put f61
  refine s_iinc (y := 12) (lv' := [(2, .int 12), (0, .ref 191), (1, .int 13)]) rfl rfl (by decide) (by decide) rfl ?_
  refine q_goto rfl ?_
  refine q_iload_n rfl rfl ?_
  refine q_bipush rfl ?_
  refine q_icmp_ge rfl (fun c => absurd c (by decide)) (fun _ => ?_)
  refine q_aload_n rfl rfl ?_
  have e191_61 := (e191_60.ne f61 rfl)
  refine s_get (v := .ref 192) rfl e191_61 rfl rfl ?_
  refine q_iload_n rfl rfl ?_
  refine q_iconst rfl ?_
  refine s_iastore (j := 12) rfl o61 (by decide) rfl (fun h62 o62 f62 => ?_)
  have s62 := s61.put f62
  refine s_iinc (y := 13) (lv' := [(2, .int 13), (0, .ref 191), (1, .int 13)]) rfl rfl (by decide) (by decide) rfl ?_
  refine q_goto rfl ?_
  refine q_iload_n rfl rfl ?_
  refine q_bipush rfl ?_
  refine q_icmp_ge rfl (fun c => absurd c (by decide)) (fun _ => ?_)
  refine q_aload_n rfl rfl ?_
  have e191_62 := (e191_61.ne f62 rfl)
  refine s_get (v := .ref 192) rfl e191_62 rfl rfl ?_
  refine q_iload_n rfl rfl ?_
  refine q_iconst rfl ?_
  refine s_iastore (j := 13) rfl o62 (by decide) rfl (fun h63 o63 f63 => ?_)
  have s63 := s62.put f63
  refine s_iinc (y := 14) (lv' := [(2, .int 14), (0, .ref 191), (1, .int 13)]) rfl rfl (by decide) (by decide) rfl ?_
  refine q_goto rfl ?_
  refine q_iload_n rfl rfl ?_
  refine q_bipush rfl ?_
  refine q_icmp_ge rfl (fun c => absurd c (by decide)) (fun _ => ?_)
  refine q_aload_n rfl rfl ?_
  have e191_63 := (e191_62.ne f63 rfl)
  refine s_get (v := .ref 192) rfl e191_63 rfl rfl ?_
  refine q_iload_n rfl rfl ?_
  refine q_iconst rfl ?_
  refine s_iastore (j := 14) rfl o63 (by decide) rfl (fun h64 o64 f64 => ?_)
  have s64 := s63.put f64
  refine s_iinc (y := 15) (lv' := [(2, .int 15), (0, .ref 191), (1, .int 13)]) rfl rfl (by decide) (by decide) rfl ?_
  refine q_goto rfl ?_
  refine q_iload_n rfl rfl ?_
  refine q_bipush rfl ?_
  refine q_icmp_ge rfl (fun c => absurd c (by decide)) (fun _ => ?_)
  refine q_aload_n rfl rfl ?_
  have e191_64 := (e191_63.ne f64 rfl)
  refine s_get (v := .ref 192) rfl e191_64 rfl rfl ?_
  refine q_iload_n rfl rfl ?_
  refine q_iconst rfl ?_
  refine s_iastore (j := 15) rfl o64 (by decide) rfl (fun h65 o65 f65 => ?_)
  have s65 := s64.put f65
  refine s_iinc (y := 16) (lv' := [(2, .int 16), (0, .ref 191), (1, .int 13)]) rfl rfl (by decide) (by decide) rfl ?_
  refine q_goto rfl ?_
  refine q_iload_n rfl rfl ?_
  refine q_bipush rfl ?_
  refine q_icmp_ge rfl (fun c => absurd c (by decide)) (fun _ => ?_)
  refine q_aload_n rfl rfl ?_
  have e191_65 := (e191_64.ne f65 rfl)
  refine s_get (v := .ref 192) rfl e191_65 rfl rfl ?_
  refine q_iload_n rfl rfl ?_
  refine q_iconst rfl ?_
  refine s_iastore (j := 16) rfl o65 (by decide) rfl (fun h66 o66 f66 => ?_)
  have s66 := s65.put f66
  refine s_iinc (y := 17) (lv' := [(2, .int 17), (0, .ref 191), (1, .int 13)]) rfl rfl (by decide) (by decide) rfl ?_
  refine q_goto rfl ?_
  refine q_iload_n rfl rfl ?_
  refine q_bipush rfl ?_
  refine q_icmp_ge rfl (fun c => absurd c (by decide)) (fun _ => ?_)
  refine q_aload_n rfl rfl ?_
  have e191_66 := (e191_65.ne f66 rfl)
  refine s_get (v := .ref 192) rfl e191_66 rfl rfl ?_
  refine q_iload_n rfl rfl ?_
  refine q_iconst rfl ?_
  refine s_iastore (j := 17) rfl o66 (by decide) rfl (fun h67 o67 f67 => ?_)
  have s67 := s66.put f67
  refine s_iinc (y := 18) (lv' := [(2, .int 18), (0, .ref 191), (1, .int 13)]) rfl rfl (by decide) (by decide) rfl ?_
  refine q_goto rfl ?_
  refine q_iload_n rfl rfl ?_
  refine q_bipush rfl ?_
  refine q_icmp_ge rfl (fun c => absurd c (by decide)) (fun _ => ?_)
  refine q_aload_n rfl rfl ?_
  have e191_67 := (e191_66.ne f67 rfl)
  refine s_get (v := .ref 192) rfl e191_67 rfl rfl ?_
  refine q_iload_n rfl rfl ?_
  refine q_iconst rfl ?_
  refine s_iastore (j := 18) rfl o67 (by decide) rfl (fun h68 o68 f68 => ?_)
  have s68 := s67.put f68
  refine s_iinc (y := 19) (lv' := [(2, .int 19), (0, .ref 191), (1, .int 13)]) rfl rfl (by decide) (by decide) rfl ?_
  refine q_goto rfl ?_
  refine q_iload_n rfl rfl ?_
  refine q_bipush rfl ?_
  refine q_icmp_ge rfl (fun c => absurd c (by decide)) (fun _ => ?_)
  refine q_aload_n rfl rfl ?_
  have e191_68 := (e191_67.ne f68 rfl)
  refine s_get (v := .ref 192) rfl e191_68 rfl rfl ?_
  refine q_iload_n rfl rfl ?_
  refine q_iconst rfl ?_
  refine s_iastore (j := 19) rfl o68 (by decide) rfl (fun h69 o69 f69 => ?_)
  have s69 := s68.put f69
  refine s_iinc (y := 20) (lv' := [(2, .int 20), (0, .ref 191), (1, .int 13)]) rfl rfl (by decide) (by decide) rfl ?_
  refine q_goto rfl ?_
  refine q_iload_n rfl rfl ?_
  refine q_bipush rfl ?_
  refine q_icmp_ge rfl (fun _ => ?_) (fun c => absurd (by decide) c)
  refine q_aload_n rfl rfl ?_
  have e191_69 := (e191_68.ne f69 rfl)
  refine s_get (v := .int 13) rfl e191_69 rfl rfl ?_
  refine q_ireturn rfl rfl ?_
  show aW aiP 0 17 658 243 [(4, .int 0), (3, .ref 233), (2, .ref 191), (1, .ref 6), (0, .ref 0)] [.int 13, .int 13] h69 _
  refine q_icmp_eq rfl (fun _ => ?_) (fun c => absurd (by decide) c)
  refine s_iinc (y := 6) (lv' := [(4, .int 6), (3, .ref 233), (2, .ref 191), (1, .ref 6), (0, .ref 0)]) rfl rfl (by decide) (by decide) rfl ?_
  refine q_goto rfl ?_
  refine q_iload rfl rfl ?_
  refine q_aload_n rfl rfl ?_
  have e0_69 := (f69.ne rfl (f68.ne rfl (f67.ne rfl (f66.ne rfl (f65.ne rfl (f64.ne rfl (f63.ne rfl (f62.ne rfl (f61.ne rfl (f60.ne rfl (f59.ne rfl (f58.ne rfl (f57.ne rfl (f56.ne rfl (f55.ne rfl (f54.ne rfl (f53.ne rfl (f52.ne rfl (f51.ne rfl (f50.ne rfl (f49.ne rfl (f48.ne rfl (f47.ne rfl (f46.ne rfl (f45.ne rfl (f44.ne rfl (f43.ne rfl (f42.ne rfl (f41.ne rfl (f40.ne rfl (f39.ne rfl (f38.ne rfl (f37.ne rfl (f36.ne rfl (f35.ne rfl (f34.ne rfl (f33.ne rfl (f32.ne rfl (f31.ne rfl (f30.ne rfl (f29.ne rfl (f28.ne rfl (f27.ne rfl (f26.ne rfl (f25.ne rfl (f24.ne rfl (f23.ne rfl e0_22)))))))))))))))))))))))))))))))))))))))))))))))
  refine s_alen (x := 6) rfl e0_69 rfl (by decide) ?_
  refine q_bipush rfl ?_
  refine s_isub (k := 0) rfl (by decide) ?_
  refine q_icmp_gt rfl (fun _ => ?_) (fun c => absurd (by decide) c)
  refine q_iconst rfl ?_
  refine q_ireturn rfl rfl ?_
  exact ⟨rfl, s69.bd rfl⟩
set_option maxRecDepth 20000 in
set_option maxHeartbeats 4000000 in
theorem p_case1_14 {xs : Nat → Int32} {h : ai_H} (F : Fresh 6 xs h) (hk : xs 0 &&& 31 = 1) (hw : xs 1 = 14) : aW aiP 0 17 658 33 [(4, .int 0), (3, .ref 233), (2, .ref 191), (1, .ref 6), (0, .ref 0)] [] h p_Q := by
  obtain ⟨e0, e1, ⟨g2, e2⟩, ⟨g3, e3⟩, ⟨g4, e4⟩, e5, e6, e7, e8, e9, e51, e93, e135, e177, e178, e179, e180, e181, e182, e183, e184, e185, e186, e187, e188, e189, e190, e191, e192, e193, e194, e195, e196, e197, e198, e199, e200, e201, e202, e203, e204, e205, e206, e207, e208, e209, e210, e211, e212, e213, e214, e215, e216, e217, e218, e219, e220, e221, e222, e223, e224, e225, e226, e227, ⟨g228, e228⟩, ⟨g229, e229⟩, e230, e231, e232, e233, s0⟩ := F
  refine q_aload_n rfl rfl ?_
  refine q_iload rfl rfl ?_
  refine s_iaload (j := 0) (v := .int (xs 0)) rfl e0 (by decide) rfl (by first | rfl | decide) ?_
  refine q_bipush rfl ?_
  refine s_iand (k := ((xs 0) &&& (31 : Int32))) rfl rfl ?_
  rw [hk]
  show aW aiP 0 17 658 40 [(4, .int 0), (3, .ref 233), (2, .ref 191), (1, .ref 6), (0, .ref 0)] [.int 1] h _
  refine s_sw (tg := 223) rfl rfl ?_
  refine q_aload_n rfl rfl ?_
  refine q_aload_n rfl rfl ?_
  refine q_iload rfl rfl ?_
  refine q_iconst rfl ?_
  refine s_iadd (k := 1) rfl (by decide) ?_
  refine s_iaload (j := 1) (v := .int (xs 1)) rfl e0 (by decide) rfl (by first | rfl | decide) ?_
  rw [hw]
  refine s_callV (as := [.int 14]) (rest := []) (d' := 16) (w' := 637) (lv' := [(0, .ref 6), (1, .int 14)]) rfl e6 rfl rfl rfl rfl rfl rfl ?_
  refine q_iload_n rfl rfl ?_
  refine q_if_lt rfl (fun c => absurd c (by decide)) (fun _ => ?_)
  refine q_iload_n rfl rfl ?_
  refine q_bipush rfl ?_
  refine q_icmp_gt rfl (fun c => absurd c (by decide)) (fun _ => ?_)
  refine q_aload_n rfl rfl ?_
  refine s_get (v := .int 0) rfl e6 rfl rfl ?_
  refine q_iload_n rfl rfl ?_
  refine s_iadd (k := 14) rfl (by decide) ?_
  refine q_sipush rfl ?_
  refine q_icmp_le rfl (fun _ => ?_) (fun c => absurd (by decide) c)
  refine q_aload_n rfl rfl ?_
  refine s_get (v := .ref 7) rfl e6 rfl rfl ?_
  refine q_iconst rfl ?_
  refine q_aload_n rfl rfl ?_
  refine s_get (v := .ref 8) rfl e6 rfl rfl ?_
  refine q_aload_n rfl rfl ?_
  refine s_get (v := .int 0) rfl e6 rfl rfl ?_
  refine q_iload_n rfl rfl ?_
  refine s_copy (sp := 0) (dp := 0) (k := 14) rfl e7 e8 (by decide) (by decide) (by decide) rfl (by decide) (by decide) (by decide) (fun i _ => rfl) (fun h1 o1 f1 => ?_)
  have s1 := s0.put f1
  refine q_aload_n rfl rfl ?_
  refine q_dup rfl rfl ?_
  have e6_1 := (e6.ne f1 rfl)
  refine s_get (v := .int 0) rfl e6_1 rfl rfl ?_
  refine q_iload_n rfl rfl ?_
  refine s_iadd (k := 14) rfl (by decide) ?_
  refine s_put (vs' := [.ref 7, .ref 8, .int 14, .ref 9, .int (-1), .ref 51, .ref 93, .ref 135, .ref 177, .ref 180, .int 0, .ref 183, .ref 186, .ref 189]) rfl e6_1 rfl rfl rfl rfl (fun h2 o2 f2 => ?_)
  have s2 := s1.put f2
  refine q_aload_n rfl rfl ?_
  refine s_get (v := .ref 7) rfl o2 rfl rfl ?_
  refine q_iconst rfl ?_
  refine s_callS (as := [.ref 7, .int 0]) (rest := []) (d' := 15) (w' := 614) (lv' := [(0, .ref 7), (1, .int 0)]) rfl rfl rfl rfl rfl rfl rfl rfl ?_
  refine q_iconst rfl ?_
  refine s_istore_n (lv' := [(2, .int 0), (0, .ref 7), (1, .int 0)]) rfl (by decide) rfl ?_
  refine q_aload_n rfl rfl ?_
  have e7_2 := (f2.ne rfl (f1.ne rfl e7))
  refine s_alen (x := 20) rfl e7_2 rfl (by decide) ?_
  refine s_istore_n (lv' := [(3, .int 20), (2, .int 0), (0, .ref 7), (1, .int 0)]) rfl (by decide) rfl ?_
  refine q_iload_n rfl rfl ?_
  refine q_iload_n rfl rfl ?_
  refine q_icmp_ge rfl (fun c => absurd c (by decide)) (fun _ => ?_)
  refine q_aload_n rfl rfl ?_
  refine q_iload_n rfl rfl ?_
  refine q_iload_n rfl rfl ?_
  refine s_bastore (j := 0) rfl e7_2 (by decide) rfl (fun h3 o3 f3 => ?_)
  have s3 := s2.put f3
  refine s_iinc (y := 1) (lv' := [(2, .int 1), (3, .int 20), (0, .ref 7), (1, .int 0)]) rfl rfl (by decide) (by decide) rfl ?_
  refine q_goto rfl ?_
  refine q_iload_n rfl rfl ?_
  refine q_iload_n rfl rfl ?_
  refine q_icmp_ge rfl (fun c => absurd c (by decide)) (fun _ => ?_)
  refine q_aload_n rfl rfl ?_
  refine q_iload_n rfl rfl ?_
  refine q_iload_n rfl rfl ?_
  refine s_bastore (j := 1) rfl o3 (by decide) rfl (fun h4 o4 f4 => ?_)
  have s4 := s3.put f4
  refine s_iinc (y := 2) (lv' := [(2, .int 2), (3, .int 20), (0, .ref 7), (1, .int 0)]) rfl rfl (by decide) (by decide) rfl ?_
  refine q_goto rfl ?_
  refine q_iload_n rfl rfl ?_
  refine q_iload_n rfl rfl ?_
  refine q_icmp_ge rfl (fun c => absurd c (by decide)) (fun _ => ?_)
  refine q_aload_n rfl rfl ?_
  refine q_iload_n rfl rfl ?_
  refine q_iload_n rfl rfl ?_
  refine s_bastore (j := 2) rfl o4 (by decide) rfl (fun h5 o5 f5 => ?_)
  have s5 := s4.put f5
  refine s_iinc (y := 3) (lv' := [(2, .int 3), (3, .int 20), (0, .ref 7), (1, .int 0)]) rfl rfl (by decide) (by decide) rfl ?_
  refine q_goto rfl ?_
  refine q_iload_n rfl rfl ?_
  refine q_iload_n rfl rfl ?_
  refine q_icmp_ge rfl (fun c => absurd c (by decide)) (fun _ => ?_)
  refine q_aload_n rfl rfl ?_
  refine q_iload_n rfl rfl ?_
  refine q_iload_n rfl rfl ?_
  refine s_bastore (j := 3) rfl o5 (by decide) rfl (fun h6 o6 f6 => ?_)
  have s6 := s5.put f6
  refine s_iinc (y := 4) (lv' := [(2, .int 4), (3, .int 20), (0, .ref 7), (1, .int 0)]) rfl rfl (by decide) (by decide) rfl ?_
  refine q_goto rfl ?_
  refine q_iload_n rfl rfl ?_
  refine q_iload_n rfl rfl ?_
  refine q_icmp_ge rfl (fun c => absurd c (by decide)) (fun _ => ?_)
  refine q_aload_n rfl rfl ?_
  refine q_iload_n rfl rfl ?_
  refine q_iload_n rfl rfl ?_
  refine s_bastore (j := 4) rfl o6 (by decide) rfl (fun h7 o7 f7 => ?_)
  have s7 := s6.put f7
  refine s_iinc (y := 5) (lv' := [(2, .int 5), (3, .int 20), (0, .ref 7), (1, .int 0)]) rfl rfl (by decide) (by decide) rfl ?_
  refine q_goto rfl ?_
  refine q_iload_n rfl rfl ?_
  refine q_iload_n rfl rfl ?_
  refine q_icmp_ge rfl (fun c => absurd c (by decide)) (fun _ => ?_)
  refine q_aload_n rfl rfl ?_
  refine q_iload_n rfl rfl ?_
  refine q_iload_n rfl rfl ?_
  refine s_bastore (j := 5) rfl o7 (by decide) rfl (fun h8 o8 f8 => ?_)
  have s8 := s7.put f8
  refine s_iinc (y := 6) (lv' := [(2, .int 6), (3, .int 20), (0, .ref 7), (1, .int 0)]) rfl rfl (by decide) (by decide) rfl ?_
  refine q_goto rfl ?_
  refine q_iload_n rfl rfl ?_
  refine q_iload_n rfl rfl ?_
  refine q_icmp_ge rfl (fun c => absurd c (by decide)) (fun _ => ?_)
  refine q_aload_n rfl rfl ?_
  refine q_iload_n rfl rfl ?_
  refine q_iload_n rfl rfl ?_
  refine s_bastore (j := 6) rfl o8 (by decide) rfl (fun h9 o9 f9 => ?_)
  have s9 := s8.put f9
  refine s_iinc (y := 7) (lv' := [(2, .int 7), (3, .int 20), (0, .ref 7), (1, .int 0)]) rfl rfl (by decide) (by decide) rfl ?_
  refine q_goto rfl ?_
  refine q_iload_n rfl rfl ?_
  refine q_iload_n rfl rfl ?_
  refine q_icmp_ge rfl (fun c => absurd c (by decide)) (fun _ => ?_)
  refine q_aload_n rfl rfl ?_
  refine q_iload_n rfl rfl ?_
  refine q_iload_n rfl rfl ?_
  refine s_bastore (j := 7) rfl o9 (by decide) rfl (fun h10 o10 f10 => ?_)
  have s10 := s9.put f10
  refine s_iinc (y := 8) (lv' := [(2, .int 8), (3, .int 20), (0, .ref 7), (1, .int 0)]) rfl rfl (by decide) (by decide) rfl ?_
  refine q_goto rfl ?_
  refine q_iload_n rfl rfl ?_
  refine q_iload_n rfl rfl ?_
  refine q_icmp_ge rfl (fun c => absurd c (by decide)) (fun _ => ?_)
  refine q_aload_n rfl rfl ?_
  refine q_iload_n rfl rfl ?_
  refine q_iload_n rfl rfl ?_
  refine s_bastore (j := 8) rfl o10 (by decide) rfl (fun h11 o11 f11 => ?_)
  have s11 := s10.put f11
  refine s_iinc (y := 9) (lv' := [(2, .int 9), (3, .int 20), (0, .ref 7), (1, .int 0)]) rfl rfl (by decide) (by decide) rfl ?_
  refine q_goto rfl ?_
  refine q_iload_n rfl rfl ?_
  refine q_iload_n rfl rfl ?_
  refine q_icmp_ge rfl (fun c => absurd c (by decide)) (fun _ => ?_)
  refine q_aload_n rfl rfl ?_
  refine q_iload_n rfl rfl ?_
  refine q_iload_n rfl rfl ?_
  refine s_bastore (j := 9) rfl o11 (by decide) rfl (fun h12 o12 f12 => ?_)
  have s12 := s11.put f12
  refine s_iinc (y := 10) (lv' := [(2, .int 10), (3, .int 20), (0, .ref 7), (1, .int 0)]) rfl rfl (by decide) (by decide) rfl ?_
  refine q_goto rfl ?_
  refine q_iload_n rfl rfl ?_
  refine q_iload_n rfl rfl ?_
  refine q_icmp_ge rfl (fun c => absurd c (by decide)) (fun _ => ?_)
  refine q_aload_n rfl rfl ?_
  refine q_iload_n rfl rfl ?_
  refine q_iload_n rfl rfl ?_
  refine s_bastore (j := 10) rfl o12 (by decide) rfl (fun h13 o13 f13 => ?_)
  have s13 := s12.put f13
  refine s_iinc (y := 11) (lv' := [(2, .int 11), (3, .int 20), (0, .ref 7), (1, .int 0)]) rfl rfl (by decide) (by decide) rfl ?_
  refine q_goto rfl ?_
  refine q_iload_n rfl rfl ?_
  refine q_iload_n rfl rfl ?_
  refine q_icmp_ge rfl (fun c => absurd c (by decide)) (fun _ => ?_)
  refine q_aload_n rfl rfl ?_
  refine q_iload_n rfl rfl ?_
  refine q_iload_n rfl rfl ?_
  refine s_bastore (j := 11) rfl o13 (by decide) rfl (fun h14 o14 f14 => ?_)
  have s14 := s13.put f14
  refine s_iinc (y := 12) (lv' := [(2, .int 12), (3, .int 20), (0, .ref 7), (1, .int 0)]) rfl rfl (by decide) (by decide) rfl ?_
  refine q_goto rfl ?_
  refine q_iload_n rfl rfl ?_
  refine q_iload_n rfl rfl ?_
  refine q_icmp_ge rfl (fun c => absurd c (by decide)) (fun _ => ?_)
  refine q_aload_n rfl rfl ?_
  refine q_iload_n rfl rfl ?_
  refine q_iload_n rfl rfl ?_
  refine s_bastore (j := 12) rfl o14 (by decide) rfl (fun h15 o15 f15 => ?_)
  have s15 := s14.put f15
  refine s_iinc (y := 13) (lv' := [(2, .int 13), (3, .int 20), (0, .ref 7), (1, .int 0)]) rfl rfl (by decide) (by decide) rfl ?_
  refine q_goto rfl ?_
  refine q_iload_n rfl rfl ?_
  refine q_iload_n rfl rfl ?_
  refine q_icmp_ge rfl (fun c => absurd c (by decide)) (fun _ => ?_)
  refine q_aload_n rfl rfl ?_
  refine q_iload_n rfl rfl ?_
  refine q_iload_n rfl rfl ?_
  refine s_bastore (j := 13) rfl o15 (by decide) rfl (fun h16 o16 f16 => ?_)
  have s16 := s15.put f16
  refine s_iinc (y := 14) (lv' := [(2, .int 14), (3, .int 20), (0, .ref 7), (1, .int 0)]) rfl rfl (by decide) (by decide) rfl ?_
  refine q_goto rfl ?_
  refine q_iload_n rfl rfl ?_
  refine q_iload_n rfl rfl ?_
  refine q_icmp_ge rfl (fun c => absurd c (by decide)) (fun _ => ?_)
  refine q_aload_n rfl rfl ?_
  refine q_iload_n rfl rfl ?_
  refine q_iload_n rfl rfl ?_
  refine s_bastore (j := 14) rfl o16 (by decide) rfl (fun h17 o17 f17 => ?_)
  have s17 := s16.put f17
  refine s_iinc (y := 15) (lv' := [(2, .int 15), (3, .int 20), (0, .ref 7), (1, .int 0)]) rfl rfl (by decide) (by decide) rfl ?_
  refine q_goto rfl ?_
  refine q_iload_n rfl rfl ?_
  refine q_iload_n rfl rfl ?_
  refine q_icmp_ge rfl (fun c => absurd c (by decide)) (fun _ => ?_)
  refine q_aload_n rfl rfl ?_
  refine q_iload_n rfl rfl ?_
  refine q_iload_n rfl rfl ?_
  refine s_bastore (j := 15) rfl o17 (by decide) rfl (fun h18 o18 f18 => ?_)
  have s18 := s17.put f18
  refine s_iinc (y := 16) (lv' := [(2, .int 16), (3, .int 20), (0, .ref 7), (1, .int 0)]) rfl rfl (by decide) (by decide) rfl ?_
  refine q_goto rfl ?_
  refine q_iload_n rfl rfl ?_
  refine q_iload_n rfl rfl ?_
  refine q_icmp_ge rfl (fun c => absurd c (by decide)) (fun _ => ?_)
  refine q_aload_n rfl rfl ?_
  refine q_iload_n rfl rfl ?_
  refine q_iload_n rfl rfl ?_
  refine s_bastore (j := 16) rfl o18 (by decide) rfl (fun h19 o19 f19 => ?_)
  have s19 := s18.put f19
  refine s_iinc (y := 17) (lv' := [(2, .int 17), (3, .int 20), (0, .ref 7), (1, .int 0)]) rfl rfl (by decide) (by decide) rfl ?_
  refine q_goto rfl ?_
  refine q_iload_n rfl rfl ?_
  refine q_iload_n rfl rfl ?_
  refine q_icmp_ge rfl (fun c => absurd c (by decide)) (fun _ => ?_)
  refine q_aload_n rfl rfl ?_
  refine q_iload_n rfl rfl ?_
  refine q_iload_n rfl rfl ?_
  refine s_bastore (j := 17) rfl o19 (by decide) rfl (fun h20 o20 f20 => ?_)
  have s20 := s19.put f20
  refine s_iinc (y := 18) (lv' := [(2, .int 18), (3, .int 20), (0, .ref 7), (1, .int 0)]) rfl rfl (by decide) (by decide) rfl ?_
  refine q_goto rfl ?_
  refine q_iload_n rfl rfl ?_
  refine q_iload_n rfl rfl ?_
  refine q_icmp_ge rfl (fun c => absurd c (by decide)) (fun _ => ?_)
  refine q_aload_n rfl rfl ?_
  refine q_iload_n rfl rfl ?_
  refine q_iload_n rfl rfl ?_
  refine s_bastore (j := 18) rfl o20 (by decide) rfl (fun h21 o21 f21 => ?_)
  have s21 := s20.put f21
  refine s_iinc (y := 19) (lv' := [(2, .int 19), (3, .int 20), (0, .ref 7), (1, .int 0)]) rfl rfl (by decide) (by decide) rfl ?_
  refine q_goto rfl ?_
  refine q_iload_n rfl rfl ?_
  refine q_iload_n rfl rfl ?_
  refine q_icmp_ge rfl (fun c => absurd c (by decide)) (fun _ => ?_)
  refine q_aload_n rfl rfl ?_
  refine q_iload_n rfl rfl ?_
  refine q_iload_n rfl rfl ?_
  refine s_bastore (j := 19) rfl o21 (by decide) rfl (fun h22 o22 f22 => ?_)
  have s22 := s21.put f22
  refine s_iinc (y := 20) (lv' := [(2, .int 20), (3, .int 20), (0, .ref 7), (1, .int 0)]) rfl rfl (by decide) (by decide) rfl ?_
  refine q_goto rfl ?_
  refine q_iload_n rfl rfl ?_
  refine q_iload_n rfl rfl ?_
  refine q_icmp_ge rfl (fun _ => ?_) (fun c => absurd (by decide) c)
  refine q_return rfl rfl ?_
  show aW aiP 15 16 637 59 [(0, .ref 6), (1, .int 14)] [] h22 _
  refine q_aload_n rfl rfl ?_
  have e6_22 := ((((((((((((((((((((o2.ne f3 rfl).ne f4 rfl).ne f5 rfl).ne f6 rfl).ne f7 rfl).ne f8 rfl).ne f9 rfl).ne f10 rfl).ne f11 rfl).ne f12 rfl).ne f13 rfl).ne f14 rfl).ne f15 rfl).ne f16 rfl).ne f17 rfl).ne f18 rfl).ne f19 rfl).ne f20 rfl).ne f21 rfl).ne f22 rfl)
  refine s_get (v := .int 14) rfl e6_22 rfl rfl ?_
  refine q_ireturn rfl rfl ?_
  show aW aiP 0 17 658 233 [(4, .int 0), (3, .ref 233), (2, .ref 191), (1, .ref 6), (0, .ref 0)] [.int 14] h22 _
  refine q_aload_n rfl rfl ?_
  refine q_aload_n rfl rfl ?_
  refine q_iload rfl rfl ?_
  refine q_iconst rfl ?_
  refine s_iadd (k := 1) rfl (by decide) ?_
  have e0_22 := (f22.ne rfl (f21.ne rfl (f20.ne rfl (f19.ne rfl (f18.ne rfl (f17.ne rfl (f16.ne rfl (f15.ne rfl (f14.ne rfl (f13.ne rfl (f12.ne rfl (f11.ne rfl (f10.ne rfl (f9.ne rfl (f8.ne rfl (f7.ne rfl (f6.ne rfl (f5.ne rfl (f4.ne rfl (f3.ne rfl (f2.ne rfl (f1.ne rfl e0))))))))))))))))))))))
  refine s_iaload (j := 1) (v := .int (xs 1)) rfl e0_22 (by decide) rfl (by first | rfl | decide) ?_
  rw [hw]
  have e191_22 := ((((((((((((((((((((((e191.ne f1 rfl).ne f2 rfl).ne f3 rfl).ne f4 rfl).ne f5 rfl).ne f6 rfl).ne f7 rfl).ne f8 rfl).ne f9 rfl).ne f10 rfl).ne f11 rfl).ne f12 rfl).ne f13 rfl).ne f14 rfl).ne f15 rfl).ne f16 rfl).ne f17 rfl).ne f18 rfl).ne f19 rfl).ne f20 rfl).ne f21 rfl).ne f22 rfl)
  refine s_callV (as := [.int 14]) (rest := [.int 14]) (d' := 16) (w' := 636) (lv' := [(0, .ref 191), (1, .int 14)]) rfl e191_22 rfl rfl rfl rfl rfl rfl ?_
  refine q_aload_n rfl rfl ?_
  refine q_iconst rfl ?_
  refine s_put (vs' := [.int 0, .ref 192, .ref 193, .int 0, .ref 194, .ref 195, .ref 196, .ref 197, .ref 198, .ref 199, .ref 200, .ref 201, .ref 202, .ref 203, .ref 204, .ref 205, .int (-1), .int 0, .ref 206, .ref 207, .ref 208, .ref 209, .ref 210, .ref 211, .ref 212, .ref 213, .ref 214, .ref 215, .int 0, .int 0, .int 0, .int 0, .ref 216, .ref 217, .ref 218, .ref 219, .ref 220, .int (-1), .int 0, .int 0, .int 0, .int 0, .int 0, .int 0, .ref 221, .ref 222, .ref 223, .ref 224, .int 0, .ref 225, .int 0, .ref 226, .ref 227, .int 0, .ref 228, .ref 229, .ref 230, .ref 231, .ref 232]) rfl e191_22 rfl rfl rfl rfl (fun h23 o23 f23 => ?_)
  have s23 := s22.put f23
  refine q_iload_n rfl rfl ?_
  refine q_if_lt rfl (fun c => absurd c (by decide)) (fun _ => ?_)
  refine q_iload_n rfl rfl ?_
  refine q_bipush rfl ?_
  refine q_icmp_gt rfl (fun c => absurd c (by decide)) (fun _ => ?_)
  refine q_aload_n rfl rfl ?_
  refine s_get (v := .int 0) rfl o23 rfl rfl ?_
  refine q_iload_n rfl rfl ?_
  refine s_iadd (k := 14) rfl (by decide) ?_
  refine q_sipush rfl ?_
  refine q_icmp_le rfl (fun _ => ?_) (fun c => absurd (by decide) c)
  refine q_iconst rfl ?_
  refine s_istore_n (lv' := [(2, .int 0), (0, .ref 191), (1, .int 14)]) rfl (by decide) rfl ?_
  refine q_iload_n rfl rfl ?_
  refine q_iload_n rfl rfl ?_
  refine q_icmp_ge rfl (fun c => absurd c (by decide)) (fun _ => ?_)
  refine q_aload_n rfl rfl ?_
  refine s_get (v := .ref 193) rfl o23 rfl rfl ?_
  refine q_aload_n rfl rfl ?_
  refine s_get (v := .int 0) rfl o23 rfl rfl ?_
  refine q_aload_n rfl rfl ?_
  refine s_get (v := .ref 192) rfl o23 rfl rfl ?_
  refine q_iload_n rfl rfl ?_
  have e192_23 := (f23.ne rfl (f22.ne rfl (f21.ne rfl (f20.ne rfl (f19.ne rfl (f18.ne rfl (f17.ne rfl (f16.ne rfl (f15.ne rfl (f14.ne rfl (f13.ne rfl (f12.ne rfl (f11.ne rfl (f10.ne rfl (f9.ne rfl (f8.ne rfl (f7.ne rfl (f6.ne rfl (f5.ne rfl (f4.ne rfl (f3.ne rfl (f2.ne rfl (f1.ne rfl e192)))))))))))))))))))))))
  refine s_iaload (j := 0) (v := .int 0) rfl e192_23 (by decide) rfl (by first | rfl | decide) ?_
  have e193_23 := (f23.ne rfl (f22.ne rfl (f21.ne rfl (f20.ne rfl (f19.ne rfl (f18.ne rfl (f17.ne rfl (f16.ne rfl (f15.ne rfl (f14.ne rfl (f13.ne rfl (f12.ne rfl (f11.ne rfl (f10.ne rfl (f9.ne rfl (f8.ne rfl (f7.ne rfl (f6.ne rfl (f5.ne rfl (f4.ne rfl (f3.ne rfl (f2.ne rfl (f1.ne rfl e193)))))))))))))))))))))))
  refine s_iastore (j := 0) rfl e193_23 (by decide) rfl (fun h24 o24 f24 => ?_)
  have s24 := s23.put f24
  refine q_aload_n rfl rfl ?_
  refine q_dup rfl rfl ?_
  have e191_24 := (o23.ne f24 rfl)
  refine s_get (v := .int 0) rfl e191_24 rfl rfl ?_
  refine q_iconst rfl ?_
  refine s_iadd (k := 1) rfl (by decide) ?_
  refine s_put (vs' := [.int 0, .ref 192, .ref 193, .int 1, .ref 194, .ref 195, .ref 196, .ref 197, .ref 198, .ref 199, .ref 200, .ref 201, .ref 202, .ref 203, .ref 204, .ref 205, .int (-1), .int 0, .ref 206, .ref 207, .ref 208, .ref 209, .ref 210, .ref 211, .ref 212, .ref 213, .ref 214, .ref 215, .int 0, .int 0, .int 0, .int 0, .ref 216, .ref 217, .ref 218, .ref 219, .ref 220, .int (-1), .int 0, .int 0, .int 0, .int 0, .int 0, .int 0, .ref 221, .ref 222, .ref 223, .ref 224, .int 0, .ref 225, .int 0, .ref 226, .ref 227, .int 0, .ref 228, .ref 229, .ref 230, .ref 231, .ref 232]) rfl e191_24 rfl rfl rfl rfl (fun h25 o25 f25 => ?_)
  have s25 := s24.put f25
  refine s_iinc (y := 1) (lv' := [(2, .int 1), (0, .ref 191), (1, .int 14)]) rfl rfl (by decide) (by decide) rfl ?_
  refine q_goto rfl ?_
  refine q_iload_n rfl rfl ?_
  refine q_iload_n rfl rfl ?_
  refine q_icmp_ge rfl (fun c => absurd c (by decide)) (fun _ => ?_)
  refine q_aload_n rfl rfl ?_
  refine s_get (v := .ref 193) rfl o25 rfl rfl ?_
  refine q_aload_n rfl rfl ?_
  refine s_get (v := .int 1) rfl o25 rfl rfl ?_
  refine q_aload_n rfl rfl ?_
  refine s_get (v := .ref 192) rfl o25 rfl rfl ?_
  refine q_iload_n rfl rfl ?_
  have e192_25 := (f25.ne rfl (f24.ne rfl e192_23))
  refine s_iaload (j := 1) (v := .int 0) rfl e192_25 (by decide) rfl (by first | rfl | decide) ?_
  have e193_25 := (f25.ne rfl o24)
  refine s_iastore (j := 1) rfl e193_25 (by decide) rfl (fun h26 o26 f26 => ?_)
  have s26 := s25.put f26
  refine q_aload_n rfl rfl ?_
  refine q_dup rfl rfl ?_
  have e191_26 := (o25.ne f26 rfl)
  refine s_get (v := .int 1) rfl e191_26 rfl rfl ?_
  refine q_iconst rfl ?_
  refine s_iadd (k := 2) rfl (by decide) ?_
  refine s_put (vs' := [.int 0, .ref 192, .ref 193, .int 2, .ref 194, .ref 195, .ref 196, .ref 197, .ref 198, .ref 199, .ref 200, .ref 201, .ref 202, .ref 203, .ref 204, .ref 205, .int (-1), .int 0, .ref 206, .ref 207, .ref 208, .ref 209, .ref 210, .ref 211, .ref 212, .ref 213, .ref 214, .ref 215, .int 0, .int 0, .int 0, .int 0, .ref 216, .ref 217, .ref 218, .ref 219, .ref 220, .int (-1), .int 0, .int 0, .int 0, .int 0, .int 0, .int 0, .ref 221, .ref 222, .ref 223, .ref 224, .int 0, .ref 225, .int 0, .ref 226, .ref 227, .int 0, .ref 228, .ref 229, .ref 230, .ref 231, .ref 232]) rfl e191_26 rfl rfl rfl rfl (fun h27 o27 f27 => ?_)
  have s27 := s26.put f27
  refine s_iinc (y := 2) (lv' := [(2, .int 2), (0, .ref 191), (1, .int 14)]) rfl rfl (by decide) (by decide) rfl ?_
  refine q_goto rfl ?_
  refine q_iload_n rfl rfl ?_
  refine q_iload_n rfl rfl ?_
  refine q_icmp_ge rfl (fun c => absurd c (by decide)) (fun _ => ?_)
  refine q_aload_n rfl rfl ?_
  refine s_get (v := .ref 193) rfl o27 rfl rfl ?_
  refine q_aload_n rfl rfl ?_
  refine s_get (v := .int 2) rfl o27 rfl rfl ?_
  refine q_aload_n rfl rfl ?_
  refine s_get (v := .ref 192) rfl o27 rfl rfl ?_
  refine q_iload_n rfl rfl ?_
  have e192_27 := (f27.ne rfl (f26.ne rfl e192_25))
  refine s_iaload (j := 2) (v := .int 0) rfl e192_27 (by decide) rfl (by first | rfl | decide) ?_
  have e193_27 := (f27.ne rfl o26)
  refine s_iastore (j := 2) rfl e193_27 (by decide) rfl (fun h28 o28 f28 => ?_)
  have s28 := s27.put f28
  refine q_aload_n rfl rfl ?_
  refine q_dup rfl rfl ?_
  have e191_28 := (o27.ne f28 rfl)
  refine s_get (v := .int 2) rfl e191_28 rfl rfl ?_
  refine q_iconst rfl ?_
  refine s_iadd (k := 3) rfl (by decide) ?_
  refine s_put (vs' := [.int 0, .ref 192, .ref 193, .int 3, .ref 194, .ref 195, .ref 196, .ref 197, .ref 198, .ref 199, .ref 200, .ref 201, .ref 202, .ref 203, .ref 204, .ref 205, .int (-1), .int 0, .ref 206, .ref 207, .ref 208, .ref 209, .ref 210, .ref 211, .ref 212, .ref 213, .ref 214, .ref 215, .int 0, .int 0, .int 0, .int 0, .ref 216, .ref 217, .ref 218, .ref 219, .ref 220, .int (-1), .int 0, .int 0, .int 0, .int 0, .int 0, .int 0, .ref 221, .ref 222, .ref 223, .ref 224, .int 0, .ref 225, .int 0, .ref 226, .ref 227, .int 0, .ref 228, .ref 229, .ref 230, .ref 231, .ref 232]) rfl e191_28 rfl rfl rfl rfl (fun h29 o29 f29 => ?_)
  have s29 := s28.put f29
  refine s_iinc (y := 3) (lv' := [(2, .int 3), (0, .ref 191), (1, .int 14)]) rfl rfl (by decide) (by decide) rfl ?_
  refine q_goto rfl ?_
  refine q_iload_n rfl rfl ?_
  refine q_iload_n rfl rfl ?_
  refine q_icmp_ge rfl (fun c => absurd c (by decide)) (fun _ => ?_)
  refine q_aload_n rfl rfl ?_
  refine s_get (v := .ref 193) rfl o29 rfl rfl ?_
  refine q_aload_n rfl rfl ?_
  refine s_get (v := .int 3) rfl o29 rfl rfl ?_
  refine q_aload_n rfl rfl ?_
  refine s_get (v := .ref 192) rfl o29 rfl rfl ?_
  refine q_iload_n rfl rfl ?_
  have e192_29 := (f29.ne rfl (f28.ne rfl e192_27))
  refine s_iaload (j := 3) (v := .int 0) rfl e192_29 (by decide) rfl (by first | rfl | decide) ?_
  have e193_29 := (f29.ne rfl o28)
  refine s_iastore (j := 3) rfl e193_29 (by decide) rfl (fun h30 o30 f30 => ?_)
  have s30 := s29.put f30
  refine q_aload_n rfl rfl ?_
  refine q_dup rfl rfl ?_
  have e191_30 := (o29.ne f30 rfl)
  refine s_get (v := .int 3) rfl e191_30 rfl rfl ?_
  refine q_iconst rfl ?_
  refine s_iadd (k := 4) rfl (by decide) ?_
  refine s_put (vs' := [.int 0, .ref 192, .ref 193, .int 4, .ref 194, .ref 195, .ref 196, .ref 197, .ref 198, .ref 199, .ref 200, .ref 201, .ref 202, .ref 203, .ref 204, .ref 205, .int (-1), .int 0, .ref 206, .ref 207, .ref 208, .ref 209, .ref 210, .ref 211, .ref 212, .ref 213, .ref 214, .ref 215, .int 0, .int 0, .int 0, .int 0, .ref 216, .ref 217, .ref 218, .ref 219, .ref 220, .int (-1), .int 0, .int 0, .int 0, .int 0, .int 0, .int 0, .ref 221, .ref 222, .ref 223, .ref 224, .int 0, .ref 225, .int 0, .ref 226, .ref 227, .int 0, .ref 228, .ref 229, .ref 230, .ref 231, .ref 232]) rfl e191_30 rfl rfl rfl rfl (fun h31 o31 f31 => ?_)
  have s31 := s30.put f31
  refine s_iinc (y := 4) (lv' := [(2, .int 4), (0, .ref 191), (1, .int 14)]) rfl rfl (by decide) (by decide) rfl ?_
  refine q_goto rfl ?_
  refine q_iload_n rfl rfl ?_
  refine q_iload_n rfl rfl ?_
  refine q_icmp_ge rfl (fun c => absurd c (by decide)) (fun _ => ?_)
  refine q_aload_n rfl rfl ?_
  refine s_get (v := .ref 193) rfl o31 rfl rfl ?_
  refine q_aload_n rfl rfl ?_
  refine s_get (v := .int 4) rfl o31 rfl rfl ?_
  refine q_aload_n rfl rfl ?_
  refine s_get (v := .ref 192) rfl o31 rfl rfl ?_
  refine q_iload_n rfl rfl ?_
  have e192_31 := (f31.ne rfl (f30.ne rfl e192_29))
  refine s_iaload (j := 4) (v := .int 0) rfl e192_31 (by decide) rfl (by first | rfl | decide) ?_
  have e193_31 := (f31.ne rfl o30)
  refine s_iastore (j := 4) rfl e193_31 (by decide) rfl (fun h32 o32 f32 => ?_)
  have s32 := s31.put f32
  refine q_aload_n rfl rfl ?_
  refine q_dup rfl rfl ?_
  have e191_32 := (o31.ne f32 rfl)
  refine s_get (v := .int 4) rfl e191_32 rfl rfl ?_
  refine q_iconst rfl ?_
  refine s_iadd (k := 5) rfl (by decide) ?_
  refine s_put (vs' := [.int 0, .ref 192, .ref 193, .int 5, .ref 194, .ref 195, .ref 196, .ref 197, .ref 198, .ref 199, .ref 200, .ref 201, .ref 202, .ref 203, .ref 204, .ref 205, .int (-1), .int 0, .ref 206, .ref 207, .ref 208, .ref 209, .ref 210, .ref 211, .ref 212, .ref 213, .ref 214, .ref 215, .int 0, .int 0, .int 0, .int 0, .ref 216, .ref 217, .ref 218, .ref 219, .ref 220, .int (-1), .int 0, .int 0, .int 0, .int 0, .int 0, .int 0, .ref 221, .ref 222, .ref 223, .ref 224, .int 0, .ref 225, .int 0, .ref 226, .ref 227, .int 0, .ref 228, .ref 229, .ref 230, .ref 231, .ref 232]) rfl e191_32 rfl rfl rfl rfl (fun h33 o33 f33 => ?_)
  have s33 := s32.put f33
  refine s_iinc (y := 5) (lv' := [(2, .int 5), (0, .ref 191), (1, .int 14)]) rfl rfl (by decide) (by decide) rfl ?_
  refine q_goto rfl ?_
  refine q_iload_n rfl rfl ?_
  refine q_iload_n rfl rfl ?_
  refine q_icmp_ge rfl (fun c => absurd c (by decide)) (fun _ => ?_)
  refine q_aload_n rfl rfl ?_
  refine s_get (v := .ref 193) rfl o33 rfl rfl ?_
  refine q_aload_n rfl rfl ?_
  refine s_get (v := .int 5) rfl o33 rfl rfl ?_
  refine q_aload_n rfl rfl ?_
  refine s_get (v := .ref 192) rfl o33 rfl rfl ?_
  refine q_iload_n rfl rfl ?_
  have e192_33 := (f33.ne rfl (f32.ne rfl e192_31))
  refine s_iaload (j := 5) (v := .int 0) rfl e192_33 (by decide) rfl (by first | rfl | decide) ?_
  have e193_33 := (f33.ne rfl o32)
  refine s_iastore (j := 5) rfl e193_33 (by decide) rfl (fun h34 o34 f34 => ?_)
  have s34 := s33.put f34
  refine q_aload_n rfl rfl ?_
  refine q_dup rfl rfl ?_
  have e191_34 := (o33.ne f34 rfl)
  refine s_get (v := .int 5) rfl e191_34 rfl rfl ?_
  refine q_iconst rfl ?_
  refine s_iadd (k := 6) rfl (by decide) ?_
  refine s_put (vs' := [.int 0, .ref 192, .ref 193, .int 6, .ref 194, .ref 195, .ref 196, .ref 197, .ref 198, .ref 199, .ref 200, .ref 201, .ref 202, .ref 203, .ref 204, .ref 205, .int (-1), .int 0, .ref 206, .ref 207, .ref 208, .ref 209, .ref 210, .ref 211, .ref 212, .ref 213, .ref 214, .ref 215, .int 0, .int 0, .int 0, .int 0, .ref 216, .ref 217, .ref 218, .ref 219, .ref 220, .int (-1), .int 0, .int 0, .int 0, .int 0, .int 0, .int 0, .ref 221, .ref 222, .ref 223, .ref 224, .int 0, .ref 225, .int 0, .ref 226, .ref 227, .int 0, .ref 228, .ref 229, .ref 230, .ref 231, .ref 232]) rfl e191_34 rfl rfl rfl rfl (fun h35 o35 f35 => ?_)
  have s35 := s34.put f35
  refine s_iinc (y := 6) (lv' := [(2, .int 6), (0, .ref 191), (1, .int 14)]) rfl rfl (by decide) (by decide) rfl ?_
  refine q_goto rfl ?_
  refine q_iload_n rfl rfl ?_
  refine q_iload_n rfl rfl ?_
  refine q_icmp_ge rfl (fun c => absurd c (by decide)) (fun _ => ?_)
  refine q_aload_n rfl rfl ?_
  refine s_get (v := .ref 193) rfl o35 rfl rfl ?_
  refine q_aload_n rfl rfl ?_
  refine s_get (v := .int 6) rfl o35 rfl rfl ?_
  refine q_aload_n rfl rfl ?_
  refine s_get (v := .ref 192) rfl o35 rfl rfl ?_
  refine q_iload_n rfl rfl ?_
  have e192_35 := (f35.ne rfl (f34.ne rfl e192_33))
  refine s_iaload (j := 6) (v := .int 0) rfl e192_35 (by decide) rfl (by first | rfl | decide) ?_
  have e193_35 := (f35.ne rfl o34)
  refine s_iastore (j := 6) rfl e193_35 (by decide) rfl (fun h36 o36 f36 => ?_)
  have s36 := s35.put f36
  refine q_aload_n rfl rfl ?_
  refine q_dup rfl rfl ?_
  have e191_36 := (o35.ne f36 rfl)
  refine s_get (v := .int 6) rfl e191_36 rfl rfl ?_
  refine q_iconst rfl ?_
  refine s_iadd (k := 7) rfl (by decide) ?_
  refine s_put (vs' := [.int 0, .ref 192, .ref 193, .int 7, .ref 194, .ref 195, .ref 196, .ref 197, .ref 198, .ref 199, .ref 200, .ref 201, .ref 202, .ref 203, .ref 204, .ref 205, .int (-1), .int 0, .ref 206, .ref 207, .ref 208, .ref 209, .ref 210, .ref 211, .ref 212, .ref 213, .ref 214, .ref 215, .int 0, .int 0, .int 0, .int 0, .ref 216, .ref 217, .ref 218, .ref 219, .ref 220, .int (-1), .int 0, .int 0, .int 0, .int 0, .int 0, .int 0, .ref 221, .ref 222, .ref 223, .ref 224, .int 0, .ref 225, .int 0, .ref 226, .ref 227, .int 0, .ref 228, .ref 229, .ref 230, .ref 231, .ref 232]) rfl e191_36 rfl rfl rfl rfl (fun h37 o37 f37 => ?_)
  have s37 := s36.put f37
  refine s_iinc (y := 7) (lv' := [(2, .int 7), (0, .ref 191), (1, .int 14)]) rfl rfl (by decide) (by decide) rfl ?_
  refine q_goto rfl ?_
  refine q_iload_n rfl rfl ?_
  refine q_iload_n rfl rfl ?_
  refine q_icmp_ge rfl (fun c => absurd c (by decide)) (fun _ => ?_)
  refine q_aload_n rfl rfl ?_
  refine s_get (v := .ref 193) rfl o37 rfl rfl ?_
  refine q_aload_n rfl rfl ?_
  refine s_get (v := .int 7) rfl o37 rfl rfl ?_
  refine q_aload_n rfl rfl ?_
  refine s_get (v := .ref 192) rfl o37 rfl rfl ?_
  refine q_iload_n rfl rfl ?_
  have e192_37 := (f37.ne rfl (f36.ne rfl e192_35))
  refine s_iaload (j := 7) (v := .int 0) rfl e192_37 (by decide) rfl (by first | rfl | decide) ?_
  have e193_37 := (f37.ne rfl o36)
  refine s_iastore (j := 7) rfl e193_37 (by decide) rfl (fun h38 o38 f38 => ?_)
  have s38 := s37.put f38
  refine q_aload_n rfl rfl ?_
  refine q_dup rfl rfl ?_
  have e191_38 := (o37.ne f38 rfl)
  refine s_get (v := .int 7) rfl e191_38 rfl rfl ?_
  refine q_iconst rfl ?_
  refine s_iadd (k := 8) rfl (by decide) ?_
  refine s_put (vs' := [.int 0, .ref 192, .ref 193, .int 8, .ref 194, .ref 195, .ref 196, .ref 197, .ref 198, .ref 199, .ref 200, .ref 201, .ref 202, .ref 203, .ref 204, .ref 205, .int (-1), .int 0, .ref 206, .ref 207, .ref 208, .ref 209, .ref 210, .ref 211, .ref 212, .ref 213, .ref 214, .ref 215, .int 0, .int 0, .int 0, .int 0, .ref 216, .ref 217, .ref 218, .ref 219, .ref 220, .int (-1), .int 0, .int 0, .int 0, .int 0, .int 0, .int 0, .ref 221, .ref 222, .ref 223, .ref 224, .int 0, .ref 225, .int 0, .ref 226, .ref 227, .int 0, .ref 228, .ref 229, .ref 230, .ref 231, .ref 232]) rfl e191_38 rfl rfl rfl rfl (fun h39 o39 f39 => ?_)
  have s39 := s38.put f39
  refine s_iinc (y := 8) (lv' := [(2, .int 8), (0, .ref 191), (1, .int 14)]) rfl rfl (by decide) (by decide) rfl ?_
  refine q_goto rfl ?_
  refine q_iload_n rfl rfl ?_
  refine q_iload_n rfl rfl ?_
  refine q_icmp_ge rfl (fun c => absurd c (by decide)) (fun _ => ?_)
  refine q_aload_n rfl rfl ?_
  refine s_get (v := .ref 193) rfl o39 rfl rfl ?_
  refine q_aload_n rfl rfl ?_
  refine s_get (v := .int 8) rfl o39 rfl rfl ?_
  refine q_aload_n rfl rfl ?_
  refine s_get (v := .ref 192) rfl o39 rfl rfl ?_
  refine q_iload_n rfl rfl ?_
  have e192_39 := (f39.ne rfl (f38.ne rfl e192_37))
  refine s_iaload (j := 8) (v := .int 0) rfl e192_39 (by decide) rfl (by first | rfl | decide) ?_
  have e193_39 := (f39.ne rfl o38)
  refine s_iastore (j := 8) rfl e193_39 (by decide) rfl (fun h40 o40 f40 => ?_)
  have s40 := s39.put f40
  refine q_aload_n rfl rfl ?_
  refine q_dup rfl rfl ?_
  have e191_40 := (o39.ne f40 rfl)
  refine s_get (v := .int 8) rfl e191_40 rfl rfl ?_
  refine q_iconst rfl ?_
  refine s_iadd (k := 9) rfl (by decide) ?_
  refine s_put (vs' := [.int 0, .ref 192, .ref 193, .int 9, .ref 194, .ref 195, .ref 196, .ref 197, .ref 198, .ref 199, .ref 200, .ref 201, .ref 202, .ref 203, .ref 204, .ref 205, .int (-1), .int 0, .ref 206, .ref 207, .ref 208, .ref 209, .ref 210, .ref 211, .ref 212, .ref 213, .ref 214, .ref 215, .int 0, .int 0, .int 0, .int 0, .ref 216, .ref 217, .ref 218, .ref 219, .ref 220, .int (-1), .int 0, .int 0, .int 0, .int 0, .int 0, .int 0, .ref 221, .ref 222, .ref 223, .ref 224, .int 0, .ref 225, .int 0, .ref 226, .ref 227, .int 0, .ref 228, .ref 229, .ref 230, .ref 231, .ref 232]) rfl e191_40 rfl rfl rfl rfl (fun h41 o41 f41 => ?_)
  have s41 := s40.put f41
  refine s_iinc (y := 9) (lv' := [(2, .int 9), (0, .ref 191), (1, .int 14)]) rfl rfl (by decide) (by decide) rfl ?_
  refine q_goto rfl ?_
  refine q_iload_n rfl rfl ?_
  refine q_iload_n rfl rfl ?_
  refine q_icmp_ge rfl (fun c => absurd c (by decide)) (fun _ => ?_)
  refine q_aload_n rfl rfl ?_
  refine s_get (v := .ref 193) rfl o41 rfl rfl ?_
  refine q_aload_n rfl rfl ?_
  refine s_get (v := .int 9) rfl o41 rfl rfl ?_
  refine q_aload_n rfl rfl ?_
  refine s_get (v := .ref 192) rfl o41 rfl rfl ?_
  refine q_iload_n rfl rfl ?_
  have e192_41 := (f41.ne rfl (f40.ne rfl e192_39))
  refine s_iaload (j := 9) (v := .int 0) rfl e192_41 (by decide) rfl (by first | rfl | decide) ?_
  have e193_41 := (f41.ne rfl o40)
  refine s_iastore (j := 9) rfl e193_41 (by decide) rfl (fun h42 o42 f42 => ?_)
  have s42 := s41.put f42
  refine q_aload_n rfl rfl ?_
  refine q_dup rfl rfl ?_
  have e191_42 := (o41.ne f42 rfl)
  refine s_get (v := .int 9) rfl e191_42 rfl rfl ?_
  refine q_iconst rfl ?_
  refine s_iadd (k := 10) rfl (by decide) ?_
  refine s_put (vs' := [.int 0, .ref 192, .ref 193, .int 10, .ref 194, .ref 195, .ref 196, .ref 197, .ref 198, .ref 199, .ref 200, .ref 201, .ref 202, .ref 203, .ref 204, .ref 205, .int (-1), .int 0, .ref 206, .ref 207, .ref 208, .ref 209, .ref 210, .ref 211, .ref 212, .ref 213, .ref 214, .ref 215, .int 0, .int 0, .int 0, .int 0, .ref 216, .ref 217, .ref 218, .ref 219, .ref 220, .int (-1), .int 0, .int 0, .int 0, .int 0, .int 0, .int 0, .ref 221, .ref 222, .ref 223, .ref 224, .int 0, .ref 225, .int 0, .ref 226, .ref 227, .int 0, .ref 228, .ref 229, .ref 230, .ref 231, .ref 232]) rfl e191_42 rfl rfl rfl rfl (fun h43 o43 f43 => ?_)
  have s43 := s42.put f43
  refine s_iinc (y := 10) (lv' := [(2, .int 10), (0, .ref 191), (1, .int 14)]) rfl rfl (by decide) (by decide) rfl ?_
  refine q_goto rfl ?_
  refine q_iload_n rfl rfl ?_
  refine q_iload_n rfl rfl ?_
  refine q_icmp_ge rfl (fun c => absurd c (by decide)) (fun _ => ?_)
  refine q_aload_n rfl rfl ?_
  refine s_get (v := .ref 193) rfl o43 rfl rfl ?_
  refine q_aload_n rfl rfl ?_
  refine s_get (v := .int 10) rfl o43 rfl rfl ?_
  refine q_aload_n rfl rfl ?_
  refine s_get (v := .ref 192) rfl o43 rfl rfl ?_
  refine q_iload_n rfl rfl ?_
  have e192_43 := (f43.ne rfl (f42.ne rfl e192_41))
  refine s_iaload (j := 10) (v := .int 0) rfl e192_43 (by decide) rfl (by first | rfl | decide) ?_
  have e193_43 := (f43.ne rfl o42)
  refine s_iastore (j := 10) rfl e193_43 (by decide) rfl (fun h44 o44 f44 => ?_)
  have s44 := s43.put f44
  refine q_aload_n rfl rfl ?_
  refine q_dup rfl rfl ?_
  have e191_44 := (o43.ne f44 rfl)
  refine s_get (v := .int 10) rfl e191_44 rfl rfl ?_
  refine q_iconst rfl ?_
  refine s_iadd (k := 11) rfl (by decide) ?_
  refine s_put (vs' := [.int 0, .ref 192, .ref 193, .int 11, .ref 194, .ref 195, .ref 196, .ref 197, .ref 198, .ref 199, .ref 200, .ref 201, .ref 202, .ref 203, .ref 204, .ref 205, .int (-1), .int 0, .ref 206, .ref 207, .ref 208, .ref 209, .ref 210, .ref 211, .ref 212, .ref 213, .ref 214, .ref 215, .int 0, .int 0, .int 0, .int 0, .ref 216, .ref 217, .ref 218, .ref 219, .ref 220, .int (-1), .int 0, .int 0, .int 0, .int 0, .int 0, .int 0, .ref 221, .ref 222, .ref 223, .ref 224, .int 0, .ref 225, .int 0, .ref 226, .ref 227, .int 0, .ref 228, .ref 229, .ref 230, .ref 231, .ref 232]) rfl e191_44 rfl rfl rfl rfl (fun h45 o45 f45 => ?_)
  have s45 := s44.put f45
  refine s_iinc (y := 11) (lv' := [(2, .int 11), (0, .ref 191), (1, .int 14)]) rfl rfl (by decide) (by decide) rfl ?_
  refine q_goto rfl ?_
  refine q_iload_n rfl rfl ?_
  refine q_iload_n rfl rfl ?_
  refine q_icmp_ge rfl (fun c => absurd c (by decide)) (fun _ => ?_)
  refine q_aload_n rfl rfl ?_
  refine s_get (v := .ref 193) rfl o45 rfl rfl ?_
  refine q_aload_n rfl rfl ?_
  refine s_get (v := .int 11) rfl o45 rfl rfl ?_
  refine q_aload_n rfl rfl ?_
  refine s_get (v := .ref 192) rfl o45 rfl rfl ?_
  refine q_iload_n rfl rfl ?_
  have e192_45 := (f45.ne rfl (f44.ne rfl e192_43))
  refine s_iaload (j := 11) (v := .int 0) rfl e192_45 (by decide) rfl (by first | rfl | decide) ?_
  have e193_45 := (f45.ne rfl o44)
  refine s_iastore (j := 11) rfl e193_45 (by decide) rfl (fun h46 o46 f46 => ?_)
  have s46 := s45.put f46
  refine q_aload_n rfl rfl ?_
  refine q_dup rfl rfl ?_
  have e191_46 := (o45.ne f46 rfl)
  refine s_get (v := .int 11) rfl e191_46 rfl rfl ?_
  refine q_iconst rfl ?_
  refine s_iadd (k := 12) rfl (by decide) ?_
  refine s_put (vs' := [.int 0, .ref 192, .ref 193, .int 12, .ref 194, .ref 195, .ref 196, .ref 197, .ref 198, .ref 199, .ref 200, .ref 201, .ref 202, .ref 203, .ref 204, .ref 205, .int (-1), .int 0, .ref 206, .ref 207, .ref 208, .ref 209, .ref 210, .ref 211, .ref 212, .ref 213, .ref 214, .ref 215, .int 0, .int 0, .int 0, .int 0, .ref 216, .ref 217, .ref 218, .ref 219, .ref 220, .int (-1), .int 0, .int 0, .int 0, .int 0, .int 0, .int 0, .ref 221, .ref 222, .ref 223, .ref 224, .int 0, .ref 225, .int 0, .ref 226, .ref 227, .int 0, .ref 228, .ref 229, .ref 230, .ref 231, .ref 232]) rfl e191_46 rfl rfl rfl rfl (fun h47 o47 f47 => ?_)
  have s47 := s46.put f47
  refine s_iinc (y := 12) (lv' := [(2, .int 12), (0, .ref 191), (1, .int 14)]) rfl rfl (by decide) (by decide) rfl ?_
  refine q_goto rfl ?_
  refine q_iload_n rfl rfl ?_
  refine q_iload_n rfl rfl ?_
  refine q_icmp_ge rfl (fun c => absurd c (by decide)) (fun _ => ?_)
  refine q_aload_n rfl rfl ?_
  refine s_get (v := .ref 193) rfl o47 rfl rfl ?_
  refine q_aload_n rfl rfl ?_
  refine s_get (v := .int 12) rfl o47 rfl rfl ?_
  refine q_aload_n rfl rfl ?_
  refine s_get (v := .ref 192) rfl o47 rfl rfl ?_
  refine q_iload_n rfl rfl ?_
  have e192_47 := (f47.ne rfl (f46.ne rfl e192_45))
  refine s_iaload (j := 12) (v := .int 0) rfl e192_47 (by decide) rfl (by first | rfl | decide) ?_
  have e193_47 := (f47.ne rfl o46)
  refine s_iastore (j := 12) rfl e193_47 (by decide) rfl (fun h48 o48 f48 => ?_)
  have s48 := s47.put f48
  refine q_aload_n rfl rfl ?_
  refine q_dup rfl rfl ?_
  have e191_48 := (o47.ne f48 rfl)
  refine s_get (v := .int 12) rfl e191_48 rfl rfl ?_
  refine q_iconst rfl ?_
  refine s_iadd (k := 13) rfl (by decide) ?_
  refine s_put (vs' := [.int 0, .ref 192, .ref 193, .int 13, .ref 194, .ref 195, .ref 196, .ref 197, .ref 198, .ref 199, .ref 200, .ref 201, .ref 202, .ref 203, .ref 204, .ref 205, .int (-1), .int 0, .ref 206, .ref 207, .ref 208, .ref 209, .ref 210, .ref 211, .ref 212, .ref 213, .ref 214, .ref 215, .int 0, .int 0, .int 0, .int 0, .ref 216, .ref 217, .ref 218, .ref 219, .ref 220, .int (-1), .int 0, .int 0, .int 0, .int 0, .int 0, .int 0, .ref 221, .ref 222, .ref 223, .ref 224, .int 0, .ref 225, .int 0, .ref 226, .ref 227, .int 0, .ref 228, .ref 229, .ref 230, .ref 231, .ref 232]) rfl e191_48 rfl rfl rfl rfl (fun h49 o49 f49 => ?_)
  have s49 := s48.put f49
  refine s_iinc (y := 13) (lv' := [(2, .int 13), (0, .ref 191), (1, .int 14)]) rfl rfl (by decide) (by decide) rfl ?_
  refine q_goto rfl ?_
  refine q_iload_n rfl rfl ?_
  refine q_iload_n rfl rfl ?_
  refine q_icmp_ge rfl (fun c => absurd c (by decide)) (fun _ => ?_)
  refine q_aload_n rfl rfl ?_
  refine s_get (v := .ref 193) rfl o49 rfl rfl ?_
  refine q_aload_n rfl rfl ?_
  refine s_get (v := .int 13) rfl o49 rfl rfl ?_
  refine q_aload_n rfl rfl ?_
  refine s_get (v := .ref 192) rfl o49 rfl rfl ?_
  refine q_iload_n rfl rfl ?_
  have e192_49 := (f49.ne rfl (f48.ne rfl e192_47))
  refine s_iaload (j := 13) (v := .int 0) rfl e192_49 (by decide) rfl (by first | rfl | decide) ?_
  have e193_49 := (f49.ne rfl o48)
  refine s_iastore (j := 13) rfl e193_49 (by decide) rfl (fun h50 o50 f50 => ?_)
  have s50 := s49.put f50
  refine q_aload_n rfl rfl ?_
  refine q_dup rfl rfl ?_
  have e191_50 := (o49.ne f50 rfl)
  refine s_get (v := .int 13) rfl e191_50 rfl rfl ?_
  refine q_iconst rfl ?_
  refine s_iadd (k := 14) rfl (by decide) ?_
  refine s_put (vs' := [.int 0, .ref 192, .ref 193, .int 14, .ref 194, .ref 195, .ref 196, .ref 197, .ref 198, .ref 199, .ref 200, .ref 201, .ref 202, .ref 203, .ref 204, .ref 205, .int (-1), .int 0, .ref 206, .ref 207, .ref 208, .ref 209, .ref 210, .ref 211, .ref 212, .ref 213, .ref 214, .ref 215, .int 0, .int 0, .int 0, .int 0, .ref 216, .ref 217, .ref 218, .ref 219, .ref 220, .int (-1), .int 0, .int 0, .int 0, .int 0, .int 0, .int 0, .ref 221, .ref 222, .ref 223, .ref 224, .int 0, .ref 225, .int 0, .ref 226, .ref 227, .int 0, .ref 228, .ref 229, .ref 230, .ref 231, .ref 232]) rfl e191_50 rfl rfl rfl rfl (fun h51 o51 f51 => ?_)
  have s51 := s50.put f51
  refine s_iinc (y := 14) (lv' := [(2, .int 14), (0, .ref 191), (1, .int 14)]) rfl rfl (by decide) (by decide) rfl ?_
  refine q_goto rfl ?_
  refine q_iload_n rfl rfl ?_
  refine q_iload_n rfl rfl ?_
  refine q_icmp_ge rfl (fun _ => ?_) (fun c => absurd (by decide) c)
  refine q_iconst rfl ?_
  refine s_istore_n (lv' := [(2, .int 0), (0, .ref 191), (1, .int 14)]) rfl (by decide) rfl ?_
  refine q_iload_n rfl rfl ?_
  refine q_bipush rfl ?_
  refine q_icmp_ge rfl (fun c => absurd c (by decide)) (fun _ => ?_)
  refine q_aload_n rfl rfl ?_
  refine s_get (v := .ref 192) rfl o51 rfl rfl ?_
  refine q_iload_n rfl rfl ?_
  refine q_iconst rfl ?_
  have e192_51 := (f51.ne rfl (f50.ne rfl e192_49))
  refine s_iastore (j := 0) rfl e192_51 (by decide) rfl (fun h52 o52 f52 => ?_)
  have s52 := s51.put f52
  refine s_iinc (y := 1) (lv' := [(2, .int 1), (0, .ref 191), (1, .int 14)]) rfl rfl (by decide) (by decide) rfl ?_
  refine q_goto rfl ?_
  refine q_iload_n rfl rfl ?_
  refine q_bipush rfl ?_
  refine q_icmp_ge rfl (fun c => absurd c (by decide)) (fun _ => ?_)
  refine q_aload_n rfl rfl ?_
  have e191_52 := (o51.ne f52 rfl)
  refine s_get (v := .ref 192) rfl e191_52 rfl rfl ?_
  refine q_iload_n rfl rfl ?_
  refine q_iconst rfl ?_
  refine s_iastore (j := 1) rfl o52 (by decide) rfl (fun h53 o53 f53 => ?_)
  have s53 := s52.put f53
  refine s_iinc (y := 2) (lv' := [(2, .int 2), (0, .ref 191), (1, .int 14)]) rfl rfl (by decide) (by decide) rfl ?_
  refine q_goto rfl ?_
  refine q_iload_n rfl rfl ?_
  refine q_bipush rfl ?_
  refine q_icmp_ge rfl (fun c => absurd c (by decide)) (fun _ => ?_)
  refine q_aload_n rfl rfl ?_
  have e191_53 := (e191_52.ne f53 rfl)
  refine s_get (v := .ref 192) rfl e191_53 rfl rfl ?_
  refine q_iload_n rfl rfl ?_
  refine q_iconst rfl ?_
  refine s_iastore (j := 2) rfl o53 (by decide) rfl (fun h54 o54 f54 => ?_)
  have s54 := s53.put f54
  refine s_iinc (y := 3) (lv' := [(2, .int 3), (0, .ref 191), (1, .int 14)]) rfl rfl (by decide) (by decide) rfl ?_
  refine q_goto rfl ?_
  refine q_iload_n rfl rfl ?_
  refine q_bipush rfl ?_
  refine q_icmp_ge rfl (fun c => absurd c (by decide)) (fun _ => ?_)
  refine q_aload_n rfl rfl ?_
  have e191_54 := (e191_53.ne f54 rfl)
  refine s_get (v := .ref 192) rfl e191_54 rfl rfl ?_
  refine q_iload_n rfl rfl ?_
  refine q_iconst rfl ?_
  refine s_iastore (j := 3) rfl o54 (by decide) rfl (fun h55 o55 f55 => ?_)
  have s55 := s54.put f55
  refine s_iinc (y := 4) (lv' := [(2, .int 4), (0, .ref 191), (1, .int 14)]) rfl rfl (by decide) (by decide) rfl ?_
  refine q_goto rfl ?_
  refine q_iload_n rfl rfl ?_
  refine q_bipush rfl ?_
  refine q_icmp_ge rfl (fun c => absurd c (by decide)) (fun _ => ?_)
  refine q_aload_n rfl rfl ?_
  have e191_55 := (e191_54.ne f55 rfl)
  refine s_get (v := .ref 192) rfl e191_55 rfl rfl ?_
  refine q_iload_n rfl rfl ?_
  refine q_iconst rfl ?_
  refine s_iastore (j := 4) rfl o55 (by decide) rfl (fun h56 o56 f56 => ?_)
  have s56 := s55.put f56
  refine s_iinc (y := 5) (lv' := [(2, .int 5), (0, .ref 191), (1, .int 14)]) rfl rfl (by decide) (by decide) rfl ?_
  refine q_goto rfl ?_
  refine q_iload_n rfl rfl ?_
  refine q_bipush rfl ?_
  refine q_icmp_ge rfl (fun c => absurd c (by decide)) (fun _ => ?_)
  refine q_aload_n rfl rfl ?_
  have e191_56 := (e191_55.ne f56 rfl)
  refine s_get (v := .ref 192) rfl e191_56 rfl rfl ?_
  refine q_iload_n rfl rfl ?_
  refine q_iconst rfl ?_
  refine s_iastore (j := 5) rfl o56 (by decide) rfl (fun h57 o57 f57 => ?_)
  have s57 := s56.put f57
  refine s_iinc (y := 6) (lv' := [(2, .int 6), (0, .ref 191), (1, .int 14)]) rfl rfl (by decide) (by decide) rfl ?_
  refine q_goto rfl ?_
  refine q_iload_n rfl rfl ?_
  refine q_bipush rfl ?_
  refine q_icmp_ge rfl (fun c => absurd c (by decide)) (fun _ => ?_)
  refine q_aload_n rfl rfl ?_
  have e191_57 := (e191_56.ne f57 rfl)
  refine s_get (v := .ref 192) rfl e191_57 rfl rfl ?_
  refine q_iload_n rfl rfl ?_
  refine q_iconst rfl ?_
  refine s_iastore (j := 6) rfl o57 (by decide) rfl (fun h58 o58 f58 => ?_)
  have s58 := s57.put f58
  refine s_iinc (y := 7) (lv' := [(2, .int 7), (0, .ref 191), (1, .int 14)]) rfl rfl (by decide) (by decide) rfl ?_
  refine q_goto rfl ?_
  refine q_iload_n rfl rfl ?_
  refine q_bipush rfl ?_
  refine q_icmp_ge rfl (fun c => absurd c (by decide)) (fun _ => ?_)
  refine q_aload_n rfl rfl ?_
  have e191_58 := (e191_57.ne f58 rfl)
  refine s_get (v := .ref 192) rfl e191_58 rfl rfl ?_
  refine q_iload_n rfl rfl ?_
  refine q_iconst rfl ?_
  refine s_iastore (j := 7) rfl o58 (by decide) rfl (fun h59 o59 f59 => ?_)
  have s59 := s58.put f59
  refine s_iinc (y := 8) (lv' := [(2, .int 8), (0, .ref 191), (1, .int 14)]) rfl rfl (by decide) (by decide) rfl ?_
  refine q_goto rfl ?_
  refine q_iload_n rfl rfl ?_
  refine q_bipush rfl ?_
  refine q_icmp_ge rfl (fun c => absurd c (by decide)) (fun _ => ?_)
  refine q_aload_n rfl rfl ?_
  have e191_59 := (e191_58.ne f59 rfl)
  refine s_get (v := .ref 192) rfl e191_59 rfl rfl ?_
  refine q_iload_n rfl rfl ?_
  refine q_iconst rfl ?_
  refine s_iastore (j := 8) rfl o59 (by decide) rfl (fun h60 o60 f60 => ?_)
  have s60 := s59.put f60
  refine s_iinc (y := 9) (lv' := [(2, .int 9), (0, .ref 191), (1, .int 14)]) rfl rfl (by decide) (by decide) rfl ?_
  refine q_goto rfl ?_
  refine q_iload_n rfl rfl ?_
  refine q_bipush rfl ?_
  refine q_icmp_ge rfl (fun c => absurd c (by decide)) (fun _ => ?_)
  refine q_aload_n rfl rfl ?_
  have e191_60 := (e191_59.ne f60 rfl)
  refine s_get (v := .ref 192) rfl e191_60 rfl rfl ?_
  refine q_iload_n rfl rfl ?_
  refine q_iconst rfl ?_
  refine s_iastore (j := 9) rfl o60 (by decide) rfl (fun h61 o61 f61 => ?_)
  have s61 := s60.put f61
  refine s_iinc (y := 10) (lv' := [(2, .int 10), (0, .ref 191), (1, .int 14)]) rfl rfl (by decide) (by decide) rfl ?_
  refine q_goto rfl ?_
  refine q_iload_n rfl rfl ?_
  refine q_bipush rfl ?_
  refine q_icmp_ge rfl (fun c => absurd c (by decide)) (fun _ => ?_)
  refine q_aload_n rfl rfl ?_
  have e191_61 := (e191_60.ne f61 rfl)
  refine s_get (v := .ref 192) rfl e191_61 rfl rfl ?_
  refine q_iload_n rfl rfl ?_
  refine q_iconst rfl ?_
  refine s_iastore (j := 10) rfl o61 (by decide) rfl (fun h62 o62 f62 => ?_)
  have s62 := s61.put f62
  refine s_iinc (y := 11) (lv' := [(2, .int 11), (0, .ref 191), (1, .int 14)]) rfl rfl (by decide) (by decide) rfl ?_
  refine q_goto rfl ?_
  refine q_iload_n rfl rfl ?_
  refine q_bipush rfl ?_
  refine q_icmp_ge rfl (fun c => absurd c (by decide)) (fun _ => ?_)
  refine q_aload_n rfl rfl ?_
  have e191_62 := (e191_61.ne f62 rfl)
  refine s_get (v := .ref 192) rfl e191_62 rfl rfl ?_
  refine q_iload_n rfl rfl ?_
  refine q_iconst rfl ?_
  refine s_iastore (j := 11) rfl o62 (by decide) rfl (fun h63 o63 f63 => ?_)
  have s63 := s62.put f63
  refine s_iinc (y := 12) (lv' := [(2, .int 12), (0, .ref 191), (1, .int 14)]) rfl rfl (by decide) (by decide) rfl ?_
  refine q_goto rfl ?_
  refine q_iload_n rfl rfl ?_
  refine q_bipush rfl ?_
  refine q_icmp_ge rfl (fun c => absurd c (by decide)) (fun _ => ?_)
  refine q_aload_n rfl rfl ?_
  have e191_63 := (e191_62.ne f63 rfl)
  refine s_get (v := .ref 192) rfl e191_63 rfl rfl ?_
  refine q_iload_n rfl rfl ?_
  refine q_iconst rfl ?_
  refine s_iastore (j := 12) rfl o63 (by decide) rfl (fun h64 o64 f64 => ?_)
  have s64 := s63.put f64
  refine s_iinc (y := 13) (lv' := [(2, .int 13), (0, .ref 191), (1, .int 14)]) rfl rfl (by decide) (by decide) rfl ?_
  refine q_goto rfl ?_
  refine q_iload_n rfl rfl ?_
  refine q_bipush rfl ?_
  refine q_icmp_ge rfl (fun c => absurd c (by decide)) (fun _ => ?_)
  refine q_aload_n rfl rfl ?_
  have e191_64 := (e191_63.ne f64 rfl)
  refine s_get (v := .ref 192) rfl e191_64 rfl rfl ?_
  refine q_iload_n rfl rfl ?_
  refine q_iconst rfl ?_
  refine s_iastore (j := 13) rfl o64 (by decide) rfl (fun h65 o65 f65 => ?_)
  have s65 := s64.put f65
  refine s_iinc (y := 14) (lv' := [(2, .int 14), (0, .ref 191), (1, .int 14)]) rfl rfl (by decide) (by decide) rfl ?_
  refine q_goto rfl ?_
  refine q_iload_n rfl rfl ?_
  refine q_bipush rfl ?_
  refine q_icmp_ge rfl (fun c => absurd c (by decide)) (fun _ => ?_)
  refine q_aload_n rfl rfl ?_
  have e191_65 := (e191_64.ne f65 rfl)
  refine s_get (v := .ref 192) rfl e191_65 rfl rfl ?_
  refine q_iload_n rfl rfl ?_
  refine q_iconst rfl ?_
  refine s_iastore (j := 14) rfl o65 (by decide) rfl (fun h66 o66 f66 => ?_)
  have s66 := s65.put f66
  refine s_iinc (y := 15) (lv' := [(2, .int 15), (0, .ref 191), (1, .int 14)]) rfl rfl (by decide) (by decide) rfl ?_
  refine q_goto rfl ?_
  refine q_iload_n rfl rfl ?_
  refine q_bipush rfl ?_
  refine q_icmp_ge rfl (fun c => absurd c (by decide)) (fun _ => ?_)
  refine q_aload_n rfl rfl ?_
  have e191_66 := (e191_65.ne f66 rfl)
  refine s_get (v := .ref 192) rfl e191_66 rfl rfl ?_
  refine q_iload_n rfl rfl ?_
  refine q_iconst rfl ?_
  refine s_iastore (j := 15) rfl o66 (by decide) rfl (fun h67 o67 f67 => ?_)
  have s67 := s66.put f67
  refine s_iinc (y := 16) (lv' := [(2, .int 16), (0, .ref 191), (1, .int 14)]) rfl rfl (by decide) (by decide) rfl ?_
  refine q_goto rfl ?_
  refine q_iload_n rfl rfl ?_
  refine q_bipush rfl ?_
  refine q_icmp_ge rfl (fun c => absurd c (by decide)) (fun _ => ?_)
  refine q_aload_n rfl rfl ?_
  have e191_67 := (e191_66.ne f67 rfl)
  refine s_get (v := .ref 192) rfl e191_67 rfl rfl ?_
  refine q_iload_n rfl rfl ?_
  refine q_iconst rfl ?_
  refine s_iastore (j := 16) rfl o67 (by decide) rfl (fun h68 o68 f68 => ?_)
  have s68 := s67.put f68
  refine s_iinc (y := 17) (lv' := [(2, .int 17), (0, .ref 191), (1, .int 14)]) rfl rfl (by decide) (by decide) rfl ?_
  refine q_goto rfl ?_
  refine q_iload_n rfl rfl ?_
  refine q_bipush rfl ?_
  refine q_icmp_ge rfl (fun c => absurd c (by decide)) (fun _ => ?_)
  refine q_aload_n rfl rfl ?_
  have e191_68 := (e191_67.ne f68 rfl)
  refine s_get (v := .ref 192) rfl e191_68 rfl rfl ?_
  refine q_iload_n rfl rfl ?_
  refine q_iconst rfl ?_
  refine s_iastore (j := 17) rfl o68 (by decide) rfl (fun h69 o69 f69 => ?_)
  have s69 := s68.put f69
  refine s_iinc (y := 18) (lv' := [(2, .int 18), (0, .ref 191), (1, .int 14)]) rfl rfl (by decide) (by decide) rfl ?_
  refine q_goto rfl ?_
  refine q_iload_n rfl rfl ?_
  refine q_bipush rfl ?_
  refine q_icmp_ge rfl (fun c => absurd c (by decide)) (fun _ => ?_)
  refine q_aload_n rfl rfl ?_
  have e191_69 := (e191_68.ne f69 rfl)
  refine s_get (v := .ref 192) rfl e191_69 rfl rfl ?_
  refine q_iload_n rfl rfl ?_
  refine q_iconst rfl ?_
  refine s_iastore (j := 18) rfl o69 (by decide) rfl (fun h70 o70 f70 => ?_)
  have s70 := s69.put f70
  refine s_iinc (y := 19) (lv' := [(2, .int 19), (0, .ref 191), (1, .int 14)]) rfl rfl (by decide) (by decide) rfl ?_
  refine q_goto rfl ?_
  refine q_iload_n rfl rfl ?_
  refine q_bipush rfl ?_
  refine q_icmp_ge rfl (fun c => absurd c (by decide)) (fun _ => ?_)
  refine q_aload_n rfl rfl ?_
  have e191_70 := (e191_69.ne f70 rfl)
  refine s_get (v := .ref 192) rfl e191_70 rfl rfl ?_
  refine q_iload_n rfl rfl ?_
  refine q_iconst rfl ?_
  refine s_iastore (j := 19) rfl o70 (by decide) rfl (fun h71 o71 f71 => ?_)
  have s71 := s70.put f71
  refine s_iinc (y := 20) (lv' := [(2, .int 20), (0, .ref 191), (1, .int 14)]) rfl rfl (by decide) (by decide) rfl ?_
  refine q_goto rfl ?_
  refine q_iload_n rfl rfl ?_
  refine q_bipush rfl ?_
  refine q_icmp_ge rfl (fun _ => ?_) (fun c => absurd (by decide) c)
  refine q_aload_n rfl rfl ?_
  have e191_71 := (e191_70.ne f71 rfl)
  refine s_get (v := .int 14) rfl e191_71 rfl rfl ?_
  refine q_ireturn rfl rfl ?_
  show aW aiP 0 17 658 243 [(4, .int 0), (3, .ref 233), (2, .ref 191), (1, .ref 6), (0, .ref 0)] [.int 14, .int 14] h71 _
  refine q_icmp_eq rfl (fun _ => ?_) (fun c => absurd (by decide) c)
  refine s_iinc (y := 6) (lv' := [(4, .int 6), (3, .ref 233), (2, .ref 191), (1, .ref 6), (0, .ref 0)]) rfl rfl (by decide) (by decide) rfl ?_
  refine q_goto rfl ?_
  refine q_iload rfl rfl ?_
  refine q_aload_n rfl rfl ?_
  have e0_71 := (f71.ne rfl (f70.ne rfl (f69.ne rfl (f68.ne rfl (f67.ne rfl (f66.ne rfl (f65.ne rfl (f64.ne rfl (f63.ne rfl (f62.ne rfl (f61.ne rfl (f60.ne rfl (f59.ne rfl (f58.ne rfl (f57.ne rfl (f56.ne rfl (f55.ne rfl (f54.ne rfl (f53.ne rfl (f52.ne rfl (f51.ne rfl (f50.ne rfl (f49.ne rfl (f48.ne rfl (f47.ne rfl (f46.ne rfl (f45.ne rfl (f44.ne rfl (f43.ne rfl (f42.ne rfl (f41.ne rfl (f40.ne rfl (f39.ne rfl (f38.ne rfl (f37.ne rfl (f36.ne rfl (f35.ne rfl (f34.ne rfl (f33.ne rfl (f32.ne rfl (f31.ne rfl (f30.ne rfl (f29.ne rfl (f28.ne rfl (f27.ne rfl (f26.ne rfl (f25.ne rfl (f24.ne rfl (f23.ne rfl e0_22)))))))))))))))))))))))))))))))))))))))))))))))))
  refine s_alen (x := 6) rfl e0_71 rfl (by decide) ?_
  refine q_bipush rfl ?_
  refine s_isub (k := 0) rfl (by decide) ?_
  refine q_icmp_gt rfl (fun _ => ?_) (fun c => absurd (by decide) c)
  refine q_iconst rfl ?_
  refine q_ireturn rfl rfl ?_
  exact ⟨rfl, s71.bd rfl⟩
set_option maxRecDepth 20000 in
set_option maxHeartbeats 4000000 in
theorem p_case1_15 {xs : Nat → Int32} {h : ai_H} (F : Fresh 6 xs h) (hk : xs 0 &&& 31 = 1) (hw : xs 1 = 15) : aW aiP 0 17 658 33 [(4, .int 0), (3, .ref 233), (2, .ref 191), (1, .ref 6), (0, .ref 0)] [] h p_Q := by
  obtain ⟨e0, e1, ⟨g2, e2⟩, ⟨g3, e3⟩, ⟨g4, e4⟩, e5, e6, e7, e8, e9, e51, e93, e135, e177, e178, e179, e180, e181, e182, e183, e184, e185, e186, e187, e188, e189, e190, e191, e192, e193, e194, e195, e196, e197, e198, e199, e200, e201, e202, e203, e204, e205, e206, e207, e208, e209, e210, e211, e212, e213, e214, e215, e216, e217, e218, e219, e220, e221, e222, e223, e224, e225, e226, e227, ⟨g228, e228⟩, ⟨g229, e229⟩, e230, e231, e232, e233, s0⟩ := F
  refine q_aload_n rfl rfl ?_
  refine q_iload rfl rfl ?_
  refine s_iaload (j := 0) (v := .int (xs 0)) rfl e0 (by decide) rfl (by first | rfl | decide) ?_
  refine q_bipush rfl ?_
  refine s_iand (k := ((xs 0) &&& (31 : Int32))) rfl rfl ?_
  rw [hk]
  show aW aiP 0 17 658 40 [(4, .int 0), (3, .ref 233), (2, .ref 191), (1, .ref 6), (0, .ref 0)] [.int 1] h _
  refine s_sw (tg := 223) rfl rfl ?_
  refine q_aload_n rfl rfl ?_
  refine q_aload_n rfl rfl ?_
  refine q_iload rfl rfl ?_
  refine q_iconst rfl ?_
  refine s_iadd (k := 1) rfl (by decide) ?_
  refine s_iaload (j := 1) (v := .int (xs 1)) rfl e0 (by decide) rfl (by first | rfl | decide) ?_
  rw [hw]
  refine s_callV (as := [.int 15]) (rest := []) (d' := 16) (w' := 637) (lv' := [(0, .ref 6), (1, .int 15)]) rfl e6 rfl rfl rfl rfl rfl rfl ?_
  refine q_iload_n rfl rfl ?_
  refine q_if_lt rfl (fun c => absurd c (by decide)) (fun _ => ?_)
  refine q_iload_n rfl rfl ?_
  refine q_bipush rfl ?_
  refine q_icmp_gt rfl (fun c => absurd c (by decide)) (fun _ => ?_)
  refine q_aload_n rfl rfl ?_
  refine s_get (v := .int 0) rfl e6 rfl rfl ?_
  refine q_iload_n rfl rfl ?_
  refine s_iadd (k := 15) rfl (by decide) ?_
  refine q_sipush rfl ?_
  refine q_icmp_le rfl (fun _ => ?_) (fun c => absurd (by decide) c)
  refine q_aload_n rfl rfl ?_
  refine s_get (v := .ref 7) rfl e6 rfl rfl ?_
  refine q_iconst rfl ?_
  refine q_aload_n rfl rfl ?_
  refine s_get (v := .ref 8) rfl e6 rfl rfl ?_
  refine q_aload_n rfl rfl ?_
  refine s_get (v := .int 0) rfl e6 rfl rfl ?_
  refine q_iload_n rfl rfl ?_
  refine s_copy (sp := 0) (dp := 0) (k := 15) rfl e7 e8 (by decide) (by decide) (by decide) rfl (by decide) (by decide) (by decide) (fun i _ => rfl) (fun h1 o1 f1 => ?_)
  have s1 := s0.put f1
  refine q_aload_n rfl rfl ?_
  refine q_dup rfl rfl ?_
  have e6_1 := (e6.ne f1 rfl)
  refine s_get (v := .int 0) rfl e6_1 rfl rfl ?_
  refine q_iload_n rfl rfl ?_
  refine s_iadd (k := 15) rfl (by decide) ?_
  refine s_put (vs' := [.ref 7, .ref 8, .int 15, .ref 9, .int (-1), .ref 51, .ref 93, .ref 135, .ref 177, .ref 180, .int 0, .ref 183, .ref 186, .ref 189]) rfl e6_1 rfl rfl rfl rfl (fun h2 o2 f2 => ?_)
  have s2 := s1.put f2
  refine q_aload_n rfl rfl ?_
  refine s_get (v := .ref 7) rfl o2 rfl rfl ?_
  refine q_iconst rfl ?_
  refine s_callS (as := [.ref 7, .int 0]) (rest := []) (d' := 15) (w' := 614) (lv' := [(0, .ref 7), (1, .int 0)]) rfl rfl rfl rfl rfl rfl rfl rfl ?_
  refine q_iconst rfl ?_
  refine s_istore_n (lv' := [(2, .int 0), (0, .ref 7), (1, .int 0)]) rfl (by decide) rfl ?_
  refine q_aload_n rfl rfl ?_
  have e7_2 := (f2.ne rfl (f1.ne rfl e7))
  refine s_alen (x := 20) rfl e7_2 rfl (by decide) ?_
  refine s_istore_n (lv' := [(3, .int 20), (2, .int 0), (0, .ref 7), (1, .int 0)]) rfl (by decide) rfl ?_
  refine q_iload_n rfl rfl ?_
  refine q_iload_n rfl rfl ?_
  refine q_icmp_ge rfl (fun c => absurd c (by decide)) (fun _ => ?_)
  refine q_aload_n rfl rfl ?_
  refine q_iload_n rfl rfl ?_
  refine q_iload_n rfl rfl ?_
  refine s_bastore (j := 0) rfl e7_2 (by decide) rfl (fun h3 o3 f3 => ?_)
  have s3 := s2.put f3
  refine s_iinc (y := 1) (lv' := [(2, .int 1), (3, .int 20), (0, .ref 7), (1, .int 0)]) rfl rfl (by decide) (by decide) rfl ?_
  refine q_goto rfl ?_
  refine q_iload_n rfl rfl ?_
  refine q_iload_n rfl rfl ?_
  refine q_icmp_ge rfl (fun c => absurd c (by decide)) (fun _ => ?_)
  refine q_aload_n rfl rfl ?_
  refine q_iload_n rfl rfl ?_
  refine q_iload_n rfl rfl ?_
  refine s_bastore (j := 1) rfl o3 (by decide) rfl (fun h4 o4 f4 => ?_)
  have s4 := s3.put f4
  refine s_iinc (y := 2) (lv' := [(2, .int 2), (3, .int 20), (0, .ref 7), (1, .int 0)]) rfl rfl (by decide) (by decide) rfl ?_
  refine q_goto rfl ?_
  refine q_iload_n rfl rfl ?_
  refine q_iload_n rfl rfl ?_
  refine q_icmp_ge rfl (fun c => absurd c (by decide)) (fun _ => ?_)
  refine q_aload_n rfl rfl ?_
  refine q_iload_n rfl rfl ?_
  refine q_iload_n rfl rfl ?_
  refine s_bastore (j := 2) rfl o4 (by decide) rfl (fun h5 o5 f5 => ?_)
  have s5 := s4.put f5
  refine s_iinc (y := 3) (lv' := [(2, .int 3), (3, .int 20), (0, .ref 7), (1, .int 0)]) rfl rfl (by decide) (by decide) rfl ?_
  refine q_goto rfl ?_
  refine q_iload_n rfl rfl ?_
  refine q_iload_n rfl rfl ?_
  refine q_icmp_ge rfl (fun c => absurd c (by decide)) (fun _ => ?_)
  refine q_aload_n rfl rfl ?_
  refine q_iload_n rfl rfl ?_
  refine q_iload_n rfl rfl ?_
  refine s_bastore (j := 3) rfl o5 (by decide) rfl (fun h6 o6 f6 => ?_)
  have s6 := s5.put f6
  refine s_iinc (y := 4) (lv' := [(2, .int 4), (3, .int 20), (0, .ref 7), (1, .int 0)]) rfl rfl (by decide) (by decide) rfl ?_
  refine q_goto rfl ?_
  refine q_iload_n rfl rfl ?_
  refine q_iload_n rfl rfl ?_
  refine q_icmp_ge rfl (fun c => absurd c (by decide)) (fun _ => ?_)
  refine q_aload_n rfl rfl ?_
  refine q_iload_n rfl rfl ?_
  refine q_iload_n rfl rfl ?_
  refine s_bastore (j := 4) rfl o6 (by decide) rfl (fun h7 o7 f7 => ?_)
  have s7 := s6.put f7
  refine s_iinc (y := 5) (lv' := [(2, .int 5), (3, .int 20), (0, .ref 7), (1, .int 0)]) rfl rfl (by decide) (by decide) rfl ?_
  refine q_goto rfl ?_
  refine q_iload_n rfl rfl ?_
  refine q_iload_n rfl rfl ?_
  refine q_icmp_ge rfl (fun c => absurd c (by decide)) (fun _ => ?_)
  refine q_aload_n rfl rfl ?_
  refine q_iload_n rfl rfl ?_
  refine q_iload_n rfl rfl ?_
  refine s_bastore (j := 5) rfl o7 (by decide) rfl (fun h8 o8 f8 => ?_)
  have s8 := s7.put f8
  refine s_iinc (y := 6) (lv' := [(2, .int 6), (3, .int 20), (0, .ref 7), (1, .int 0)]) rfl rfl (by decide) (by decide) rfl ?_
  refine q_goto rfl ?_
  refine q_iload_n rfl rfl ?_
  refine q_iload_n rfl rfl ?_
  refine q_icmp_ge rfl (fun c => absurd c (by decide)) (fun _ => ?_)
  refine q_aload_n rfl rfl ?_
  refine q_iload_n rfl rfl ?_
  refine q_iload_n rfl rfl ?_
  refine s_bastore (j := 6) rfl o8 (by decide) rfl (fun h9 o9 f9 => ?_)
  have s9 := s8.put f9
  refine s_iinc (y := 7) (lv' := [(2, .int 7), (3, .int 20), (0, .ref 7), (1, .int 0)]) rfl rfl (by decide) (by decide) rfl ?_
  refine q_goto rfl ?_
  refine q_iload_n rfl rfl ?_
  refine q_iload_n rfl rfl ?_
  refine q_icmp_ge rfl (fun c => absurd c (by decide)) (fun _ => ?_)
  refine q_aload_n rfl rfl ?_
  refine q_iload_n rfl rfl ?_
  refine q_iload_n rfl rfl ?_
  refine s_bastore (j := 7) rfl o9 (by decide) rfl (fun h10 o10 f10 => ?_)
  have s10 := s9.put f10
  refine s_iinc (y := 8) (lv' := [(2, .int 8), (3, .int 20), (0, .ref 7), (1, .int 0)]) rfl rfl (by decide) (by decide) rfl ?_
  refine q_goto rfl ?_
  refine q_iload_n rfl rfl ?_
  refine q_iload_n rfl rfl ?_
  refine q_icmp_ge rfl (fun c => absurd c (by decide)) (fun _ => ?_)
  refine q_aload_n rfl rfl ?_
  refine q_iload_n rfl rfl ?_
  refine q_iload_n rfl rfl ?_
  refine s_bastore (j := 8) rfl o10 (by decide) rfl (fun h11 o11 f11 => ?_)
  have s11 := s10.put f11
  refine s_iinc (y := 9) (lv' := [(2, .int 9), (3, .int 20), (0, .ref 7), (1, .int 0)]) rfl rfl (by decide) (by decide) rfl ?_
  refine q_goto rfl ?_
  refine q_iload_n rfl rfl ?_
  refine q_iload_n rfl rfl ?_
  refine q_icmp_ge rfl (fun c => absurd c (by decide)) (fun _ => ?_)
  refine q_aload_n rfl rfl ?_
  refine q_iload_n rfl rfl ?_
  refine q_iload_n rfl rfl ?_
  refine s_bastore (j := 9) rfl o11 (by decide) rfl (fun h12 o12 f12 => ?_)
  have s12 := s11.put f12
  refine s_iinc (y := 10) (lv' := [(2, .int 10), (3, .int 20), (0, .ref 7), (1, .int 0)]) rfl rfl (by decide) (by decide) rfl ?_
  refine q_goto rfl ?_
  refine q_iload_n rfl rfl ?_
  refine q_iload_n rfl rfl ?_
  refine q_icmp_ge rfl (fun c => absurd c (by decide)) (fun _ => ?_)
  refine q_aload_n rfl rfl ?_
  refine q_iload_n rfl rfl ?_
  refine q_iload_n rfl rfl ?_
  refine s_bastore (j := 10) rfl o12 (by decide) rfl (fun h13 o13 f13 => ?_)
  have s13 := s12.put f13
  refine s_iinc (y := 11) (lv' := [(2, .int 11), (3, .int 20), (0, .ref 7), (1, .int 0)]) rfl rfl (by decide) (by decide) rfl ?_
  refine q_goto rfl ?_
  refine q_iload_n rfl rfl ?_
  refine q_iload_n rfl rfl ?_
  refine q_icmp_ge rfl (fun c => absurd c (by decide)) (fun _ => ?_)
  refine q_aload_n rfl rfl ?_
  refine q_iload_n rfl rfl ?_
  refine q_iload_n rfl rfl ?_
  refine s_bastore (j := 11) rfl o13 (by decide) rfl (fun h14 o14 f14 => ?_)
  have s14 := s13.put f14
  refine s_iinc (y := 12) (lv' := [(2, .int 12), (3, .int 20), (0, .ref 7), (1, .int 0)]) rfl rfl (by decide) (by decide) rfl ?_
  refine q_goto rfl ?_
  refine q_iload_n rfl rfl ?_
  refine q_iload_n rfl rfl ?_
  refine q_icmp_ge rfl (fun c => absurd c (by decide)) (fun _ => ?_)
  refine q_aload_n rfl rfl ?_
  refine q_iload_n rfl rfl ?_
  refine q_iload_n rfl rfl ?_
  refine s_bastore (j := 12) rfl o14 (by decide) rfl (fun h15 o15 f15 => ?_)
  have s15 := s14.put f15
  refine s_iinc (y := 13) (lv' := [(2, .int 13), (3, .int 20), (0, .ref 7), (1, .int 0)]) rfl rfl (by decide) (by decide) rfl ?_
  refine q_goto rfl ?_
  refine q_iload_n rfl rfl ?_
  refine q_iload_n rfl rfl ?_
  refine q_icmp_ge rfl (fun c => absurd c (by decide)) (fun _ => ?_)
  refine q_aload_n rfl rfl ?_
  refine q_iload_n rfl rfl ?_
  refine q_iload_n rfl rfl ?_
  refine s_bastore (j := 13) rfl o15 (by decide) rfl (fun h16 o16 f16 => ?_)
  have s16 := s15.put f16
  refine s_iinc (y := 14) (lv' := [(2, .int 14), (3, .int 20), (0, .ref 7), (1, .int 0)]) rfl rfl (by decide) (by decide) rfl ?_
  refine q_goto rfl ?_
  refine q_iload_n rfl rfl ?_
  refine q_iload_n rfl rfl ?_
  refine q_icmp_ge rfl (fun c => absurd c (by decide)) (fun _ => ?_)
  refine q_aload_n rfl rfl ?_
  refine q_iload_n rfl rfl ?_
  refine q_iload_n rfl rfl ?_
  refine s_bastore (j := 14) rfl o16 (by decide) rfl (fun h17 o17 f17 => ?_)
  have s17 := s16.put f17
  refine s_iinc (y := 15) (lv' := [(2, .int 15), (3, .int 20), (0, .ref 7), (1, .int 0)]) rfl rfl (by decide) (by decide) rfl ?_
  refine q_goto rfl ?_
  refine q_iload_n rfl rfl ?_
  refine q_iload_n rfl rfl ?_
  refine q_icmp_ge rfl (fun c => absurd c (by decide)) (fun _ => ?_)
  refine q_aload_n rfl rfl ?_
  refine q_iload_n rfl rfl ?_
  refine q_iload_n rfl rfl ?_
  refine s_bastore (j := 15) rfl o17 (by decide) rfl (fun h18 o18 f18 => ?_)
  have s18 := s17.put f18
  refine s_iinc (y := 16) (lv' := [(2, .int 16), (3, .int 20), (0, .ref 7), (1, .int 0)]) rfl rfl (by decide) (by decide) rfl ?_
  refine q_goto rfl ?_
  refine q_iload_n rfl rfl ?_
  refine q_iload_n rfl rfl ?_
  refine q_icmp_ge rfl (fun c => absurd c (by decide)) (fun _ => ?_)
  refine q_aload_n rfl rfl ?_
  refine q_iload_n rfl rfl ?_
  refine q_iload_n rfl rfl ?_
  refine s_bastore (j := 16) rfl o18 (by decide) rfl (fun h19 o19 f19 => ?_)
  have s19 := s18.put f19
  refine s_iinc (y := 17) (lv' := [(2, .int 17), (3, .int 20), (0, .ref 7), (1, .int 0)]) rfl rfl (by decide) (by decide) rfl ?_
  refine q_goto rfl ?_
  refine q_iload_n rfl rfl ?_
  refine q_iload_n rfl rfl ?_
  refine q_icmp_ge rfl (fun c => absurd c (by decide)) (fun _ => ?_)
  refine q_aload_n rfl rfl ?_
  refine q_iload_n rfl rfl ?_
  refine q_iload_n rfl rfl ?_
  refine s_bastore (j := 17) rfl o19 (by decide) rfl (fun h20 o20 f20 => ?_)
  have s20 := s19.put f20
  refine s_iinc (y := 18) (lv' := [(2, .int 18), (3, .int 20), (0, .ref 7), (1, .int 0)]) rfl rfl (by decide) (by decide) rfl ?_
  refine q_goto rfl ?_
  refine q_iload_n rfl rfl ?_
  refine q_iload_n rfl rfl ?_
  refine q_icmp_ge rfl (fun c => absurd c (by decide)) (fun _ => ?_)
  refine q_aload_n rfl rfl ?_
  refine q_iload_n rfl rfl ?_
  refine q_iload_n rfl rfl ?_
  refine s_bastore (j := 18) rfl o20 (by decide) rfl (fun h21 o21 f21 => ?_)
  have s21 := s20.put f21
  refine s_iinc (y := 19) (lv' := [(2, .int 19), (3, .int 20), (0, .ref 7), (1, .int 0)]) rfl rfl (by decide) (by decide) rfl ?_
  refine q_goto rfl ?_
  refine q_iload_n rfl rfl ?_
  refine q_iload_n rfl rfl ?_
  refine q_icmp_ge rfl (fun c => absurd c (by decide)) (fun _ => ?_)
  refine q_aload_n rfl rfl ?_
  refine q_iload_n rfl rfl ?_
  refine q_iload_n rfl rfl ?_
  refine s_bastore (j := 19) rfl o21 (by decide) rfl (fun h22 o22 f22 => ?_)
  have s22 := s21.put f22
  refine s_iinc (y := 20) (lv' := [(2, .int 20), (3, .int 20), (0, .ref 7), (1, .int 0)]) rfl rfl (by decide) (by decide) rfl ?_
  refine q_goto rfl ?_
  refine q_iload_n rfl rfl ?_
  refine q_iload_n rfl rfl ?_
  refine q_icmp_ge rfl (fun _ => ?_) (fun c => absurd (by decide) c)
  refine q_return rfl rfl ?_
  show aW aiP 15 16 637 59 [(0, .ref 6), (1, .int 15)] [] h22 _
  refine q_aload_n rfl rfl ?_
  have e6_22 := ((((((((((((((((((((o2.ne f3 rfl).ne f4 rfl).ne f5 rfl).ne f6 rfl).ne f7 rfl).ne f8 rfl).ne f9 rfl).ne f10 rfl).ne f11 rfl).ne f12 rfl).ne f13 rfl).ne f14 rfl).ne f15 rfl).ne f16 rfl).ne f17 rfl).ne f18 rfl).ne f19 rfl).ne f20 rfl).ne f21 rfl).ne f22 rfl)
  refine s_get (v := .int 15) rfl e6_22 rfl rfl ?_
  refine q_ireturn rfl rfl ?_
  show aW aiP 0 17 658 233 [(4, .int 0), (3, .ref 233), (2, .ref 191), (1, .ref 6), (0, .ref 0)] [.int 15] h22 _
  refine q_aload_n rfl rfl ?_
  refine q_aload_n rfl rfl ?_
  refine q_iload rfl rfl ?_
  refine q_iconst rfl ?_
  refine s_iadd (k := 1) rfl (by decide) ?_
  have e0_22 := (f22.ne rfl (f21.ne rfl (f20.ne rfl (f19.ne rfl (f18.ne rfl (f17.ne rfl (f16.ne rfl (f15.ne rfl (f14.ne rfl (f13.ne rfl (f12.ne rfl (f11.ne rfl (f10.ne rfl (f9.ne rfl (f8.ne rfl (f7.ne rfl (f6.ne rfl (f5.ne rfl (f4.ne rfl (f3.ne rfl (f2.ne rfl (f1.ne rfl e0))))))))))))))))))))))
  refine s_iaload (j := 1) (v := .int (xs 1)) rfl e0_22 (by decide) rfl (by first | rfl | decide) ?_
  rw [hw]
  have e191_22 := ((((((((((((((((((((((e191.ne f1 rfl).ne f2 rfl).ne f3 rfl).ne f4 rfl).ne f5 rfl).ne f6 rfl).ne f7 rfl).ne f8 rfl).ne f9 rfl).ne f10 rfl).ne f11 rfl).ne f12 rfl).ne f13 rfl).ne f14 rfl).ne f15 rfl).ne f16 rfl).ne f17 rfl).ne f18 rfl).ne f19 rfl).ne f20 rfl).ne f21 rfl).ne f22 rfl)
  refine s_callV (as := [.int 15]) (rest := [.int 15]) (d' := 16) (w' := 636) (lv' := [(0, .ref 191), (1, .int 15)]) rfl e191_22 rfl rfl rfl rfl rfl rfl ?_
  refine q_aload_n rfl rfl ?_
  refine q_iconst rfl ?_
  refine s_put (vs' := [.int 0, .ref 192, .ref 193, .int 0, .ref 194, .ref 195, .ref 196, .ref 197, .ref 198, .ref 199, .ref 200, .ref 201, .ref 202, .ref 203, .ref 204, .ref 205, .int (-1), .int 0, .ref 206, .ref 207, .ref 208, .ref 209, .ref 210, .ref 211, .ref 212, .ref 213, .ref 214, .ref 215, .int 0, .int 0, .int 0, .int 0, .ref 216, .ref 217, .ref 218, .ref 219, .ref 220, .int (-1), .int 0, .int 0, .int 0, .int 0, .int 0, .int 0, .ref 221, .ref 222, .ref 223, .ref 224, .int 0, .ref 225, .int 0, .ref 226, .ref 227, .int 0, .ref 228, .ref 229, .ref 230, .ref 231, .ref 232]) rfl e191_22 rfl rfl rfl rfl (fun h23 o23 f23 => ?_)
  have s23 := s22.put f23
  refine q_iload_n rfl rfl ?_
  refine q_if_lt rfl (fun c => absurd c (by decide)) (fun _ => ?_)
  refine q_iload_n rfl rfl ?_
  refine q_bipush rfl ?_
  refine q_icmp_gt rfl (fun c => absurd c (by decide)) (fun _ => ?_)
  refine q_aload_n rfl rfl ?_
  refine s_get (v := .int 0) rfl o23 rfl rfl ?_
  refine q_iload_n rfl rfl ?_
  refine s_iadd (k := 15) rfl (by decide) ?_
  refine q_sipush rfl ?_
  refine q_icmp_le rfl (fun _ => ?_) (fun c => absurd (by decide) c)
  refine q_iconst rfl ?_
  refine s_istore_n (lv' := [(2, .int 0), (0, .ref 191), (1, .int 15)]) rfl (by decide) rfl ?_
  refine q_iload_n rfl rfl ?_
  refine q_iload_n rfl rfl ?_
  refine q_icmp_ge rfl (fun c => absurd c (by decide)) (fun _ => ?_)
  refine q_aload_n rfl rfl ?_
  refine s_get (v := .ref 193) rfl o23 rfl rfl ?_
  refine q_aload_n rfl rfl ?_
  refine s_get (v := .int 0) rfl o23 rfl rfl ?_
  refine q_aload_n rfl rfl ?_
  refine s_get (v := .ref 192) rfl o23 rfl rfl ?_
  refine q_iload_n rfl rfl ?_
  have e192_23 := (f23.ne rfl (f22.ne rfl (f21.ne rfl (f20.ne rfl (f19.ne rfl (f18.ne rfl (f17.ne rfl (f16.ne rfl (f15.ne rfl (f14.ne rfl (f13.ne rfl (f12.ne rfl (f11.ne rfl (f10.ne rfl (f9.ne rfl (f8.ne rfl (f7.ne rfl (f6.ne rfl (f5.ne rfl (f4.ne rfl (f3.ne rfl (f2.ne rfl (f1.ne rfl e192)))))))))))))))))))))))
  refine s_iaload (j := 0) (v := .int 0) rfl e192_23 (by decide) rfl (by first | rfl | decide) ?_
  have e193_23 := (f23.ne rfl (f22.ne rfl (f21.ne rfl (f20.ne rfl (f19.ne rfl (f18.ne rfl (f17.ne rfl (f16.ne rfl (f15.ne rfl (f14.ne rfl (f13.ne rfl (f12.ne rfl (f11.ne rfl (f10.ne rfl (f9.ne rfl (f8.ne rfl (f7.ne rfl (f6.ne rfl (f5.ne rfl (f4.ne rfl (f3.ne rfl (f2.ne rfl (f1.ne rfl e193)))))))))))))))))))))))
  refine s_iastore (j := 0) rfl e193_23 (by decide) rfl (fun h24 o24 f24 => ?_)
  have s24 := s23.put f24
  refine q_aload_n rfl rfl ?_
  refine q_dup rfl rfl ?_
  have e191_24 := (o23.ne f24 rfl)
  refine s_get (v := .int 0) rfl e191_24 rfl rfl ?_
  refine q_iconst rfl ?_
  refine s_iadd (k := 1) rfl (by decide) ?_
  refine s_put (vs' := [.int 0, .ref 192, .ref 193, .int 1, .ref 194, .ref 195, .ref 196, .ref 197, .ref 198, .ref 199, .ref 200, .ref 201, .ref 202, .ref 203, .ref 204, .ref 205, .int (-1), .int 0, .ref 206, .ref 207, .ref 208, .ref 209, .ref 210, .ref 211, .ref 212, .ref 213, .ref 214, .ref 215, .int 0, .int 0, .int 0, .int 0, .ref 216, .ref 217, .ref 218, .ref 219, .ref 220, .int (-1), .int 0, .int 0, .int 0, .int 0, .int 0, .int 0, .ref 221, .ref 222, .ref 223, .ref 224, .int 0, .ref 225, .int 0, .ref 226, .ref 227, .int 0, .ref 228, .ref 229, .ref 230, .ref 231, .ref 232]) rfl e191_24 rfl rfl rfl rfl (fun h25 o25 f25 => ?_)
  have s25 := s24.put f25
  refine s_iinc (y := 1) (lv' := [(2, .int 1), (0, .ref 191), (1, .int 15)]) rfl rfl (by decide) (by decide) rfl ?_
  refine q_goto rfl ?_
  refine q_iload_n rfl rfl ?_
  refine q_iload_n rfl rfl ?_
  refine q_icmp_ge rfl (fun c => absurd c (by decide)) (fun _ => ?_)
  refine q_aload_n rfl rfl ?_
  refine s_get (v := .ref 193) rfl o25 rfl rfl ?_
  refine q_aload_n rfl rfl ?_
  refine s_get (v := .int 1) rfl o25 rfl rfl ?_
  refine q_aload_n rfl rfl ?_
  refine s_get (v := .ref 192) rfl o25 rfl rfl ?_
  refine q_iload_n rfl rfl ?_
  have e192_25 := (f25.ne rfl (f24.ne rfl e192_23))
  refine s_iaload (j := 1) (v := .int 0) rfl e192_25 (by decide) rfl (by first | rfl | decide) ?_
  have e193_25 := (f25.ne rfl o24)
  refine s_iastore (j := 1) rfl e193_25 (by decide) rfl (fun h26 o26 f26 => ?_)
  have s26 := s25.put f26
  refine q_aload_n rfl rfl ?_
  refine q_dup rfl rfl ?_
  have e191_26 := (o25.ne f26 rfl)
  refine s_get (v := .int 1) rfl e191_26 rfl rfl ?_
  refine q_iconst rfl ?_
  refine s_iadd (k := 2) rfl (by decide) ?_
  refine s_put (vs' := [.int 0, .ref 192, .ref 193, .int 2, .ref 194, .ref 195, .ref 196, .ref 197, .ref 198, .ref 199, .ref 200, .ref 201, .ref 202, .ref 203, .ref 204, .ref 205, .int (-1), .int 0, .ref 206, .ref 207, .ref 208, .ref 209, .ref 210, .ref 211, .ref 212, .ref 213, .ref 214, .ref 215, .int 0, .int 0, .int 0, .int 0, .ref 216, .ref 217, .ref 218, .ref 219, .ref 220, .int (-1), .int 0, .int 0, .int 0, .int 0, .int 0, .int 0, .ref 221, .ref 222, .ref 223, .ref 224, .int 0, .ref 225, .int 0, .ref 226, .ref 227, .int 0, .ref 228, .ref 229, .ref 230, .ref 231, .ref 232]) rfl e191_26 rfl rfl rfl rfl (fun h27 o27 f27 => ?_)
  have s27 := s26.put f27
  refine s_iinc (y := 2) (lv' := [(2, .int 2), (0, .ref 191), (1, .int 15)]) rfl rfl (by decide) (by decide) rfl ?_
  refine q_goto rfl ?_
  refine q_iload_n rfl rfl ?_
  refine q_iload_n rfl rfl ?_
  refine q_icmp_ge rfl (fun c => absurd c (by decide)) (fun _ => ?_)
  refine q_aload_n rfl rfl ?_
  refine s_get (v := .ref 193) rfl o27 rfl rfl ?_
  refine q_aload_n rfl rfl ?_
  refine s_get (v := .int 2) rfl o27 rfl rfl ?_
  refine q_aload_n rfl rfl ?_
  refine s_get (v := .ref 192) rfl o27 rfl rfl ?_
  refine q_iload_n rfl rfl ?_
  have e192_27 := (f27.ne rfl (f26.ne rfl e192_25))
  refine s_iaload (j := 2) (v := .int 0) rfl e192_27 (by decide) rfl (by first | rfl | decide) ?_
  have e193_27 := (f27.ne rfl o26)
  refine s_iastore (j := 2) rfl e193_27 (by decide) rfl (fun h28 o28 f28 => ?_)
  have s28 := s27.put f28
  refine q_aload_n rfl rfl ?_
  refine q_dup rfl rfl ?_
  have e191_28 := (o27.ne f28 rfl)
  refine s_get (v := .int 2) rfl e191_28 rfl rfl ?_
  refine q_iconst rfl ?_
  refine s_iadd (k := 3) rfl (by decide) ?_
  refine s_put (vs' := [.int 0, .ref 192, .ref 193, .int 3, .ref 194, .ref 195, .ref 196, .ref 197, .ref 198, .ref 199, .ref 200, .ref 201, .ref 202, .ref 203, .ref 204, .ref 205, .int (-1), .int 0, .ref 206, .ref 207, .ref 208, .ref 209, .ref 210, .ref 211, .ref 212, .ref 213, .ref 214, .ref 215, .int 0, .int 0, .int 0, .int 0, .ref 216, .ref 217, .ref 218, .ref 219, .ref 220, .int (-1), .int 0, .int 0, .int 0, .int 0, .int 0, .int 0, .ref 221, .ref 222, .ref 223, .ref 224, .int 0, .ref 225, .int 0, .ref 226, .ref 227, .int 0, .ref 228, .ref 229, .ref 230, .ref 231, .ref 232]) rfl e191_28 rfl rfl rfl rfl (fun h29 o29 f29 => ?_)
  have s29 := s28.put f29
  refine s_iinc (y := 3) (lv' := [(2, .int 3), (0, .ref 191), (1, .int 15)]) rfl rfl (by decide) (by decide) rfl ?_
  refine q_goto rfl ?_
  refine q_iload_n rfl rfl ?_
  refine q_iload_n rfl rfl ?_
  refine q_icmp_ge rfl (fun c => absurd c (by decide)) (fun _ => ?_)
  refine q_aload_n rfl rfl ?_
  refine s_get (v := .ref 193) rfl o29 rfl rfl ?_
  refine q_aload_n rfl rfl ?_
  refine s_get (v := .int 3) rfl o29 rfl rfl ?_
  refine q_aload_n rfl rfl ?_
  refine s_get (v := .ref 192) rfl o29 rfl rfl ?_
  refine q_iload_n rfl rfl ?_
  have e192_29 := (f29.ne rfl (f28.ne rfl e192_27))
  refine s_iaload (j := 3) (v := .int 0) rfl e192_29 (by decide) rfl (by first | rfl | decide) ?_
  have e193_29 := (f29.ne rfl o28)
  refine s_iastore (j := 3) rfl e193_29 (by decide) rfl (fun h30 o30 f30 => ?_)
  have s30 := s29.put f30
  refine q_aload_n rfl rfl ?_
  refine q_dup rfl rfl ?_
  have e191_30 := (o29.ne f30 rfl)
  refine s_get (v := .int 3) rfl e191_30 rfl rfl ?_
  refine q_iconst rfl ?_
  refine s_iadd (k := 4) rfl (by decide) ?_
  refine s_put (vs' := [.int 0, .ref 192, .ref 193, .int 4, .ref 194, .ref 195, .ref 196, .ref 197, .ref 198, .ref 199, .ref 200, .ref 201, .ref 202, .ref 203, .ref 204, .ref 205, .int (-1), .int 0, .ref 206, .ref 207, .ref 208, .ref 209, .ref 210, .ref 211, .ref 212, .ref 213, .ref 214, .ref 215, .int 0, .int 0, .int 0, .int 0, .ref 216, .ref 217, .ref 218, .ref 219, .ref 220, .int (-1), .int 0, .int 0, .int 0, .int 0, .int 0, .int 0, .ref 221, .ref 222, .ref 223, .ref 224, .int 0, .ref 225, .int 0, .ref 226, .ref 227, .int 0, .ref 228, .ref 229, .ref 230, .ref 231, .ref 232]) rfl e191_30 rfl rfl rfl rfl (fun h31 o31 f31 => ?_)
  have s31 := s30.put f31
  refine s_iinc (y := 4) (lv' := [(2, .int 4), (0, .ref 191), (1, .int 15)]) rfl rfl (by decide) (by decide) rfl ?_
  refine q_goto rfl ?_
  refine q_iload_n rfl rfl ?_
  refine q_iload_n rfl rfl ?_
  refine q_icmp_ge rfl (fun c => absurd c (by decide)) (fun _ => ?_)
  refine q_aload_n rfl rfl ?_
  refine s_get (v := .ref 193) rfl o31 rfl rfl ?_
  refine q_aload_n rfl rfl ?_
  refine s_get (v := .int 4) rfl o31 rfl rfl ?_
  refine q_aload_n rfl rfl ?_
  refine s_get (v := .ref 192) rfl o31 rfl rfl ?_
  refine q_iload_n rfl rfl ?_
  have e192_31 := (f31.ne rfl (f30.ne rfl e192_29))
  refine s_iaload (j := 4) (v := .int 0) rfl e192_31 (by decide) rfl (by first | rfl | decide) ?_
  have e193_31 := (f31.ne rfl o30)
  refine s_iastore (j := 4) rfl e193_31 (by decide) rfl (fun h32 o32 f32 => ?_)
  have s32 := s31.put f32
  refine q_aload_n rfl rfl ?_
  refine q_dup rfl rfl ?_
  have e191_32 := (o31.ne f32 rfl)
  refine s_get (v := .int 4) rfl e191_32 rfl rfl ?_
  refine q_iconst rfl ?_
  refine s_iadd (k := 5) rfl (by decide) ?_
  refine s_put (vs' := [.int 0, .ref 192, .ref 193, .int 5, .ref 194, .ref 195, .ref 196, .ref 197, .ref 198, .ref 199, .ref 200, .ref 201, .ref 202, .ref 203, .ref 204, .ref 205, .int (-1), .int 0, .ref 206, .ref 207, .ref 208, .ref 209, .ref 210, .ref 211, .ref 212, .ref 213, .ref 214, .ref 215, .int 0, .int 0, .int 0, .int 0, .ref 216, .ref 217, .ref 218, .ref 219, .ref 220, .int (-1), .int 0, .int 0, .int 0, .int 0, .int 0, .int 0, .ref 221, .ref 222, .ref 223, .ref 224, .int 0, .ref 225, .int 0, .ref 226, .ref 227, .int 0, .ref 228, .ref 229, .ref 230, .ref 231, .ref 232]) rfl e191_32 rfl rfl rfl rfl (fun h33 o33 f33 => ?_)
  have s33 := s32.put f33
  refine s_iinc (y := 5) (lv' := [(2, .int 5), (0, .ref 191), (1, .int 15)]) rfl rfl (by decide) (by decide) rfl ?_
  refine q_goto rfl ?_
  refine q_iload_n rfl rfl ?_
  refine q_iload_n rfl rfl ?_
  refine q_icmp_ge rfl (fun c => absurd c (by decide)) (fun _ => ?_)
  refine q_aload_n rfl rfl ?_
  refine s_get (v := .ref 193) rfl o33 rfl rfl ?_
  refine q_aload_n rfl rfl ?_
  refine s_get (v := .int 5) rfl o33 rfl rfl ?_
  refine q_aload_n rfl rfl ?_
  refine s_get (v := .ref 192) rfl o33 rfl rfl ?_
  refine q_iload_n rfl rfl ?_
  have e192_33 := (f33.ne rfl (f32.ne rfl e192_31))
  refine s_iaload (j := 5) (v := .int 0) rfl e192_33 (by decide) rfl (by first | rfl | decide) ?_
  have e193_33 := (f33.ne rfl o32)
  refine s_iastore (j := 5) rfl e193_33 (by decide) rfl (fun h34 o34 f34 => ?_)
  have s34 := s33.put f34
  refine q_aload_n rfl rfl ?_
  refine q_dup rfl rfl ?_
  have e191_34 := (o33.ne f34 rfl)
  refine s_get (v := .int 5) rfl e191_34 rfl rfl ?_
  refine q_iconst rfl ?_
  refine s_iadd (k := 6) rfl (by decide) ?_
  refine s_put (vs' := [.int 0, .ref 192, .ref 193, .int 6, .ref 194, .ref 195, .ref 196, .ref 197, .ref 198, .ref 199, .ref 200, .ref 201, .ref 202, .ref 203, .ref 204, .ref 205, .int (-1), .int 0, .ref 206, .ref 207, .ref 208, .ref 209, .ref 210, .ref 211, .ref 212, .ref 213, .ref 214, .ref 215, .int 0, .int 0, .int 0, .int 0, .ref 216, .ref 217, .ref 218, .ref 219, .ref 220, .int (-1), .int 0, .int 0, .int 0, .int 0, .int 0, .int 0, .ref 221, .ref 222, .ref 223, .ref 224, .int 0, .ref 225, .int 0, .ref 226, .ref 227, .int 0, .ref 228, .ref 229, .ref 230, .ref 231, .ref 232]) rfl e191_34 rfl rfl rfl rfl (fun h35 o35 f35 => ?_)
  have s35 := s34.put f35
  refine s_iinc (y := 6) (lv' := [(2, .int 6), (0, .ref 191), (1, .int 15)]) rfl rfl (by decide) (by decide) rfl ?_
  refine q_goto rfl ?_
  refine q_iload_n rfl rfl ?_
  refine q_iload_n rfl rfl ?_
  refine q_icmp_ge rfl (fun c => absurd c (by decide)) (fun _ => ?_)
  refine q_aload_n rfl rfl ?_
  refine s_get (v := .ref 193) rfl o35 rfl rfl ?_
  refine q_aload_n rfl rfl ?_
  refine s_get (v := .int 6) rfl o35 rfl rfl ?_
  refine q_aload_n rfl rfl ?_
  refine s_get (v := .ref 192) rfl o35 rfl rfl ?_
  refine q_iload_n rfl rfl ?_
  have e192_35 := (f35.ne rfl (f34.ne rfl e192_33))
  refine s_iaload (j := 6) (v := .int 0) rfl e192_35 (by decide) rfl (by first | rfl | decide) ?_
  have e193_35 := (f35.ne rfl o34)
  refine s_iastore (j := 6) rfl e193_35 (by decide) rfl (fun h36 o36 f36 => ?_)
  have s36 := s35.put f36
  refine q_aload_n rfl rfl ?_
  refine q_dup rfl rfl ?_
  have e191_36 := (o35.ne f36 rfl)
  refine s_get (v := .int 6) rfl e191_36 rfl rfl ?_
  refine q_iconst rfl ?_
  refine s_iadd (k := 7) rfl (by decide) ?_
  refine s_put (vs' := [.int 0, .ref 192, .ref 193, .int 7, .ref 194, .ref 195, .ref 196, .ref 197, .ref 198, .ref 199, .ref 200, .ref 201, .ref 202, .ref 203, .ref 204, .ref 205, .int (-1), .int 0, .ref 206, .ref 207, .ref 208, .ref 209, .ref 210, .ref 211, .ref 212, .ref 213, .ref 214, .ref 215, .int 0, .int 0, .int 0, .int 0, .ref 216, .ref 217, .ref 218, .ref 219, .ref 220, .int (-1), .int 0, .int 0, .int 0, .int 0, .int 0, .int 0, .ref 221, .ref 222, .ref 223, .ref 224, .int 0, .ref 225, .int 0, .ref 226, .ref 227, .int 0, .ref 228, .ref 229, .ref 230, .ref 231, .ref 232]) rfl e191_36 rfl rfl rfl rfl (fun h37 o37 f37 => ?_)
  have s37 := s36.put f37
  refine s_iinc (y := 7) (lv' := [(2, .int 7), (0, .ref 191), (1, .int 15)]) rfl rfl (by decide) (by decide) rfl ?_
  refine q_goto rfl ?_
  refine q_iload_n rfl rfl ?_
  refine q_iload_n rfl rfl ?_
  refine q_icmp_ge rfl (fun c => absurd c (by decide)) (fun _ => ?_)
  refine q_aload_n rfl rfl ?_
  refine s_get (v := .ref 193) rfl o37 rfl rfl ?_
  refine q_aload_n rfl rfl ?_
  refine s_get (v := .int 7) rfl o37 rfl rfl ?_
  refine q_aload_n rfl rfl ?_
  refine s_get (v := .ref 192) rfl o37 rfl rfl ?_
  refine q_iload_n rfl rfl ?_
  have e192_37 := (f37.ne rfl (f36.ne rfl e192_35))
  refine s_iaload (j := 7) (v := .int 0) rfl e192_37 (by decide) rfl (by first | rfl | decide) ?_
  have e193_37 := (f37.ne rfl o36)
  refine s_iastore (j := 7) rfl e193_37 (by decide) rfl (fun h38 o38 f38 => ?_)
  have s38 := s37.put f38
  refine q_aload_n rfl rfl ?_
  refine q_dup rfl rfl ?_
  have e191_38 := (o37.ne f38 rfl)
  refine s_get (v := .int 7) rfl e191_38 rfl rfl ?_
  refine q_iconst rfl ?_
  refine s_iadd (k := 8) rfl (by decide) ?_
  refine s_put (vs' := [.int 0, .ref 192, .ref 193, .int 8, .ref 194, .ref 195, .ref 196, .ref 197, .ref 198, .ref 199, .ref 200, .ref 201, .ref 202, .ref 203, .ref 204, .ref 205, .int (-1), .int 0, .ref 206, .ref 207, .ref 208, .ref 209, .ref 210, .ref 211, .ref 212, .ref 213, .ref 214, .ref 215, .int 0, .int 0, .int 0, .int 0, .ref 216, .ref 217, .ref 218, .ref 219, .ref 220, .int (-1), .int 0, .int 0, .int 0, .int 0, .int 0, .int 0, .ref 221, .ref 222, .ref 223, .ref 224, .int 0, .ref 225, .int 0, .ref 226, .ref 227, .int 0, .ref 228, .ref 229, .ref 230, .ref 231, .ref 232]) rfl e191_38 rfl rfl rfl rfl (fun h39 o39 f39 => ?_)
  have s39 := s38.put f39
  refine s_iinc (y := 8) (lv' := [(2, .int 8), (0, .ref 191), (1, .int 15)]) rfl rfl (by decide) (by decide) rfl ?_
  refine q_goto rfl ?_
  refine q_iload_n rfl rfl ?_
  refine q_iload_n rfl rfl ?_
  refine q_icmp_ge rfl (fun c => absurd c (by decide)) (fun _ => ?_)
  refine q_aload_n rfl rfl ?_
  refine s_get (v := .ref 193) rfl o39 rfl rfl ?_
  refine q_aload_n rfl rfl ?_
  refine s_get (v := .int 8) rfl o39 rfl rfl ?_
  refine q_aload_n rfl rfl ?_
  refine s_get (v := .ref 192) rfl o39 rfl rfl ?_
  refine q_iload_n rfl rfl ?_
  have e192_39 := (f39.ne rfl (f38.ne rfl e192_37))
  refine s_iaload (j := 8) (v := .int 0) rfl e192_39 (by decide) rfl (by first | rfl | decide) ?_
  have e193_39 := (f39.ne rfl o38)
  refine s_iastore (j := 8) rfl e193_39 (by decide) rfl (fun h40 o40 f40 => ?_)
  have s40 := s39.put f40
  refine q_aload_n rfl rfl ?_
  refine q_dup rfl rfl ?_
  have e191_40 := (o39.ne f40 rfl)
  refine s_get (v := .int 8) rfl e191_40 rfl rfl ?_
  refine q_iconst rfl ?_
  refine s_iadd (k := 9) rfl (by decide) ?_
  refine s_put (vs' := [.int 0, .ref 192, .ref 193, .int 9, .ref 194, .ref 195, .ref 196, .ref 197, .ref 198, .ref 199, .ref 200, .ref 201, .ref 202, .ref 203, .ref 204, .ref 205, .int (-1), .int 0, .ref 206, .ref 207, .ref 208, .ref 209, .ref 210, .ref 211, .ref 212, .ref 213, .ref 214, .ref 215, .int 0, .int 0, .int 0, .int 0, .ref 216, .ref 217, .ref 218, .ref 219, .ref 220, .int (-1), .int 0, .int 0, .int 0, .int 0, .int 0, .int 0, .ref 221, .ref 222, .ref 223, .ref 224, .int 0, .ref 225, .int 0, .ref 226, .ref 227, .int 0, .ref 228, .ref 229, .ref 230, .ref 231, .ref 232]) rfl e191_40 rfl rfl rfl rfl (fun h41 o41 f41 => ?_)
  have s41 := s40.put f41
  refine s_iinc (y := 9) (lv' := [(2, .int 9), (0, .ref 191), (1, .int 15)]) rfl rfl (by decide) (by decide) rfl ?_
  refine q_goto rfl ?_
  refine q_iload_n rfl rfl ?_
  refine q_iload_n rfl rfl ?_
  refine q_icmp_ge rfl (fun c => absurd c (by decide)) (fun _ => ?_)
  refine q_aload_n rfl rfl ?_
  refine s_get (v := .ref 193) rfl o41 rfl rfl ?_
  refine q_aload_n rfl rfl ?_
  refine s_get (v := .int 9) rfl o41 rfl rfl ?_
  refine q_aload_n rfl rfl ?_
  refine s_get (v := .ref 192) rfl o41 rfl rfl ?_
  refine q_iload_n rfl rfl ?_
  have e192_41 := (f41.ne rfl (f40.ne rfl e192_39))
  refine s_iaload (j := 9) (v := .int 0) rfl e192_41 (by decide) rfl (by first | rfl | decide) ?_
  have e193_41 := (f41.ne rfl o40)
  refine s_iastore (j := 9) rfl e193_41 (by decide) rfl (fun h42 o42 f42 => ?_)
  have s42 := s41.put f42
  refine q_aload_n rfl rfl ?_
  refine q_dup rfl rfl ?_
  have e191_42 := (o41.ne f42 rfl)
  refine s_get (v := .int 9) rfl e191_42 rfl rfl ?_
  refine q_iconst rfl ?_
  refine s_iadd (k := 10) rfl (by decide) ?_
  refine s_put (vs' := [.int 0, .ref 192, .ref 193, .int 10, .ref 194, .ref 195, .ref 196, .ref 197, .ref 198, .ref 199, .ref 200, .ref 201, .ref 202, .ref 203, .ref 204, .ref 205, .int (-1), .int 0, .ref 206, .ref 207, .ref 208, .ref 209, .ref 210, .ref 211, .ref 212, .ref 213, .ref 214, .ref 215, .int 0, .int 0, .int 0, .int 0, .ref 216, .ref 217, .ref 218, .ref 219, .ref 220, .int (-1), .int 0, .int 0, .int 0, .int 0, .int 0, .int 0, .ref 221, .ref 222, .ref 223, .ref 224, .int 0, .ref 225, .int 0, .ref 226, .ref 227, .int 0, .ref 228, .ref 229, .ref 230, .ref 231, .ref 232]) rfl e191_42 rfl rfl rfl rfl (fun h43 o43 f43 => ?_)
  have s43 := s42.put f43
  refine s_iinc (y := 10) (lv' := [(2, .int 10), (0, .ref 191), (1, .int 15)]) rfl rfl (by decide) (by decide) rfl ?_
  refine q_goto rfl ?_
  refine q_iload_n rfl rfl ?_
  refine q_iload_n rfl rfl ?_
  refine q_icmp_ge rfl (fun c => absurd c (by decide)) (fun _ => ?_)
  refine q_aload_n rfl rfl ?_
  refine s_get (v := .ref 193) rfl o43 rfl rfl ?_
  refine q_aload_n rfl rfl ?_
  refine s_get (v := .int 10) rfl o43 rfl rfl ?_
  refine q_aload_n rfl rfl ?_
  refine s_get (v := .ref 192) rfl o43 rfl rfl ?_
  refine q_iload_n rfl rfl ?_
  have e192_43 := (f43.ne rfl (f42.ne rfl e192_41))
  refine s_iaload (j := 10) (v := .int 0) rfl e192_43 (by decide) rfl (by first | rfl | decide) ?_
  have e193_43 := (f43.ne rfl o42)
  refine s_iastore (j := 10) rfl e193_43 (by decide) rfl (fun h44 o44 f44 => ?_)
  have s44 := s43.put f44
  refine q_aload_n rfl rfl ?_
  refine q_dup rfl rfl ?_
  have e191_44 := (o43.ne f44 rfl)
  refine s_get (v := .int 10) rfl e191_44 rfl rfl ?_
  refine q_iconst rfl ?_
  refine s_iadd (k := 11) rfl (by decide) ?_
  refine s_put (vs' := [.int 0, .ref 192, .ref 193, .int 11, .ref 194, .ref 195, .ref 196, .ref 197, .ref 198, .ref 199, .ref 200, .ref 201, .ref 202, .ref 203, .ref 204, .ref 205, .int (-1), .int 0, .ref 206, .ref 207, .ref 208, .ref 209, .ref 210, .ref 211, .ref 212, .ref 213, .ref 214, .ref 215, .int 0, .int 0, .int 0, .int 0, .ref 216, .ref 217, .ref 218, .ref 219, .ref 220, .int (-1), .int 0, .int 0, .int 0, .int 0, .int 0, .int 0, .ref 221, .ref 222, .ref 223, .ref 224, .int 0, .ref 225, .int 0, .ref 226, .ref 227, .int 0, .ref 228, .ref 229, .ref 230, .ref 231, .ref 232]) rfl e191_44 rfl rfl rfl rfl (fun h45 o45 f45 => ?_)
  have s45 := s44.put f45
  refine s_iinc (y := 11) (lv' := [(2, .int 11), (0, .ref 191), (1, .int 15)]) rfl rfl (by decide) (by decide) rfl ?_
  refine q_goto rfl ?_
  refine q_iload_n rfl rfl ?_
  refine q_iload_n rfl rfl ?_
  refine q_icmp_ge rfl (fun c => absurd c (by decide)) (fun _ => ?_)
  refine q_aload_n rfl rfl ?_
  refine s_get (v := .ref 193) rfl o45 rfl rfl ?_
  refine q_aload_n rfl rfl ?_
  refine s_get (v := .int 11) rfl o45 rfl rfl ?_
  refine q_aload_n rfl rfl ?_
  refine s_get (v := .ref 192) rfl o45 rfl rfl ?_
  refine q_iload_n rfl rfl ?_
  have e192_45 := (f45.ne rfl (f44.ne rfl e192_43))
  refine s_iaload (j := 11) (v := .int 0) rfl e192_45 (by decide) rfl (by first | rfl | decide) ?_
  have e193_45 := (f45.ne rfl o44)
  refine s_iastore (j := 11) rfl e193_45 (by decide) rfl (fun h46 o46 f46 => ?_)
  have s46 := s45.put f46
  refine q_aload_n rfl rfl ?_
  refine q_dup rfl rfl ?_
  have e191_46 := (o45.ne f46 rfl)
  refine s_get (v := .int 11) rfl e191_46 rfl rfl ?_
  refine q_iconst rfl ?_
  refine s_iadd (k := 12) rfl (by decide) ?_
  refine s_put (vs' := [.int 0, .ref 192, .ref 193, .int 12, .ref 194, .ref 195, .ref 196, .ref 197, .ref 198, .ref 199, .ref 200, .ref 201, .ref 202, .ref 203, .ref 204, .ref 205, .int (-1), .int 0, .ref 206, .ref 207, .ref 208, .ref 209, .ref 210, .ref 211, .ref 212, .ref 213, .ref 214, .ref 215, .int 0, .int 0, .int 0, .int 0, .ref 216, .ref 217, .ref 218, .ref 219, .ref 220, .int (-1), .int 0, .int 0, .int 0, .int 0, .int 0, .int 0, .ref 221, .ref 222, .ref 223, .ref 224, .int 0, .ref 225, .int 0, .ref 226, .ref 227, .int 0, .ref 228, .ref 229, .ref 230, .ref 231, .ref 232]) rfl e191_46 rfl rfl rfl rfl (fun h47 o47 f47 => ?_)
  have s47 := s46.put f47
  refine s_iinc (y := 12) (lv' := [(2, .int 12), (0, .ref 191), (1, .int 15)]) rfl rfl (by decide) (by decide) rfl ?_
  refine q_goto rfl ?_
  refine q_iload_n rfl rfl ?_
  refine q_iload_n rfl rfl ?_
  refine q_icmp_ge rfl (fun c => absurd c (by decide)) (fun _ => ?_)
  refine q_aload_n rfl rfl ?_
  refine s_get (v := .ref 193) rfl o47 rfl rfl ?_
  refine q_aload_n rfl rfl ?_
  refine s_get (v := .int 12) rfl o47 rfl rfl ?_
  refine q_aload_n rfl rfl ?_
  refine s_get (v := .ref 192) rfl o47 rfl rfl ?_
  refine q_iload_n rfl rfl ?_
  have e192_47 := (f47.ne rfl (f46.ne rfl e192_45))
  refine s_iaload (j := 12) (v := .int 0) rfl e192_47 (by decide) rfl (by first | rfl | decide) ?_
  have e193_47 := (f47.ne rfl o46)
  refine s_iastore (j := 12) rfl e193_47 (by decide) rfl (fun h48 o48 f48 => ?_)
  have s48 := s47.put f48
  refine q_aload_n rfl rfl ?_
  refine q_dup rfl rfl ?_
  have e191_48 := (o47.ne f48 rfl)
  refine s_get (v := .int 12) rfl e191_48 rfl rfl ?_
  refine q_iconst rfl ?_
  refine s_iadd (k := 13) rfl (by decide) ?_
  refine s_put (vs' := [.int 0, .ref 192, .ref 193, .int 13, .ref 194, .ref 195, .ref 196, .ref 197, .ref 198, .ref 199, .ref 200, .ref 201, .ref 202, .ref 203, .ref 204, .ref 205, .int (-1), .int 0, .ref 206, .ref 207, .ref 208, .ref 209, .ref 210, .ref 211, .ref 212, .ref 213, .ref 214, .ref 215, .int 0, .int 0, .int 0, .int 0, .ref 216, .ref 217, .ref 218, .ref 219, .ref 220, .int (-1), .int 0, .int 0, .int 0, .int 0, .int 0, .int 0, .ref 221, .ref 222, .ref 223, .ref 224, .int 0, .ref 225, .int 0, .ref 226, .ref 227, .int 0, .ref 228, .ref 229, .ref 230, .ref 231, .ref 232]) rfl e191_48 rfl rfl rfl rfl (fun h49 o49 f49 => ?_)
  have s49 := s48.put f49
  refine s_iinc (y := 13) (lv' := [(2, .int 13), (0, .ref 191), (1, .int 15)]) rfl rfl (by decide) (by decide) rfl ?_
  refine q_goto rfl ?_
  refine q_iload_n rfl rfl ?_
  refine q_iload_n rfl rfl ?_
  refine q_icmp_ge rfl (fun c => absurd c (by decide)) (fun _ => ?_)
  refine q_aload_n rfl rfl ?_
  refine s_get (v := .ref 193) rfl o49 rfl rfl ?_
  refine q_aload_n rfl rfl ?_
  refine s_get (v := .int 13) rfl o49 rfl rfl ?_
  refine q_aload_n rfl rfl ?_
  refine s_get (v := .ref 192) rfl o49 rfl rfl ?_
  refine q_iload_n rfl rfl ?_
  have e192_49 := (f49.ne rfl (f48.ne rfl e192_47))
  refine s_iaload (j := 13) (v := .int 0) rfl e192_49 (by decide) rfl (by first | rfl | decide) ?_
  have e193_49 := (f49.ne rfl o48)
  refine s_iastore (j := 13) rfl e193_49 (by decide) rfl (fun h50 o50 f50 => ?_)
  have s50 := s49.put f50
  refine q_aload_n rfl rfl ?_
  refine q_dup rfl rfl ?_
  have e191_50 := (o49.ne f50 rfl)
  refine s_get (v := .int 13) rfl e191_50 rfl rfl ?_
  refine q_iconst rfl ?_
  refine s_iadd (k := 14) rfl (by decide) ?_
  refine s_put (vs' := [.int 0, .ref 192, .ref 193, .int 14, .ref 194, .ref 195, .ref 196, .ref 197, .ref 198, .ref 199, .ref 200, .ref 201, .ref 202, .ref 203, .ref 204, .ref 205, .int (-1), .int 0, .ref 206, .ref 207, .ref 208, .ref 209, .ref 210, .ref 211, .ref 212, .ref 213, .ref 214, .ref 215, .int 0, .int 0, .int 0, .int 0, .ref 216, .ref 217, .ref 218, .ref 219, .ref 220, .int (-1), .int 0, .int 0, .int 0, .int 0, .int 0, .int 0, .ref 221, .ref 222, .ref 223, .ref 224, .int 0, .ref 225, .int 0, .ref 226, .ref 227, .int 0, .ref 228, .ref 229, .ref 230, .ref 231, .ref 232]) rfl e191_50 rfl rfl rfl rfl (fun h51 o51 f51 => ?_)
  have s51 := s50.put f51
  refine s_iinc (y := 14) (lv' := [(2, .int 14), (0, .ref 191), (1, .int 15)]) rfl rfl (by decide) (by decide) rfl ?_
  refine q_goto rfl ?_
  refine q_iload_n rfl rfl ?_
  refine q_iload_n rfl rfl ?_
  refine q_icmp_ge rfl (fun c => absurd c (by decide)) (fun _ => ?_)
  refine q_aload_n rfl rfl ?_
  refine s_get (v := .ref 193) rfl o51 rfl rfl ?_
  refine q_aload_n rfl rfl ?_
  refine s_get (v := .int 14) rfl o51 rfl rfl ?_
  refine q_aload_n rfl rfl ?_
  refine s_get (v := .ref 192) rfl o51 rfl rfl ?_
  refine q_iload_n rfl rfl ?_
  have e192_51 := (f51.ne rfl (f50.ne rfl e192_49))
  refine s_iaload (j := 14) (v := .int 0) rfl e192_51 (by decide) rfl (by first | rfl | decide) ?_
  have e193_51 := (f51.ne rfl o50)
  refine s_iastore (j := 14) rfl e193_51 (by decide) rfl (fun h52 o52 f52 => ?_)
  have s52 := s51.put f52
  refine q_aload_n rfl rfl ?_
  refine q_dup rfl rfl ?_
  have e191_52 := (o51.ne f52 rfl)
  refine s_get (v := .int 14) rfl e191_52 rfl rfl ?_
  refine q_iconst rfl ?_
  refine s_iadd (k := 15) rfl (by decide) ?_
  refine s_put (vs' := [.int 0, .ref 192, .ref 193, .int 15, .ref 194, .ref 195, .ref 196, .ref 197, .ref 198, .ref 199, .ref 200, .ref 201, .ref 202, .ref 203, .ref 204, .ref 205, .int (-1), .int 0, .ref 206, .ref 207, .ref 208, .ref 209, .ref 210, .ref 211, .ref 212, .ref 213, .ref 214, .ref 215, .int 0, .int 0, .int 0, .int 0, .ref 216, .ref 217, .ref 218, .ref 219, .ref 220, .int (-1), .int 0, .int 0, .int 0, .int 0, .int 0, .int 0, .ref 221, .ref 222, .ref 223, .ref 224, .int 0, .ref 225, .int 0, .ref 226, .ref 227, .int 0, .ref 228, .ref 229, .ref 230, .ref 231, .ref 232]) rfl e191_52 rfl rfl rfl rfl (fun h53 o53 f53 => ?_)
  have s53 := s52.put f53
  refine s_iinc (y := 15) (lv' := [(2, .int 15), (0, .ref 191), (1, .int 15)]) rfl rfl (by decide) (by decide) rfl ?_
  refine q_goto rfl ?_
  refine q_iload_n rfl rfl ?_
  refine q_iload_n rfl rfl ?_
  refine q_icmp_ge rfl (fun _ => ?_) (fun c => absurd (by decide) c)
  refine q_iconst rfl ?_
  refine s_istore_n (lv' := [(2, .int 0), (0, .ref 191), (1, .int 15)]) rfl (by decide) rfl ?_
  refine q_iload_n rfl rfl ?_
  refine q_bipush rfl ?_
  refine q_icmp_ge rfl (fun c => absurd c (by decide)) (fun _ => ?_)
  refine q_aload_n rfl rfl ?_
  refine s_get (v := .ref 192) rfl o53 rfl rfl ?_
  refine q_iload_n rfl rfl ?_
  refine q_iconst rfl ?_
  have e192_53 := (f53.ne rfl (f52.ne rfl e192_51))
  refine s_iastore (j := 0) rfl e192_53 (by decide) rfl (fun h54 o54 f54 => ?_)
  have s54 := s53.put f54
  refine s_iinc (y := 1) (lv' := [(2, .int 1), (0, .ref 191), (1, .int 15)]) rfl rfl (by decide) (by decide) rfl ?_
  refine q_goto rfl ?_
  refine q_iload_n rfl rfl ?_
  refine q_bipush rfl ?_
  refine q_icmp_ge rfl (fun c => absurd c (by decide)) (fun _ => ?_)
  refine q_aload_n rfl rfl ?_
  have e191_54 := (o53.ne f54 rfl)
  refine s_get (v := .ref 192) rfl e191_54 rfl rfl ?_
  refine q_iload_n rfl rfl ?_
  refine q_iconst rfl ?_
  refine s_iastore (j := 1) rfl o54 (by decide) rfl (fun h55 o55 f55 => ?_)
  have s55 := s54.put f55
  refine s_iinc (y := 2) (lv' := [(2, .int 2), (0, .ref 191), (1, .int 15)]) rfl rfl (by decide) (by decide) rfl ?_
  refine q_goto rfl ?_
  refine q_iload_n rfl rfl ?_
  refine q_bipush rfl ?_
  refine q_icmp_ge rfl (fun c => absurd c (by decide)) (fun _ => ?_)
  refine q_aload_n rfl rfl ?_
  have e191_55 := (e191_54.ne f55 rfl)
  refine s_get (v := .ref 192) rfl e191_55 rfl rfl ?_
  refine q_iload_n rfl rfl ?_
  refine q_iconst rfl ?_
  refine s_iastore (j := 2) rfl o55 (by decide) rfl (fun h56 o56 f56 => ?_)
  have s56 := s55.put f56
  refine s_iinc (y := 3) (lv' := [(2, .int 3), (0, .ref 191), (1, .int 15)]) rfl rfl (by decide) (by decide) rfl ?_
  refine q_goto rfl ?_
  refine q_iload_n rfl rfl ?_
  refine q_bipush rfl ?_
  refine q_icmp_ge rfl (fun c => absurd c (by decide)) (fun _ => ?_)
  refine q_aload_n rfl rfl ?_
  have e191_56 := (e191_55.ne f56 rfl)
  refine s_get (v := .ref 192) rfl e191_56 rfl rfl ?_
  refine q_iload_n rfl rfl ?_
  refine q_iconst rfl ?_
  refine s_iastore (j := 3) rfl o56 (by decide) rfl (fun h57 o57 f57 => ?_)
  have s57 := s56.put f57
  refine s_iinc (y := 4) (lv' := [(2, .int 4), (0, .ref 191), (1, .int 15)]) rfl rfl (by decide) (by decide) rfl ?_
  refine q_goto rfl ?_
  refine q_iload_n rfl rfl ?_
  refine q_bipush rfl ?_
  refine q_icmp_ge rfl (fun c => absurd c (by decide)) (fun _ => ?_)
  refine q_aload_n rfl rfl ?_
  have e191_57 := (e191_56.ne f57 rfl)
  refine s_get (v := .ref 192) rfl e191_57 rfl rfl ?_
  refine q_iload_n rfl rfl ?_
  refine q_iconst rfl ?_
  refine s_iastore (j := 4) rfl o57 (by decide) rfl (fun h58 o58 f58 => ?_)
  have s58 := s57.put f58
  refine s_iinc (y := 5) (lv' := [(2, .int 5), (0, .ref 191), (1, .int 15)]) rfl rfl (by decide) (by decide) rfl ?_
  refine q_goto rfl ?_
  refine q_iload_n rfl rfl ?_
  refine q_bipush rfl ?_
  refine q_icmp_ge rfl (fun c => absurd c (by decide)) (fun _ => ?_)
  refine q_aload_n rfl rfl ?_
  have e191_58 := (e191_57.ne f58 rfl)
  refine s_get (v := .ref 192) rfl e191_58 rfl rfl ?_
  refine q_iload_n rfl rfl ?_
  refine q_iconst rfl ?_
  refine s_iastore (j := 5) rfl o58 (by decide) rfl (fun h59 o59 f59 => ?_)
  have s59 := s58.put f59
  refine s_iinc (y := 6) (lv' := [(2, .int 6), (0, .ref 191), (1, .int 15)]) rfl rfl (by decide) (by decide) rfl ?_
  refine q_goto rfl ?_
  refine q_iload_n rfl rfl ?_
  refine q_bipush rfl ?_
  refine q_icmp_ge rfl (fun c => absurd c (by decide)) (fun _ => ?_)
  refine q_aload_n rfl rfl ?_
  have e191_59 := (e191_58.ne f59 rfl)
  refine s_get (v := .ref 192) rfl e191_59 rfl rfl ?_
  refine q_iload_n rfl rfl ?_
  refine q_iconst rfl ?_
  refine s_iastore (j := 6) rfl o59 (by decide) rfl (fun h60 o60 f60 => ?_)
  have s60 := s59.put f60
  refine s_iinc (y := 7) (lv' := [(2, .int 7), (0, .ref 191), (1, .int 15)]) rfl rfl (by decide) (by decide) rfl ?_
  refine q_goto rfl ?_
  refine q_iload_n rfl rfl ?_
  refine q_bipush rfl ?_
  refine q_icmp_ge rfl (fun c => absurd c (by decide)) (fun _ => ?_)
  refine q_aload_n rfl rfl ?_
  have e191_60 := (e191_59.ne f60 rfl)
  refine s_get (v := .ref 192) rfl e191_60 rfl rfl ?_
  refine q_iload_n rfl rfl ?_
  refine q_iconst rfl ?_
  refine s_iastore (j := 7) rfl o60 (by decide) rfl (fun h61 o61 f61 => ?_)
  have s61 := s60.put f61
  refine s_iinc (y := 8) (lv' := [(2, .int 8), (0, .ref 191), (1, .int 15)]) rfl rfl (by decide) (by decide) rfl ?_
  refine q_goto rfl ?_
  refine q_iload_n rfl rfl ?_
  refine q_bipush rfl ?_
  refine q_icmp_ge rfl (fun c => absurd c (by decide)) (fun _ => ?_)
  refine q_aload_n rfl rfl ?_
  have e191_61 := (e191_60.ne f61 rfl)
  refine s_get (v := .ref 192) rfl e191_61 rfl rfl ?_
  refine q_iload_n rfl rfl ?_
  refine q_iconst rfl ?_
  refine s_iastore (j := 8) rfl o61 (by decide) rfl (fun h62 o62 f62 => ?_)
  have s62 := s61.put f62
  refine s_iinc (y := 9) (lv' := [(2, .int 9), (0, .ref 191), (1, .int 15)]) rfl rfl (by decide) (by decide) rfl ?_
  refine q_goto rfl ?_
  refine q_iload_n rfl rfl ?_
  refine q_bipush rfl ?_
  refine q_icmp_ge rfl (fun c => absurd c (by decide)) (fun _ => ?_)
  refine q_aload_n rfl rfl ?_
  have e191_62 := (e191_61.ne f62 rfl)
  refine s_get (v := .ref 192) rfl e191_62 rfl rfl ?_
  refine q_iload_n rfl rfl ?_
  refine q_iconst rfl ?_
  refine s_iastore (j := 9) rfl o62 (by decide) rfl (fun h63 o63 f63 => ?_)
  have s63 := s62.put f63
  refine s_iinc (y := 10) (lv' := [(2, .int 10), (0, .ref 191), (1, .int 15)]) rfl rfl (by decide) (by decide) rfl ?_
  refine q_goto rfl ?_
  refine q_iload_n rfl rfl ?_
  refine q_bipush rfl ?_
  refine q_icmp_ge rfl (fun c => absurd c (by decide)) (fun _ => ?_)
  refine q_aload_n rfl rfl ?_
  have e191_63 := (e191_62.ne f63 rfl)
  refine s_get (v := .ref 192) rfl e191_63 rfl rfl ?_
  refine q_iload_n rfl rfl ?_
  refine q_iconst rfl ?_
  refine s_iastore (j := 10) rfl o63 (by decide) rfl (fun h64 o64 f64 => ?_)
  have s64 := s63.put f64
  refine s_iinc (y := 11) (lv' := [(2, .int 11), (0, .ref 191), (1, .int 15)]) rfl rfl (by decide) (by decide) rfl ?_
  refine q_goto rfl ?_
  refine q_iload_n rfl rfl ?_
  refine q_bipush rfl ?_
  refine q_icmp_ge rfl (fun c => absurd c (by decide)) (fun _ => ?_)
  refine q_aload_n rfl rfl ?_
  have e191_64 := (e191_63.ne f64 rfl)
  refine s_get (v := .ref 192) rfl e191_64 rfl rfl ?_
  refine q_iload_n rfl rfl ?_
  refine q_iconst rfl ?_
  refine s_iastore (j := 11) rfl o64 (by decide) rfl (fun h65 o65 f65 => ?_)
  have s65 := s64.put f65
  refine s_iinc (y := 12) (lv' := [(2, .int 12), (0, .ref 191), (1, .int 15)]) rfl rfl (by decide) (by decide) rfl ?_
  refine q_goto rfl ?_
  refine q_iload_n rfl rfl ?_
  refine q_bipush rfl ?_
  refine q_icmp_ge rfl (fun c => absurd c (by decide)) (fun _ => ?_)
  refine q_aload_n rfl rfl ?_
  have e191_65 := (e191_64.ne f65 rfl)
  refine s_get (v := .ref 192) rfl e191_65 rfl rfl ?_
  refine q_iload_n rfl rfl ?_
  refine q_iconst rfl ?_
  refine s_iastore (j := 12) rfl o65 (by decide) rfl (fun h66 o66 f66 => ?_)
  have s66 := s65.put f66
  refine s_iinc (y := 13) (lv' := [(2, .int 13), (0, .ref 191), (1, .int 15)]) rfl rfl (by decide) (by decide) rfl ?_
  refine q_goto rfl ?_
  refine q_iload_n rfl rfl ?_
  refine q_bipush rfl ?_
  refine q_icmp_ge rfl (fun c => absurd c (by decide)) (fun _ => ?_)
  refine q_aload_n rfl rfl ?_
  have e191_66 := (e191_65.ne f66 rfl)
  refine s_get (v := .ref 192) rfl e191_66 rfl rfl ?_
  refine q_iload_n rfl rfl ?_
  refine q_iconst rfl ?_
  refine s_iastore (j := 13) rfl o66 (by decide) rfl (fun h67 o67 f67 => ?_)
  have s67 := s66.put f67
  refine s_iinc (y := 14) (lv' := [(2, .int 14), (0, .ref 191), (1, .int 15)]) rfl rfl (by decide) (by decide) rfl ?_
  refine q_goto rfl ?_
  refine q_iload_n rfl rfl ?_
  refine q_bipush rfl ?_
  refine q_icmp_ge rfl (fun c => absurd c (by decide)) (fun _ => ?_)
  refine q_aload_n rfl rfl ?_
  have e191_67 := (e191_66.ne f67 rfl)
  refine s_get (v := .ref 192) rfl e191_67 rfl rfl ?_
  refine q_iload_n rfl rfl ?_
  refine q_iconst rfl ?_
  refine s_iastore (j := 14) rfl o67 (by decide) rfl (fun h68 o68 f68 => ?_)
  have s68 := s67.put f68
  refine s_iinc (y := 15) (lv' := [(2, .int 15), (0, .ref 191), (1, .int 15)]) rfl rfl (by decide) (by decide) rfl ?_
  refine q_goto rfl ?_
  refine q_iload_n rfl rfl ?_
  refine q_bipush rfl ?_
  refine q_icmp_ge rfl (fun c => absurd c (by decide)) (fun _ => ?_)
  refine q_aload_n rfl rfl ?_
  have e191_68 := (e191_67.ne f68 rfl)
  refine s_get (v := .ref 192) rfl e191_68 rfl rfl ?_
  refine q_iload_n rfl rfl ?_
  refine q_iconst rfl ?_
  refine s_iastore (j := 15) rfl o68 (by decide) rfl (fun h69 o69 f69 => ?_)
  have s69 := s68.put f69
  refine s_iinc (y := 16) (lv' := [(2, .int 16), (0, .ref 191), (1, .int 15)]) rfl rfl (by decide) (by decide) rfl ?_
  refine q_goto rfl ?_
  refine q_iload_n rfl rfl ?_
  refine q_bipush rfl ?_
  refine q_icmp_ge rfl (fun c => absurd c (by decide)) (fun _ => ?_)
  refine q_aload_n rfl rfl ?_
  have e191_69 := (e191_68.ne f69 rfl)
  refine s_get (v := .ref 192) rfl e191_69 rfl rfl ?_
  refine q_iload_n rfl rfl ?_
  refine q_iconst rfl ?_
  refine s_iastore (j := 16) rfl o69 (by decide) rfl (fun h70 o70 f70 => ?_)
  have s70 := s69.put f70
  refine s_iinc (y := 17) (lv' := [(2, .int 17), (0, .ref 191), (1, .int 15)]) rfl rfl (by decide) (by decide) rfl ?_
  refine q_goto rfl ?_
  refine q_iload_n rfl rfl ?_
  refine q_bipush rfl ?_
  refine q_icmp_ge rfl (fun c => absurd c (by decide)) (fun _ => ?_)
  refine q_aload_n rfl rfl ?_
  have e191_70 := (e191_69.ne f70 rfl)
  refine s_get (v := .ref 192) rfl e191_70 rfl rfl ?_
  refine q_iload_n rfl rfl ?_
  refine q_iconst rfl ?_
  refine s_iastore (j := 17) rfl o70 (by decide) rfl (fun h71 o71 f71 => ?_)
  have s71 := s70.put f71
  refine s_iinc (y := 18) (lv' := [(2, .int 18), (0, .ref 191), (1, .int 15)]) rfl rfl (by decide) (by decide) rfl ?_
  refine q_goto rfl ?_
  refine q_iload_n rfl rfl ?_
  refine q_bipush rfl ?_
  refine q_icmp_ge rfl (fun c => absurd c (by decide)) (fun _ => ?_)
  refine q_aload_n rfl rfl ?_
  have e191_71 := (e191_70.ne f71 rfl)
  refine s_get (v := .ref 192) rfl e191_71 rfl rfl ?_
  refine q_iload_n rfl rfl ?_
  refine q_iconst rfl ?_
  refine s_iastore (j := 18) rfl o71 (by decide) rfl (fun h72 o72 f72 => ?_)
  have s72 := s71.put f72
  refine s_iinc (y := 19) (lv' := [(2, .int 19), (0, .ref 191), (1, .int 15)]) rfl rfl (by decide) (by decide) rfl ?_
  refine q_goto rfl ?_
  refine q_iload_n rfl rfl ?_
  refine q_bipush rfl ?_
  refine q_icmp_ge rfl (fun c => absurd c (by decide)) (fun _ => ?_)
  refine q_aload_n rfl rfl ?_
  have e191_72 := (e191_71.ne f72 rfl)
  refine s_get (v := .ref 192) rfl e191_72 rfl rfl ?_
  refine q_iload_n rfl rfl ?_
  refine q_iconst rfl ?_
  refine s_iastore (j := 19) rfl o72 (by decide) rfl (fun h73 o73 f73 => ?_)
  have s73 := s72.put f73
  refine s_iinc (y := 20) (lv' := [(2, .int 20), (0, .ref 191), (1, .int 15)]) rfl rfl (by decide) (by decide) rfl ?_
  refine q_goto rfl ?_
  refine q_iload_n rfl rfl ?_
  refine q_bipush rfl ?_
  refine q_icmp_ge rfl (fun _ => ?_) (fun c => absurd (by decide) c)
  refine q_aload_n rfl rfl ?_
  have e191_73 := (e191_72.ne f73 rfl)
  refine s_get (v := .int 15) rfl e191_73 rfl rfl ?_
  refine q_ireturn rfl rfl ?_
  show aW aiP 0 17 658 243 [(4, .int 0), (3, .ref 233), (2, .ref 191), (1, .ref 6), (0, .ref 0)] [.int 15, .int 15] h73 _
  refine q_icmp_eq rfl (fun _ => ?_) (fun c => absurd (by decide) c)
  refine s_iinc (y := 6) (lv' := [(4, .int 6), (3, .ref 233), (2, .ref 191), (1, .ref 6), (0, .ref 0)]) rfl rfl (by decide) (by decide) rfl ?_
  refine q_goto rfl ?_
  refine q_iload rfl rfl ?_
  refine q_aload_n rfl rfl ?_
  have e0_73 := (f73.ne rfl (f72.ne rfl (f71.ne rfl (f70.ne rfl (f69.ne rfl (f68.ne rfl (f67.ne rfl (f66.ne rfl (f65.ne rfl (f64.ne rfl (f63.ne rfl (f62.ne rfl (f61.ne rfl (f60.ne rfl (f59.ne rfl (f58.ne rfl (f57.ne rfl (f56.ne rfl (f55.ne rfl (f54.ne rfl (f53.ne rfl (f52.ne rfl (f51.ne rfl (f50.ne rfl (f49.ne rfl (f48.ne rfl (f47.ne rfl (f46.ne rfl (f45.ne rfl (f44.ne rfl (f43.ne rfl (f42.ne rfl (f41.ne rfl (f40.ne rfl (f39.ne rfl (f38.ne rfl (f37.ne rfl (f36.ne rfl (f35.ne rfl (f34.ne rfl (f33.ne rfl (f32.ne rfl (f31.ne rfl (f30.ne rfl (f29.ne rfl (f28.ne rfl (f27.ne rfl (f26.ne rfl (f25.ne rfl (f24.ne rfl (f23.ne rfl e0_22)))))))))))))))))))))))))))))))))))))))))))))))))))
  refine s_alen (x := 6) rfl e0_73 rfl (by decide) ?_
  refine q_bipush rfl ?_
  refine s_isub (k := 0) rfl (by decide) ?_
  refine q_icmp_gt rfl (fun _ => ?_) (fun c => absurd (by decide) c)
  refine q_iconst rfl ?_
  refine q_ireturn rfl rfl ?_
  exact ⟨rfl, s73.bd rfl⟩
set_option maxRecDepth 20000 in
set_option maxHeartbeats 4000000 in
theorem p_case1_16 {xs : Nat → Int32} {h : ai_H} (F : Fresh 6 xs h) (hk : xs 0 &&& 31 = 1) (hw : xs 1 = 16) : aW aiP 0 17 658 33 [(4, .int 0), (3, .ref 233), (2, .ref 191), (1, .ref 6), (0, .ref 0)] [] h p_Q := by
  obtain ⟨e0, e1, ⟨g2, e2⟩, ⟨g3, e3⟩, ⟨g4, e4⟩, e5, e6, e7, e8, e9, e51, e93, e135, e177, e178, e179, e180, e181, e182, e183, e184, e185, e186, e187, e188, e189, e190, e191, e192, e193, e194, e195, e196, e197, e198, e199, e200, e201, e202, e203, e204, e205, e206, e207, e208, e209, e210, e211, e212, e213, e214, e215, e216, e217, e218, e219, e220, e221, e222, e223, e224, e225, e226, e227, ⟨g228, e228⟩, ⟨g229, e229⟩, e230, e231, e232, e233, s0⟩ := F
  refine q_aload_n rfl rfl ?_
  refine q_iload rfl rfl ?_
  refine s_iaload (j := 0) (v := .int (xs 0)) rfl e0 (by decide) rfl (by first | rfl | decide) ?_
  refine q_bipush rfl ?_
  refine s_iand (k := ((xs 0) &&& (31 : Int32))) rfl rfl ?_
  rw [hk]
  show aW aiP 0 17 658 40 [(4, .int 0), (3, .ref 233), (2, .ref 191), (1, .ref 6), (0, .ref 0)] [.int 1] h _
  refine s_sw (tg := 223) rfl rfl ?_
  refine q_aload_n rfl rfl ?_
  refine q_aload_n rfl rfl ?_
  refine q_iload rfl rfl ?_
  refine q_iconst rfl ?_
  refine s_iadd (k := 1) rfl (by decide) ?_
  refine s_iaload (j := 1) (v := .int (xs 1)) rfl e0 (by decide) rfl (by first | rfl | decide) ?_
  rw [hw]
  refine s_callV (as := [.int 16]) (rest := []) (d' := 16) (w' := 637) (lv' := [(0, .ref 6), (1, .int 16)]) rfl e6 rfl rfl rfl rfl rfl rfl ?_
  refine q_iload_n rfl rfl ?_
  refine q_if_lt rfl (fun c => absurd c (by decide)) (fun _ => ?_)
  refine q_iload_n rfl rfl ?_
  refine q_bipush rfl ?_
  refine q_icmp_gt rfl (fun c => absurd c (by decide)) (fun _ => ?_)
  refine q_aload_n rfl rfl ?_
  refine s_get (v := .int 0) rfl e6 rfl rfl ?_
  refine q_iload_n rfl rfl ?_
  refine s_iadd (k := 16) rfl (by decide) ?_
  refine q_sipush rfl ?_
  refine q_icmp_le rfl (fun _ => ?_) (fun c => absurd (by decide) c)
  refine q_aload_n rfl rfl ?_
  refine s_get (v := .ref 7) rfl e6 rfl rfl ?_
  refine q_iconst rfl ?_
  refine q_aload_n rfl rfl ?_
  refine s_get (v := .ref 8) rfl e6 rfl rfl ?_
  refine q_aload_n rfl rfl ?_
  refine s_get (v := .int 0) rfl e6 rfl rfl ?_
  refine q_iload_n rfl rfl ?_
  refine s_copy (sp := 0) (dp := 0) (k := 16) rfl e7 e8 (by decide) (by decide) (by decide) rfl (by decide) (by decide) (by decide) (fun i _ => rfl) (fun h1 o1 f1 => ?_)
  have s1 := s0.put f1
  refine q_aload_n rfl rfl ?_
  refine q_dup rfl rfl ?_
  have e6_1 := (e6.ne f1 rfl)
  refine s_get (v := .int 0) rfl e6_1 rfl rfl ?_
  refine q_iload_n rfl rfl ?_
  refine s_iadd (k := 16) rfl (by decide) ?_
  refine s_put (vs' := [.ref 7, .ref 8, .int 16, .ref 9, .int (-1), .ref 51, .ref 93, .ref 135, .ref 177, .ref 180, .int 0, .ref 183, .ref 186, .ref 189]) rfl e6_1 rfl rfl rfl rfl (fun h2 o2 f2 => ?_)
  have s2 := s1.put f2
  refine q_aload_n rfl rfl ?_
  refine s_get (v := .ref 7) rfl o2 rfl rfl ?_
  refine q_iconst rfl ?_
  refine s_callS (as := [.ref 7, .int 0]) (rest := []) (d' := 15) (w' := 614) (lv' := [(0, .ref 7), (1, .int 0)]) rfl rfl rfl rfl rfl rfl rfl rfl ?_
  refine q_iconst rfl ?_
  refine s_istore_n (lv' := [(2, .int 0), (0, .ref 7), (1, .int 0)]) rfl (by decide) rfl ?_
  refine q_aload_n rfl rfl ?_
  have e7_2 := (f2.ne rfl (f1.ne rfl e7))
  refine s_alen (x := 20) rfl e7_2 rfl (by decide) ?_
  refine s_istore_n (lv' := [(3, .int 20), (2, .int 0), (0, .ref 7), (1, .int 0)]) rfl (by decide) rfl ?_
  refine q_iload_n rfl rfl ?_
  refine q_iload_n rfl rfl ?_
  refine q_icmp_ge rfl (fun c => absurd c (by decide)) (fun _ => ?_)
  refine q_aload_n rfl rfl ?_
  refine q_iload_n rfl rfl ?_
  refine q_iload_n rfl rfl ?_
  refine s_bastore (j := 0) rfl e7_2 (by decide) rfl (fun h3 o3 f3 => ?_)
  have s3 := s2.put f3
  refine s_iinc (y := 1) (lv' := [(2, .int 1), (3, .int 20), (0, .ref 7), (1, .int 0)]) rfl rfl (by decide) (by decide) rfl ?_
  refine q_goto rfl ?_
  refine q_iload_n rfl rfl ?_
  refine q_iload_n rfl rfl ?_
  refine q_icmp_ge rfl (fun c => absurd c (by decide)) (fun _ => ?_)
  refine q_aload_n rfl rfl ?_
  refine q_iload_n rfl rfl ?_
  refine q_iload_n rfl rfl ?_
  refine s_bastore (j := 1) rfl o3 (by decide) rfl (fun h4 o4 f4 => ?_)
  have s4 := s3.put f4
  refine s_iinc (y := 2) (lv' := [(2, .int 2), (3, .int 20), (0, .ref 7), (1, .int 0)]) rfl rfl (by decide) (by decide) rfl ?_
  refine q_goto rfl ?_
  refine q_iload_n rfl rfl ?_
  refine q_iload_n rfl rfl ?_
  refine q_icmp_ge rfl (fun c => absurd c (by decide)) (fun _ => ?_)
  refine q_aload_n rfl rfl ?_
  refine q_iload_n rfl rfl ?_
  refine q_iload_n rfl rfl ?_
  refine s_bastore (j := 2) rfl o4 (by decide) rfl (fun h5 o5 f5 => ?_)
  have s5 := s4.put f5
  refine s_iinc (y := 3) (lv' := [(2, .int 3), (3, .int 20), (0, .ref 7), (1, .int 0)]) rfl rfl (by decide) (by decide) rfl ?_
  refine q_goto rfl ?_
  refine q_iload_n rfl rfl ?_
  refine q_iload_n rfl rfl ?_
  refine q_icmp_ge rfl (fun c => absurd c (by decide)) (fun _ => ?_)
  refine q_aload_n rfl rfl ?_
  refine q_iload_n rfl rfl ?_
  refine q_iload_n rfl rfl ?_
  refine s_bastore (j := 3) rfl o5 (by decide) rfl (fun h6 o6 f6 => ?_)
  have s6 := s5.put f6
  refine s_iinc (y := 4) (lv' := [(2, .int 4), (3, .int 20), (0, .ref 7), (1, .int 0)]) rfl rfl (by decide) (by decide) rfl ?_
  refine q_goto rfl ?_
  refine q_iload_n rfl rfl ?_
  refine q_iload_n rfl rfl ?_
  refine q_icmp_ge rfl (fun c => absurd c (by decide)) (fun _ => ?_)
  refine q_aload_n rfl rfl ?_
  refine q_iload_n rfl rfl ?_
  refine q_iload_n rfl rfl ?_
  refine s_bastore (j := 4) rfl o6 (by decide) rfl (fun h7 o7 f7 => ?_)
  have s7 := s6.put f7
  refine s_iinc (y := 5) (lv' := [(2, .int 5), (3, .int 20), (0, .ref 7), (1, .int 0)]) rfl rfl (by decide) (by decide) rfl ?_
  refine q_goto rfl ?_
  refine q_iload_n rfl rfl ?_
  refine q_iload_n rfl rfl ?_
  refine q_icmp_ge rfl (fun c => absurd c (by decide)) (fun _ => ?_)
  refine q_aload_n rfl rfl ?_
  refine q_iload_n rfl rfl ?_
  refine q_iload_n rfl rfl ?_
  refine s_bastore (j := 5) rfl o7 (by decide) rfl (fun h8 o8 f8 => ?_)
  have s8 := s7.put f8
  refine s_iinc (y := 6) (lv' := [(2, .int 6), (3, .int 20), (0, .ref 7), (1, .int 0)]) rfl rfl (by decide) (by decide) rfl ?_
  refine q_goto rfl ?_
  refine q_iload_n rfl rfl ?_
  refine q_iload_n rfl rfl ?_
  refine q_icmp_ge rfl (fun c => absurd c (by decide)) (fun _ => ?_)
  refine q_aload_n rfl rfl ?_
  refine q_iload_n rfl rfl ?_
  refine q_iload_n rfl rfl ?_
  refine s_bastore (j := 6) rfl o8 (by decide) rfl (fun h9 o9 f9 => ?_)
  have s9 := s8.put f9
  refine s_iinc (y := 7) (lv' := [(2, .int 7), (3, .int 20), (0, .ref 7), (1, .int 0)]) rfl rfl (by decide) (by decide) rfl ?_
  refine q_goto rfl ?_
  refine q_iload_n rfl rfl ?_
  refine q_iload_n rfl rfl ?_
  refine q_icmp_ge rfl (fun c => absurd c (by decide)) (fun _ => ?_)
  refine q_aload_n rfl rfl ?_
  refine q_iload_n rfl rfl ?_
  refine q_iload_n rfl rfl ?_
  refine s_bastore (j := 7) rfl o9 (by decide) rfl (fun h10 o10 f10 => ?_)
  have s10 := s9.put f10
  refine s_iinc (y := 8) (lv' := [(2, .int 8), (3, .int 20), (0, .ref 7), (1, .int 0)]) rfl rfl (by decide) (by decide) rfl ?_
  refine q_goto rfl ?_
  refine q_iload_n rfl rfl ?_
  refine q_iload_n rfl rfl ?_
  refine q_icmp_ge rfl (fun c => absurd c (by decide)) (fun _ => ?_)
  refine q_aload_n rfl rfl ?_
  refine q_iload_n rfl rfl ?_
  refine q_iload_n rfl rfl ?_
  refine s_bastore (j := 8) rfl o10 (by decide) rfl (fun h11 o11 f11 => ?_)
  have s11 := s10.put f11
  refine s_iinc (y := 9) (lv' := [(2, .int 9), (3, .int 20), (0, .ref 7), (1, .int 0)]) rfl rfl (by decide) (by decide) rfl ?_
  refine q_goto rfl ?_
  refine q_iload_n rfl rfl ?_
  refine q_iload_n rfl rfl ?_
  refine q_icmp_ge rfl (fun c => absurd c (by decide)) (fun _ => ?_)
  refine q_aload_n rfl rfl ?_
  refine q_iload_n rfl rfl ?_
  refine q_iload_n rfl rfl ?_
  refine s_bastore (j := 9) rfl o11 (by decide) rfl (fun h12 o12 f12 => ?_)
  have s12 := s11.put f12
  refine s_iinc (y := 10) (lv' := [(2, .int 10), (3, .int 20), (0, .ref 7), (1, .int 0)]) rfl rfl (by decide) (by decide) rfl ?_
  refine q_goto rfl ?_
  refine q_iload_n rfl rfl ?_
  refine q_iload_n rfl rfl ?_
  refine q_icmp_ge rfl (fun c => absurd c (by decide)) (fun _ => ?_)
  refine q_aload_n rfl rfl ?_
  refine q_iload_n rfl rfl ?_
  refine q_iload_n rfl rfl ?_
  refine s_bastore (j := 10) rfl o12 (by decide) rfl (fun h13 o13 f13 => ?_)
  have s13 := s12.put f13
  refine s_iinc (y := 11) (lv' := [(2, .int 11), (3, .int 20), (0, .ref 7), (1, .int 0)]) rfl rfl (by decide) (by decide) rfl ?_
  refine q_goto rfl ?_
  refine q_iload_n rfl rfl ?_
  refine q_iload_n rfl rfl ?_
  refine q_icmp_ge rfl (fun c => absurd c (by decide)) (fun _ => ?_)
  refine q_aload_n rfl rfl ?_
  refine q_iload_n rfl rfl ?_
  refine q_iload_n rfl rfl ?_
  refine s_bastore (j := 11) rfl o13 (by decide) rfl (fun h14 o14 f14 => ?_)
  have s14 := s13.put f14
  refine s_iinc (y := 12) (lv' := [(2, .int 12), (3, .int 20), (0, .ref 7), (1, .int 0)]) rfl rfl (by decide) (by decide) rfl ?_
  refine q_goto rfl ?_
  refine q_iload_n rfl rfl ?_
  refine q_iload_n rfl rfl ?_
  refine q_icmp_ge rfl (fun c => absurd c (by decide)) (fun _ => ?_)
  refine q_aload_n rfl rfl ?_
  refine q_iload_n rfl rfl ?_
  refine q_iload_n rfl rfl ?_
  refine s_bastore (j := 12) rfl o14 (by decide) rfl (fun h15 o15 f15 => ?_)
  have s15 := s14.put f15
  refine s_iinc (y := 13) (lv' := [(2, .int 13), (3, .int 20), (0, .ref 7), (1, .int 0)]) rfl rfl (by decide) (by decide) rfl ?_
  refine q_goto rfl ?_
  refine q_iload_n rfl rfl ?_
  refine q_iload_n rfl rfl ?_
  refine q_icmp_ge rfl (fun c => absurd c (by decide)) (fun _ => ?_)
  refine q_aload_n rfl rfl ?_
  refine q_iload_n rfl rfl ?_
  refine q_iload_n rfl rfl ?_
  refine s_bastore (j := 13) rfl o15 (by decide) rfl (fun h16 o16 f16 => ?_)
  have s16 := s15.put f16
  refine s_iinc (y := 14) (lv' := [(2, .int 14), (3, .int 20), (0, .ref 7), (1, .int 0)]) rfl rfl (by decide) (by decide) rfl ?_
  refine q_goto rfl ?_
  refine q_iload_n rfl rfl ?_
  refine q_iload_n rfl rfl ?_
  refine q_icmp_ge rfl (fun c => absurd c (by decide)) (fun _ => ?_)
  refine q_aload_n rfl rfl ?_
  refine q_iload_n rfl rfl ?_
  refine q_iload_n rfl rfl ?_
  refine s_bastore (j := 14) rfl o16 (by decide) rfl (fun h17 o17 f17 => ?_)
  have s17 := s16.put f17
  refine s_iinc (y := 15) (lv' := [(2, .int 15), (3, .int 20), (0, .ref 7), (1, .int 0)]) rfl rfl (by decide) (by decide) rfl ?_
  refine q_goto rfl ?_
  refine q_iload_n rfl rfl ?_
  refine q_iload_n rfl rfl ?_
  refine q_icmp_ge rfl (fun c => absurd c (by decide)) (fun _ => ?_)
  refine q_aload_n rfl rfl ?_
  refine q_iload_n rfl rfl ?_
  refine q_iload_n rfl rfl ?_
  refine s_bastore (j := 15) rfl o17 (by decide) rfl (fun h18 o18 f18 => ?_)
  have s18 := s17.put f18
  refine s_iinc (y := 16) (lv' := [(2, .int 16), (3, .int 20), (0, .ref 7), (1, .int 0)]) rfl rfl (by decide) (by decide) rfl ?_
  refine q_goto rfl ?_
  refine q_iload_n rfl rfl ?_
  refine q_iload_n rfl rfl ?_
  refine q_icmp_ge rfl (fun c => absurd c (by decide)) (fun _ => ?_)
  refine q_aload_n rfl rfl ?_
  refine q_iload_n rfl rfl ?_
  refine q_iload_n rfl rfl ?_
  refine s_bastore (j := 16) rfl o18 (by decide) rfl (fun h19 o19 f19 => ?_)
  have s19 := s18.put f19
  refine s_iinc (y := 17) (lv' := [(2, .int 17), (3, .int 20), (0, .ref 7), (1, .int 0)]) rfl rfl (by decide) (by decide) rfl ?_
  refine q_goto rfl ?_
  refine q_iload_n rfl rfl ?_
  refine q_iload_n rfl rfl ?_
  refine q_icmp_ge rfl (fun c => absurd c (by decide)) (fun _ => ?_)
  refine q_aload_n rfl rfl ?_
  refine q_iload_n rfl rfl ?_
  refine q_iload_n rfl rfl ?_
  refine s_bastore (j := 17) rfl o19 (by decide) rfl (fun h20 o20 f20 => ?_)
  have s20 := s19.put f20
  refine s_iinc (y := 18) (lv' := [(2, .int 18), (3, .int 20), (0, .ref 7), (1, .int 0)]) rfl rfl (by decide) (by decide) rfl ?_
  refine q_goto rfl ?_
  refine q_iload_n rfl rfl ?_
  refine q_iload_n rfl rfl ?_
  refine q_icmp_ge rfl (fun c => absurd c (by decide)) (fun _ => ?_)
  refine q_aload_n rfl rfl ?_
  refine q_iload_n rfl rfl ?_
  refine q_iload_n rfl rfl ?_
  refine s_bastore (j := 18) rfl o20 (by decide) rfl (fun h21 o21 f21 => ?_)
  have s21 := s20.put f21
  refine s_iinc (y := 19) (lv' := [(2, .int 19), (3, .int 20), (0, .ref 7), (1, .int 0)]) rfl rfl (by decide) (by decide) rfl ?_
  refine q_goto rfl ?_
  refine q_iload_n rfl rfl ?_
  refine q_iload_n rfl rfl ?_
  refine q_icmp_ge rfl (fun c => absurd c (by decide)) (fun _ => ?_)
  refine q_aload_n rfl rfl ?_
  refine q_iload_n rfl rfl ?_
  refine q_iload_n rfl rfl ?_
  refine s_bastore (j := 19) rfl o21 (by decide) rfl (fun h22 o22 f22 => ?_)
  have s22 := s21.put f22
  refine s_iinc (y := 20) (lv' := [(2, .int 20), (3, .int 20), (0, .ref 7), (1, .int 0)]) rfl rfl (by decide) (by decide) rfl ?_
  refine q_goto rfl ?_
  refine q_iload_n rfl rfl ?_
  refine q_iload_n rfl rfl ?_
  refine q_icmp_ge rfl (fun _ => ?_) (fun c => absurd (by decide) c)
  refine q_return rfl rfl ?_
  show aW aiP 15 16 637 59 [(0, .ref 6), (1, .int 16)] [] h22 _
  refine q_aload_n rfl rfl ?_
  have e6_22 := ((((((((((((((((((((o2.ne f3 rfl).ne f4 rfl).ne f5 rfl).ne f6 rfl).ne f7 rfl).ne f8 rfl).ne f9 rfl).ne f10 rfl).ne f11 rfl).ne f12 rfl).ne f13 rfl).ne f14 rfl).ne f15 rfl).ne f16 rfl).ne f17 rfl).ne f18 rfl).ne f19 rfl).ne f20 rfl).ne f21 rfl).ne f22 rfl)
  refine s_get (v := .int 16) rfl e6_22 rfl rfl ?_
  refine q_ireturn rfl rfl ?_
  show aW aiP 0 17 658 233 [(4, .int 0), (3, .ref 233), (2, .ref 191), (1, .ref 6), (0, .ref 0)] [.int 16] h22 _
  refine q_aload_n rfl rfl ?_
  refine q_aload_n rfl rfl ?_
  refine q_iload rfl rfl ?_
  refine q_iconst rfl ?_
  refine s_iadd (k := 1) rfl (by decide) ?_
  have e0_22 := (f22.ne rfl (f21.ne rfl (f20.ne rfl (f19.ne rfl (f18.ne rfl (f17.ne rfl (f16.ne rfl (f15.ne rfl (f14.ne rfl (f13.ne rfl (f12.ne rfl (f11.ne rfl (f10.ne rfl (f9.ne rfl (f8.ne rfl (f7.ne rfl (f6.ne rfl (f5.ne rfl (f4.ne rfl (f3.ne rfl (f2.ne rfl (f1.ne rfl e0))))))))))))))))))))))
  refine s_iaload (j := 1) (v := .int (xs 1)) rfl e0_22 (by decide) rfl (by first | rfl | decide) ?_
  rw [hw]
  have e191_22 := ((((((((((((((((((((((e191.ne f1 rfl).ne f2 rfl).ne f3 rfl).ne f4 rfl).ne f5 rfl).ne f6 rfl).ne f7 rfl).ne f8 rfl).ne f9 rfl).ne f10 rfl).ne f11 rfl).ne f12 rfl).ne f13 rfl).ne f14 rfl).ne f15 rfl).ne f16 rfl).ne f17 rfl).ne f18 rfl).ne f19 rfl).ne f20 rfl).ne f21 rfl).ne f22 rfl)
  refine s_callV (as := [.int 16]) (rest := [.int 16]) (d' := 16) (w' := 636) (lv' := [(0, .ref 191), (1, .int 16)]) rfl e191_22 rfl rfl rfl rfl rfl rfl ?_
  refine q_aload_n rfl rfl ?_
  refine q_iconst rfl ?_
  refine s_put (vs' := [.int 0, .ref 192, .ref 193, .int 0, .ref 194, .ref 195, .ref 196, .ref 197, .ref 198, .ref 199, .ref 200, .ref 201, .ref 202, .ref 203, .ref 204, .ref 205, .int (-1), .int 0, .ref 206, .ref 207, .ref 208, .ref 209, .ref 210, .ref 211, .ref 212, .ref 213, .ref 214, .ref 215, .int 0, .int 0, .int 0, .int 0, .ref 216, .ref 217, .ref 218, .ref 219, .ref 220, .int (-1), .int 0, .int 0, .int 0, .int 0, .int 0, .int 0, .ref 221, .ref 222, .ref 223, .ref 224, .int 0, .ref 225, .int 0, .ref 226, .ref 227, .int 0, .ref 228, .ref 229, .ref 230, .ref 231, .ref 232]) rfl e191_22 rfl rfl rfl rfl (fun h23 o23 f23 => ?_)
  have s23 := s22.put f23
  refine q_iload_n rfl rfl ?_
  refine q_if_lt rfl (fun c => absurd c (by decide)) (fun _ => ?_)
  refine q_iload_n rfl rfl ?_
  refine q_bipush rfl ?_
  refine q_icmp_gt rfl (fun c => absurd c (by decide)) (fun _ => ?_)
  refine q_aload_n rfl rfl ?_
  refine s_get (v := .int 0) rfl o23 rfl rfl ?_
  refine q_iload_n rfl rfl ?_
  refine s_iadd (k := 16) rfl (by decide) ?_
  refine q_sipush rfl ?_
  refine q_icmp_le rfl (fun _ => ?_) (fun c => absurd (by decide) c)
  refine q_iconst rfl ?_
  refine s_istore_n (lv' := [(2, .int 0), (0, .ref 191), (1, .int 16)]) rfl (by decide) rfl ?_
  refine q_iload_n rfl rfl ?_
  refine q_iload_n rfl rfl ?_
  refine q_icmp_ge rfl (fun c => absurd c (by decide)) (fun _ => ?_)
  refine q_aload_n rfl rfl ?_
  refine s_get (v := .ref 193) rfl o23 rfl rfl ?_
  refine q_aload_n rfl rfl ?_
  refine s_get (v := .int 0) rfl o23 rfl rfl ?_
  refine q_aload_n rfl rfl ?_
  refine s_get (v := .ref 192) rfl o23 rfl rfl ?_
  refine q_iload_n rfl rfl ?_
  have e192_23 := (f23.ne rfl (f22.ne rfl (f21.ne rfl (f20.ne rfl (f19.ne rfl (f18.ne rfl (f17.ne rfl (f16.ne rfl (f15.ne rfl (f14.ne rfl (f13.ne rfl (f12.ne rfl (f11.ne rfl (f10.ne rfl (f9.ne rfl (f8.ne rfl (f7.ne rfl (f6.ne rfl (f5.ne rfl (f4.ne rfl (f3.ne rfl (f2.ne rfl (f1.ne rfl e192)))))))))))))))))))))))
  refine s_iaload (j := 0) (v := .int 0) rfl e192_23 (by decide) rfl (by first | rfl | decide) ?_
  have e193_23 := (f23.ne rfl (f22.ne rfl (f21.ne rfl (f20.ne rfl (f19.ne rfl (f18.ne rfl (f17.ne rfl (f16.ne rfl (f15.ne rfl (f14.ne rfl (f13.ne rfl (f12.ne rfl (f11.ne rfl (f10.ne rfl (f9.ne rfl (f8.ne rfl (f7.ne rfl (f6.ne rfl (f5.ne rfl (f4.ne rfl (f3.ne rfl (f2.ne rfl (f1.ne rfl e193)))))))))))))))))))))))
  refine s_iastore (j := 0) rfl e193_23 (by decide) rfl (fun h24 o24 f24 => ?_)
  have s24 := s23.put f24
  refine q_aload_n rfl rfl ?_
  refine q_dup rfl rfl ?_
  have e191_24 := (o23.ne f24 rfl)
  refine s_get (v := .int 0) rfl e191_24 rfl rfl ?_
  refine q_iconst rfl ?_
  refine s_iadd (k := 1) rfl (by decide) ?_
  refine s_put (vs' := [.int 0, .ref 192, .ref 193, .int 1, .ref 194, .ref 195, .ref 196, .ref 197, .ref 198, .ref 199, .ref 200, .ref 201, .ref 202, .ref 203, .ref 204, .ref 205, .int (-1), .int 0, .ref 206, .ref 207, .ref 208, .ref 209, .ref 210, .ref 211, .ref 212, .ref 213, .ref 214, .ref 215, .int 0, .int 0, .int 0, .int 0, .ref 216, .ref 217, .ref 218, .ref 219, .ref 220, .int (-1), .int 0, .int 0, .int 0, .int 0, .int 0, .int 0, .ref 221, .ref 222, .ref 223, .ref 224, .int 0, .ref 225, .int 0, .ref 226, .ref 227, .int 0, .ref 228, .ref 229, .ref 230, .ref 231, .ref 232]) rfl e191_24 rfl rfl rfl rfl (fun h25 o25 f25 => ?_)
  have s25 := s24.put f25
  refine s_iinc (y := 1) (lv' := [(2, .int 1), (0, .ref 191), (1, .int 16)]) rfl rfl (by decide) (by decide) rfl ?_
  refine q_goto rfl ?_
  refine q_iload_n rfl rfl ?_
  refine q_iload_n rfl rfl ?_
  refine q_icmp_ge rfl (fun c => absurd c (by decide)) (fun _ => ?_)
  refine q_aload_n rfl rfl ?_
  refine s_get (v := .ref 193) rfl o25 rfl rfl ?_
  refine q_aload_n rfl rfl ?_
  refine s_get (v := .int 1) rfl o25 rfl rfl ?_
  refine q_aload_n rfl rfl ?_
  refine s_get (v := .ref 192) rfl o25 rfl rfl ?_
  refine q_iload_n rfl rfl ?_
  have e192_25 := (f25.ne rfl (f24.ne rfl e192_23))
  refine s_iaload (j := 1) (v := .int 0) rfl e192_25 (by decide) rfl (by first | rfl | decide) ?_
  have e193_25 := (f25.ne rfl o24)
  refine s_iastore (j := 1) rfl e193_25 (by decide) rfl (fun h26 o26 f26 => ?_)
  have s26 := s25.put f26
  refine q_aload_n rfl rfl ?_
  refine q_dup rfl rfl ?_
  have e191_26 := (o25.ne f26 rfl)
  refine s_get (v := .int 1) rfl e191_26 rfl rfl ?_
  refine q_iconst rfl ?_
  refine s_iadd (k := 2) rfl (by decide) ?_
  refine s_put (vs' := [.int 0, .ref 192, .ref 193, .int 2, .ref 194, .ref 195, .ref 196, .ref 197, .ref 198, .ref 199, .ref 200, .ref 201, .ref 202, .ref 203, .ref 204, .ref 205, .int (-1), .int 0, .ref 206, .ref 207, .ref 208, .ref 209, .ref 210, .ref 211, .ref 212, .ref 213, .ref 214, .ref 215, .int 0, .int 0, .int 0, .int 0, .ref 216, .ref 217, .ref 218, .ref 219, .ref 220, .int (-1), .int 0, .int 0, .int 0, .int 0, .int 0, .int 0, .ref 221, .ref 222, .ref 223, .ref 224, .int 0, .ref 225, .int 0, .ref 226, .ref 227, .int 0, .ref 228, .ref 229, .ref 230, .ref 231, .ref 232]) rfl e191_26 rfl rfl rfl rfl (fun h27 o27 f27 => ?_)
  have s27 := s26.put f27
  refine s_iinc (y := 2) (lv' := [(2, .int 2), (0, .ref 191), (1, .int 16)]) rfl rfl (by decide) (by decide) rfl ?_
  refine q_goto rfl ?_
  refine q_iload_n rfl rfl ?_
  refine q_iload_n rfl rfl ?_
  refine q_icmp_ge rfl (fun c => absurd c (by decide)) (fun _ => ?_)
  refine q_aload_n rfl rfl ?_
  refine s_get (v := .ref 193) rfl o27 rfl rfl ?_
  refine q_aload_n rfl rfl ?_
  refine s_get (v := .int 2) rfl o27 rfl rfl ?_
  refine q_aload_n rfl rfl ?_
  refine s_get (v := .ref 192) rfl o27 rfl rfl ?_
  refine q_iload_n rfl rfl ?_
  have e192_27 := (f27.ne rfl (f26.ne rfl e192_25))
  refine s_iaload (j := 2) (v := .int 0) rfl e192_27 (by decide) rfl (by first | rfl | decide) ?_
  have e193_27 := (f27.ne rfl o26)
  refine s_iastore (j := 2) rfl e193_27 (by decide) rfl (fun h28 o28 f28 => ?_)
  have s28 := s27.put f28
  refine q_aload_n rfl rfl ?_
  refine q_dup rfl rfl ?_
  have e191_28 := (o27.ne f28 rfl)
  refine s_get (v := .int 2) rfl e191_28 rfl rfl ?_
  refine q_iconst rfl ?_
  refine s_iadd (k := 3) rfl (by decide) ?_
  refine s_put (vs' := [.int 0, .ref 192, .ref 193, .int 3, .ref 194, .ref 195, .ref 196, .ref 197, .ref 198, .ref 199, .ref 200, .ref 201, .ref 202, .ref 203, .ref 204, .ref 205, .int (-1), .int 0, .ref 206, .ref 207, .ref 208, .ref 209, .ref 210, .ref 211, .ref 212, .ref 213, .ref 214, .ref 215, .int 0, .int 0, .int 0, .int 0, .ref 216, .ref 217, .ref 218, .ref 219, .ref 220, .int (-1), .int 0, .int 0, .int 0, .int 0, .int 0, .int 0, .ref 221, .ref 222, .ref 223, .ref 224, .int 0, .ref 225, .int 0, .ref 226, .ref 227, .int 0, .ref 228, .ref 229, .ref 230, .ref 231, .ref 232]) rfl e191_28 rfl rfl rfl rfl (fun h29 o29 f29 => ?_)
  have s29 := s28.put f29
  refine s_iinc (y := 3) (lv' := [(2, .int 3), (0, .ref 191), (1, .int 16)]) rfl rfl (by decide) (by decide) rfl ?_
  refine q_goto rfl ?_
  refine q_iload_n rfl rfl ?_
  refine q_iload_n rfl rfl ?_
  refine q_icmp_ge rfl (fun c => absurd c (by decide)) (fun _ => ?_)
  refine q_aload_n rfl rfl ?_
  refine s_get (v := .ref 193) rfl o29 rfl rfl ?_
  refine q_aload_n rfl rfl ?_
  refine s_get (v := .int 3) rfl o29 rfl rfl ?_
  refine q_aload_n rfl rfl ?_
  refine s_get (v := .ref 192) rfl o29 rfl rfl ?_
  refine q_iload_n rfl rfl ?_
  have e192_29 := (f29.ne rfl (f28.ne rfl e192_27))
  refine s_iaload (j := 3) (v := .int 0) rfl e192_29 (by decide) rfl (by first | rfl | decide) ?_
  have e193_29 := (f29.ne rfl o28)
  refine s_iastore (j := 3) rfl e193_29 (by decide) rfl (fun h30 o30 f30 => ?_)
  have s30 := s29.put f30
  refine q_aload_n rfl rfl ?_
  refine q_dup rfl rfl ?_
  have e191_30 := (o29.ne f30 rfl)
  refine s_get (v := .int 3) rfl e191_30 rfl rfl ?_
  refine q_iconst rfl ?_
  refine s_iadd (k := 4) rfl (by decide) ?_
  refine s_put (vs' := [.int 0, .ref 192, .ref 193, .int 4, .ref 194, .ref 195, .ref 196, .ref 197, .ref 198, .ref 199, .ref 200, .ref 201, .ref 202, .ref 203, .ref 204, .ref 205, .int (-1), .int 0, .ref 206, .ref 207, .ref 208, .ref 209, .ref 210, .ref 211, .ref 212, .ref 213, .ref 214, .ref 215, .int 0, .int 0, .int 0, .int 0, .ref 216, .ref 217, .ref 218, .ref 219, .ref 220, .int (-1), .int 0, .int 0, .int 0, .int 0, .int 0, .int 0, .ref 221, .ref 222, .ref 223, .ref 224, .int 0, .ref 225, .int 0, .ref 226, .ref 227, .int 0, .ref 228, .ref 229, .ref 230, .ref 231, .ref 232]) rfl e191_30 rfl rfl rfl rfl (fun h31 o31 f31 => ?_)
  have s31 := s30.put f31
  refine s_iinc (y := 4) (lv' := [(2, .int 4), (0, .ref 191), (1, .int 16)]) rfl rfl (by decide) (by decide) rfl ?_
  refine q_goto rfl ?_
  refine q_iload_n rfl rfl ?_
  refine q_iload_n rfl rfl ?_
  refine q_icmp_ge rfl (fun c => absurd c (by decide)) (fun _ => ?_)
  refine q_aload_n rfl rfl ?_
  refine s_get (v := .ref 193) rfl o31 rfl rfl ?_
  refine q_aload_n rfl rfl ?_
  refine s_get (v := .int 4) rfl o31 rfl rfl ?_
  refine q_aload_n rfl rfl ?_
  refine s_get (v := .ref 192) rfl o31 rfl rfl ?_
  refine q_iload_n rfl rfl ?_
  have e192_31 := (f31.ne rfl (f30.ne rfl e192_29))
  refine s_iaload (j := 4) (v := .int 0) rfl e192_31 (by decide) rfl (by first | rfl | decide) ?_
  have e193_31 := (f31.ne rfl o30)
  refine s_iastore (j := 4) rfl e193_31 (by decide) rfl (fun h32 o32 f32 => ?_)
  have s32 := s31.put f32
  refine q_aload_n rfl rfl ?_
  refine q_dup rfl rfl ?_
  have e191_32 := (o31.ne f32 rfl)
  refine s_get (v := .int 4) rfl e191_32 rfl rfl ?_
  refine q_iconst rfl ?_
  refine s_iadd (k := 5) rfl (by decide) ?_
  refine s_put (vs' := [.int 0, .ref 192, .ref 193, .int 5, .ref 194, .ref 195, .ref 196, .ref 197, .ref 198, .ref 199, .ref 200, .ref 201, .ref 202, .ref 203, .ref 204, .ref 205, .int (-1), .int 0, .ref 206, .ref 207, .ref 208, .ref 209, .ref 210, .ref 211, .ref 212, .ref 213, .ref 214, .ref 215, .int 0, .int 0, .int 0, .int 0, .ref 216, .ref 217, .ref 218, .ref 219, .ref 220, .int (-1), .int 0, .int 0, .int 0, .int 0, .int 0, .int 0, .ref 221, .ref 222, .ref 223, .ref 224, .int 0, .ref 225, .int 0, .ref 226, .ref 227, .int 0, .ref 228, .ref 229, .ref 230, .ref 231, .ref 232]) rfl e191_32 rfl rfl rfl rfl (fun h33 o33 f33 => ?_)
  have s33 := s32.put f33
  refine s_iinc (y := 5) (lv' := [(2, .int 5), (0, .ref 191), (1, .int 16)]) rfl rfl (by decide) (by decide) rfl ?_
  refine q_goto rfl ?_
  refine q_iload_n rfl rfl ?_
  refine q_iload_n rfl rfl ?_
  refine q_icmp_ge rfl (fun c => absurd c (by decide)) (fun _ => ?_)
  refine q_aload_n rfl rfl ?_
  refine s_get (v := .ref 193) rfl o33 rfl rfl ?_
  refine q_aload_n rfl rfl ?_
  refine s_get (v := .int 5) rfl o33 rfl rfl ?_
  refine q_aload_n rfl rfl ?_
  refine s_get (v := .ref 192) rfl o33 rfl rfl ?_
  refine q_iload_n rfl rfl ?_
  have e192_33 := (f33.ne rfl (f32.ne rfl e192_31))
  refine s_iaload (j := 5) (v := .int 0) rfl e192_33 (by decide) rfl (by first | rfl | decide) ?_
  have e193_33 := (f33.ne rfl o32)
  refine s_iastore (j := 5) rfl e193_33 (by decide) rfl (fun h34 o34 f34 => ?_)
  have s34 := s33.put f34
  refine q_aload_n rfl rfl ?_
  refine q_dup rfl rfl ?_
  have e191_34 := (o33.ne f34 rfl)
  refine s_get (v := .int 5) rfl e191_34 rfl rfl ?_
  refine q_iconst rfl ?_
  refine s_iadd (k := 6) rfl (by decide) ?_
  refine s_put (vs' := [.int 0, .ref 192, .ref 193, .int 6, .ref 194, .ref 195, .ref 196, .ref 197, .ref 198, .ref 199, .ref 200, .ref 201, .ref 202, .ref 203, .ref 204, .ref 205, .int (-1), .int 0, .ref 206, .ref 207, .ref 208, .ref 209, .ref 210, .ref 211, .ref 212, .ref 213, .ref 214, .ref 215, .int 0, .int 0, .int 0, .int 0, .ref 216, .ref 217, .ref 218, .ref 219, .ref 220, .int (-1), .int 0, .int 0, .int 0, .int 0, .int 0, .int 0, .ref 221, .ref 222, .ref 223, .ref 224, .int 0, .ref 225, .int 0, .ref 226, .ref 227, .int 0, .ref 228, .ref 229, .ref 230, .ref 231, .ref 232]) rfl e191_34 rfl rfl rfl rfl (fun h35 o35 f35 => ?_)
  have s35 := s34.put f35
  refine s_iinc (y := 6) (lv' := [(2, .int 6), (0, .ref 191), (1, .int 16)]) rfl rfl (by decide) (by decide) rfl ?_
  refine q_goto rfl ?_
  refine q_iload_n rfl rfl ?_
  refine q_iload_n rfl rfl ?_
  refine q_icmp_ge rfl (fun c => absurd c (by decide)) (fun _ => ?_)
  refine q_aload_n rfl rfl ?_
  refine s_get (v := .ref 193) rfl o35 rfl rfl ?_
  refine q_aload_n rfl rfl ?_
  refine s_get (v := .int 6) rfl o35 rfl rfl ?_
  refine q_aload_n rfl rfl ?_
  refine s_get (v := .ref 192) rfl o35 rfl rfl ?_
  refine q_iload_n rfl rfl ?_
  have e192_35 := (f35.ne rfl (f34.ne rfl e192_33))
  refine s_iaload (j := 6) (v := .int 0) rfl e192_35 (by decide) rfl (by first | rfl | decide) ?_
  have e193_35 := (f35.ne rfl o34)
  refine s_iastore (j := 6) rfl e193_35 (by decide) rfl (fun h36 o36 f36 => ?_)
  have s36 := s35.put f36
  refine q_aload_n rfl rfl ?_
  refine q_dup rfl rfl ?_
  have e191_36 := (o35.ne f36 rfl)
  refine s_get (v := .int 6) rfl e191_36 rfl rfl ?_
  refine q_iconst rfl ?_
  refine s_iadd (k := 7) rfl (by decide) ?_
  refine s_put (vs' := [.int 0, .ref 192, .ref 193, .int 7, .ref 194, .ref 195, .ref 196, .ref 197, .ref 198, .ref 199, .ref 200, .ref 201, .ref 202, .ref 203, .ref 204, .ref 205, .int (-1), .int 0, .ref 206, .ref 207, .ref 208, .ref 209, .ref 210, .ref 211, .ref 212, .ref 213, .ref 214, .ref 215, .int 0, .int 0, .int 0, .int 0, .ref 216, .ref 217, .ref 218, .ref 219, .ref 220, .int (-1), .int 0, .int 0, .int 0, .int 0, .int 0, .int 0, .ref 221, .ref 222, .ref 223, .ref 224, .int 0, .ref 225, .int 0, .ref 226, .ref 227, .int 0, .ref 228, .ref 229, .ref 230, .ref 231, .ref 232]) rfl e191_36 rfl rfl rfl rfl (fun h37 o37 f37 => ?_)
  have s37 := s36.put f37
  refine s_iinc (y := 7) (lv' := [(2, .int 7), (0, .ref 191), (1, .int 16)]) rfl rfl (by decide) (by decide) rfl ?_
  refine q_goto rfl ?_
  refine q_iload_n rfl rfl ?_
  refine q_iload_n rfl rfl ?_
  refine q_icmp_ge rfl (fun c => absurd c (by decide)) (fun _ => ?_)
  refine q_aload_n rfl rfl ?_
  refine s_get (v := .ref 193) rfl o37 rfl rfl ?_
  refine q_aload_n rfl rfl ?_
  refine s_get (v := .int 7) rfl o37 rfl rfl ?_
  refine q_aload_n rfl rfl ?_
  refine s_get (v := .ref 192) rfl o37 rfl rfl ?_
  refine q_iload_n rfl rfl ?_
  have e192_37 := (f37.ne rfl (f36.ne rfl e192_35))
  refine s_iaload (j := 7) (v := .int 0) rfl e192_37 (by decide) rfl (by first | rfl | decide) ?_
  have e193_37 := (f37.ne rfl o36)
  refine s_iastore (j := 7) rfl e193_37 (by decide) rfl (fun h38 o38 f38 => ?_)
  have s38 := s37.put f38
  refine q_aload_n rfl rfl ?_
  refine q_dup rfl rfl ?_
  have e191_38 := (o37.ne f38 rfl)
  refine s_get (v := .int 7) rfl e191_38 rfl rfl ?_
  refine q_iconst rfl ?_
  refine s_iadd (k := 8) rfl (by decide) ?_
  refine s_put (vs' := [.int 0, .ref 192, .ref 193, .int 8, .ref 194, .ref 195, .ref 196, .ref 197, .ref 198, .ref 199, .ref 200, .ref 201, .ref 202, .ref 203, .ref 204, .ref 205, .int (-1), .int 0, .ref 206, .ref 207, .ref 208, .ref 209, .ref 210, .ref 211, .ref 212, .ref 213, .ref 214, .ref 215, .int 0, .int 0, .int 0, .int 0, .ref 216, .ref 217, .ref 218, .ref 219, .ref 220, .int (-1), .int 0, .int 0, .int 0, .int 0, .int 0, .int 0, .ref 221, .ref 222, .ref 223, .ref 224, .int 0, .ref 225, .int 0, .ref 226, .ref 227, .int 0, .ref 228, .ref 229, .ref 230, .ref 231, .ref 232]) rfl e191_38 rfl rfl rfl rfl (fun h39 o39 f39 => ?_)
  have s39 := s38.put f39
  refine s_iinc (y := 8) (lv' := [(2, .int 8), (0, .ref 191), (1, .int 16)]) rfl rfl (by decide) (by decide) rfl ?_
  refine q_goto rfl ?_
  refine q_iload_n rfl rfl ?_
  refine q_iload_n rfl rfl ?_
  refine q_icmp_ge rfl (fun c => absurd c (by decide)) (fun _ => ?_)
  refine q_aload_n rfl rfl ?_
  refine s_get (v := .ref 193) rfl o39 rfl rfl ?_
  refine q_aload_n rfl rfl ?_
  refine s_get (v := .int 8) rfl o39 rfl rfl ?_
  refine q_aload_n rfl rfl ?_
  refine s_get (v := .ref 192) rfl o39 rfl rfl ?_
  refine q_iload_n rfl rfl ?_
  have e192_39 := (f39.ne rfl (f38.ne rfl e192_37))
  refine s_iaload (j := 8) (v := .int 0) rfl e192_39 (by decide) rfl (by first | rfl | decide) ?_
  have e193_39 := (f39.ne rfl o38)
  refine s_iastore (j := 8) rfl e193_39 (by decide) rfl (fun h40 o40 f40 => ?_)
  have s40 := s39.put f40
  refine q_aload_n rfl rfl ?_
  refine q_dup rfl rfl ?_
  have e191_40 := (o39.ne f40 rfl)
  refine s_get (v := .int 8) rfl e191_40 rfl rfl ?_
  refine q_iconst rfl ?_
  refine s_iadd (k := 9) rfl (by decide) ?_
  refine s_put (vs' := [.int 0, .ref 192, .ref 193, .int 9, .ref 194, .ref 195, .ref 196, .ref 197, .ref 198, .ref 199, .ref 200, .ref 201, .ref 202, .ref 203, .ref 204, .ref 205, .int (-1), .int 0, .ref 206, .ref 207, .ref 208, .ref 209, .ref 210, .ref 211, .ref 212, .ref 213, .ref 214, .ref 215, .int 0, .int 0, .int 0, .int 0, .ref 216, .ref 217, .ref 218, .ref 219, .ref 220, .int (-1), .int 0, .int 0, .int 0, .int 0, .int 0, .int 0, .ref 221, .ref 222, .ref 223, .ref 224, .int 0, .ref 225, .int 0, .ref 226, .ref 227, .int 0, .ref 228, .ref 229, .ref 230, .ref 231, .ref 232]) rfl e191_40 rfl rfl rfl rfl (fun h41 o41 f41 => ?_)
  have s41 := s40.put f41
  refine s_iinc (y := 9) (lv' := [(2, .int 9), (0, .ref 191), (1, .int 16)]) rfl rfl (by decide) (by decide) rfl ?_
  refine q_goto rfl ?_
  refine q_iload_n rfl rfl ?_
  refine q_iload_n rfl rfl ?_
  refine q_icmp_ge rfl (fun c => absurd c (by decide)) (fun _ => ?_)
  refine q_aload_n rfl rfl ?_
  refine s_get (v := .ref 193) rfl o41 rfl rfl ?_
  refine q_aload_n rfl rfl ?_
  refine s_get (v := .int 9) rfl o41 rfl rfl ?_
  refine q_aload_n rfl rfl ?_
  refine s_get (v := .ref 192) rfl o41 rfl rfl ?_
  refine q_iload_n rfl rfl ?_
  have e192_41 := (f41.ne rfl (f40.ne rfl e192_39))
  refine s_iaload (j := 9) (v := .int 0) rfl e192_41 (by decide) rfl (by first | rfl | decide) ?_
  have e193_41 := (f41.ne rfl o40)
  refine s_iastore (j := 9) rfl e193_41 (by decide) rfl (fun h42 o42 f42 => ?_)
  have s42 := s41.put f42
  refine q_aload_n rfl rfl ?_
  refine q_dup rfl rfl ?_
  have e191_42 := (o41.ne f42 rfl)
  refine s_get (v := .int 9) rfl e191_42 rfl rfl ?_
  refine q_iconst rfl ?_
  refine s_iadd (k := 10) rfl (by decide) ?_
  refine s_put (vs' := [.int 0, .ref 192, .ref 193, .int 10, .ref 194, .ref 195, .ref 196, .ref 197, .ref 198, .ref 199, .ref 200, .ref 201, .ref 202, .ref 203, .ref 204, .ref 205, .int (-1), .int 0, .ref 206, .ref 207, .ref 208, .ref 209, .ref 210, .ref 211, .ref 212, .ref 213, .ref 214, .ref 215, .int 0, .int 0, .int 0, .int 0, .ref 216, .ref 217, .ref 218, .ref 219, .ref 220, .int (-1), .int 0, .int 0, .int 0, .int 0, .int 0, .int 0, .ref 221, .ref 222, .ref 223, .ref 224, .int 0, .ref 225, .int 0, .ref 226, .ref 227, .int 0, .ref 228, .ref 229, .ref 230, .ref 231, .ref 232]) rfl e191_42 rfl rfl rfl rfl (fun h43 o43 f43 => ?_)
  have s43 := s42.put f43
  refine s_iinc (y := 10) (lv' := [(2, .int 10), (0, .ref 191), (1, .int 16)]) rfl rfl (by decide) (by decide) rfl ?_
  refine q_goto rfl ?_
  refine q_iload_n rfl rfl ?_
  refine q_iload_n rfl rfl ?_
  refine q_icmp_ge rfl (fun c => absurd c (by decide)) (fun _ => ?_)
  refine q_aload_n rfl rfl ?_
  refine s_get (v := .ref 193) rfl o43 rfl rfl ?_
  refine q_aload_n rfl rfl ?_
  refine s_get (v := .int 10) rfl o43 rfl rfl ?_
  refine q_aload_n rfl rfl ?_
  refine s_get (v := .ref 192) rfl o43 rfl rfl ?_
  refine q_iload_n rfl rfl ?_
  have e192_43 := (f43.ne rfl (f42.ne rfl e192_41))
  refine s_iaload (j := 10) (v := .int 0) rfl e192_43 (by decide) rfl (by first | rfl | decide) ?_
  have e193_43 := (f43.ne rfl o42)
  refine s_iastore (j := 10) rfl e193_43 (by decide) rfl (fun h44 o44 f44 => ?_)
  have s44 := s43.put f44
  refine q_aload_n rfl rfl ?_
  refine q_dup rfl rfl ?_
  have e191_44 := (o43.ne f44 rfl)
  refine s_get (v := .int 10) rfl e191_44 rfl rfl ?_
  refine q_iconst rfl ?_
  refine s_iadd (k := 11) rfl (by decide) ?_
  refine s_put (vs' := [.int 0, .ref 192, .ref 193, .int 11, .ref 194, .ref 195, .ref 196, .ref 197, .ref 198, .ref 199, .ref 200, .ref 201, .ref 202, .ref 203, .ref 204, .ref 205, .int (-1), .int 0, .ref 206, .ref 207, .ref 208, .ref 209, .ref 210, .ref 211, .ref 212, .ref 213, .ref 214, .ref 215, .int 0, .int 0, .int 0, .int 0, .ref 216, .ref 217, .ref 218, .ref 219, .ref 220, .int (-1), .int 0, .int 0, .int 0, .int 0, .int 0, .int 0, .ref 221, .ref 222, .ref 223, .ref 224, .int 0, .ref 225, .int 0, .ref 226, .ref 227, .int 0, .ref 228, .ref 229, .ref 230, .ref 231, .ref 232]) rfl e191_44 rfl rfl rfl rfl (fun h45 o45 f45 => ?_)
  have s45 := s44.put f45
  refine s_iinc (y := 11) (lv' := [(2, .int 11), (0, .ref 191), (1, .int 16)]) rfl rfl (by decide) (by decide) rfl ?_
  refine q_goto rfl ?_
  refine q_iload_n rfl rfl ?_
  refine q_iload_n rfl rfl ?_
  refine q_icmp_ge rfl (fun c => absurd c (by decide)) (fun _ => ?_)
  refine q_aload_n rfl rfl ?_
  refine s_get (v := .ref 193) rfl o45 rfl rfl ?_
  refine q_aload_n rfl rfl ?_
  refine s_get (v := .int 11) rfl o45 rfl rfl ?_
  refine q_aload_n rfl rfl ?_
  refine s_get (v := .ref 192) rfl o45 rfl rfl ?_
  refine q_iload_n rfl rfl ?_
  have e192_45 := (f45.ne rfl (f44.ne rfl e192_43))
  refine s_iaload (j := 11) (v := .int 0) rfl e192_45 (by decide) rfl (by first | rfl | decide) ?_
  have e193_45 := (f45.ne rfl o44)
  refine s_iastore (j := 11) rfl e193_45 (by decide) rfl (fun h46 o46 f46 => ?_)
  have s46 := s45.put f46
  refine q_aload_n rfl rfl ?_
  refine q_dup rfl rfl ?_
  have e191_46 := (o45.ne f46 rfl)
  refine s_get (v := .int 11) rfl e191_46 rfl rfl ?_
  refine q_iconst rfl ?_
  refine s_iadd (k := 12) rfl (by decide) ?_
  refine s_put (vs' := [.int 0, .ref 192, .ref 193, .int 12, .ref 194, .ref 195, .ref 196, .ref 197, .ref 198, .ref 199, .ref 200, .ref 201, .ref 202, .ref 203, .ref 204, .ref 205, .int (-1), .int 0, .ref 206, .ref 207, .ref 208, .ref 209, .ref 210, .ref 211, .ref 212, .ref 213, .ref 214, .ref 215, .int 0, .int 0, .int 0, .int 0, .ref 216, .ref 217, .ref 218, .ref 219, .ref 220, .int (-1), .int 0, .int 0, .int 0, .int 0, .int 0, .int 0, .ref 221, .ref 222, .ref 223, .ref 224, .int 0, .ref 225, .int 0, .ref 226, .ref 227, .int 0, .ref 228, .ref 229, .ref 230, .ref 231, .ref 232]) rfl e191_46 rfl rfl rfl rfl (fun h47 o47 f47 => ?_)
  have s47 := s46.put f47
  refine s_iinc (y := 12) (lv' := [(2, .int 12), (0, .ref 191), (1, .int 16)]) rfl rfl (by decide) (by decide) rfl ?_
  refine q_goto rfl ?_
  refine q_iload_n rfl rfl ?_
  refine q_iload_n rfl rfl ?_
  refine q_icmp_ge rfl (fun c => absurd c (by decide)) (fun _ => ?_)
  refine q_aload_n rfl rfl ?_
  refine s_get (v := .ref 193) rfl o47 rfl rfl ?_
  refine q_aload_n rfl rfl ?_
  refine s_get (v := .int 12) rfl o47 rfl rfl ?_
  refine q_aload_n rfl rfl ?_
  refine s_get (v := .ref 192) rfl o47 rfl rfl ?_
  refine q_iload_n rfl rfl ?_
  have e192_47 := (f47.ne rfl (f46.ne rfl e192_45))
  refine s_iaload (j := 12) (v := .int 0) rfl e192_47 (by decide) rfl (by first | rfl | decide) ?_
  have e193_47 := (f47.ne rfl o46)
  refine s_iastore (j := 12) rfl e193_47 (by decide) rfl (fun h48 o48 f48 => ?_)
  have s48 := s47.put f48
  refine q_aload_n rfl rfl ?_
  refine q_dup rfl rfl ?_
  have e191_48 := (o47.ne f48 rfl)
  refine s_get (v := .int 12) rfl e191_48 rfl rfl ?_
  refine q_iconst rfl ?_
  refine s_iadd (k := 13) rfl (by decide) ?_
  refine s_put (vs' := [.int 0, .ref 192, .ref 193, .int 13, .ref 194, .ref 195, .ref 196, .ref 197, .ref 198, .ref 199, .ref 200, .ref 201, .ref 202, .ref 203, .ref 204, .ref 205, .int (-1), .int 0, .ref 206, .ref 207, .ref 208, .ref 209, .ref 210, .ref 211, .ref 212, .ref 213, .ref 214, .ref 215, .int 0, .int 0, .int 0, .int 0, .ref 216, .ref 217, .ref 218, .ref 219, .ref 220, .int (-1), .int 0, .int 0, .int 0, .int 0, .int 0, .int 0, .ref 221, .ref 222, .ref 223, .ref 224, .int 0, .ref 225, .int 0, .ref 226, .ref 227, .int 0, .ref 228, .ref 229, .ref 230, .ref 231, .ref 232]) rfl e191_48 rfl rfl rfl rfl (fun h49 o49 f49 => ?_)
  have s49 := s48.put f49
  refine s_iinc (y := 13) (lv' := [(2, .int 13), (0, .ref 191), (1, .int 16)]) rfl rfl (by decide) (by decide) rfl ?_
  refine q_goto rfl ?_
  refine q_iload_n rfl rfl ?_
  refine q_iload_n rfl rfl ?_
  refine q_icmp_ge rfl (fun c => absurd c (by decide)) (fun _ => ?_)
  refine q_aload_n rfl rfl ?_
  refine s_get (v := .ref 193) rfl o49 rfl rfl ?_
  refine q_aload_n rfl rfl ?_
  refine s_get (v := .int 13) rfl o49 rfl rfl ?_
  refine q_aload_n rfl rfl ?_
  refine s_get (v := .ref 192) rfl o49 rfl rfl ?_
  refine q_iload_n rfl rfl ?_
  have e192_49 := (f49.ne rfl (f48.ne rfl e192_47))
  refine s_iaload (j := 13) (v := .int 0) rfl e192_49 (by decide) rfl (by first | rfl | decide) ?_
  have e193_49 := (f49.ne rfl o48)
  refine s_iastore (j := 13) rfl e193_49 (by decide) rfl (fun h50 o50 f50 => ?_)
  have s50 := s49.put f50
  refine q_aload_n rfl rfl ?_
  refine q_dup rfl rfl ?_
  have e191_50 := (o49.ne f50 rfl)
  refine s_get (v := .int 13) rfl e191_50 rfl rfl ?_
  refine q_iconst rfl ?_
  refine s_iadd (k := 14) rfl (by decide) ?_
  refine s_put (vs' := [.int 0, .ref 192, .ref 193, .int 14, .ref 194, .ref 195, .ref 196, .ref 197, .ref 198, .ref 199, .ref 200, .ref 201, .ref 202, .ref 203, .ref 204, .ref 205, .int (-1), .int 0, .ref 206, .ref 207, .ref 208, .ref 209, .ref 210, .ref 211, .ref 212, .ref 213, .ref 214, .ref 215, .int 0, .int 0, .int 0, .int 0, .ref 216, .ref 217, .ref 218, .ref 219, .ref 220, .int (-1), .int 0, .int 0, .int 0, .int 0, .int 0, .int 0, .ref 221, .ref 222, .ref 223, .ref 224, .int 0, .ref 225, .int 0, .ref 226, .ref 227, .int 0, .ref 228, .ref 229, .ref 230, .ref 231, .ref 232]) rfl e191_50 rfl rfl rfl rfl (fun h51 o51 f51 => ?_)
  have s51 := s50.put f51
  refine s_iinc (y := 14) (lv' := [(2, .int 14), (0, .ref 191), (1, .int 16)]) rfl rfl (by decide) (by decide) rfl ?_
  refine q_goto rfl ?_
  refine q_iload_n rfl rfl ?_
  refine q_iload_n rfl rfl ?_
  refine q_icmp_ge rfl (fun c => absurd c (by decide)) (fun _ => ?_)
  refine q_aload_n rfl rfl ?_
  refine s_get (v := .ref 193) rfl o51 rfl rfl ?_
  refine q_aload_n rfl rfl ?_
  refine s_get (v := .int 14) rfl o51 rfl rfl ?_
  refine q_aload_n rfl rfl ?_
  refine s_get (v := .ref 192) rfl o51 rfl rfl ?_
  refine q_iload_n rfl rfl ?_
  have e192_51 := (f51.ne rfl (f50.ne rfl e192_49))
  refine s_iaload (j := 14) (v := .int 0) rfl e192_51 (by decide) rfl (by first | rfl | decide) ?_
  have e193_51 := (f51.ne rfl o50)
  refine s_iastore (j := 14) rfl e193_51 (by decide) rfl (fun h52 o52 f52 => ?_)
  have s52 := s51.put f52
  refine q_aload_n rfl rfl ?_
  refine q_dup rfl rfl ?_
  have e191_52 := (o51.ne f52 rfl)
  refine s_get (v := .int 14) rfl e191_52 rfl rfl ?_
  refine q_iconst rfl ?_
  refine s_iadd (k := 15) rfl (by decide) ?_
  refine s_put (vs' := [.int 0, .ref 192, .ref 193, .int 15, .ref 194, .ref 195, .ref 196, .ref 197, .ref 198, .ref 199, .ref 200, .ref 201, .ref 202, .ref 203, .ref 204, .ref 205, .int (-1), .int 0, .ref 206, .ref 207, .ref 208, .ref 209, .ref 210, .ref 211, .ref 212, .ref 213, .ref 214, .ref 215, .int 0, .int 0, .int 0, .int 0, .ref 216, .ref 217, .ref 218, .ref 219, .ref 220, .int (-1), .int 0, .int 0, .int 0, .int 0, .int 0, .int 0, .ref 221, .ref 222, .ref 223, .ref 224, .int 0, .ref 225, .int 0, .ref 226, .ref 227, .int 0, .ref 228, .ref 229, .ref 230, .ref 231, .ref 232]) rfl e191_52 rfl rfl rfl rfl (fun h53 o53 f53 => ?_)
  have s53 := s52.put f53
  refine s_iinc (y := 15) (lv' := [(2, .int 15), (0, .ref 191), (1, .int 16)]) rfl rfl (by decide) (by decide) rfl ?_
  refine q_goto rfl ?_
  refine q_iload_n rfl rfl ?_
  refine q_iload_n rfl rfl ?_
  refine q_icmp_ge rfl (fun c => absurd c (by decide)) (fun _ => ?_)
  refine q_aload_n rfl rfl ?_
  refine s_get (v := .ref 193) rfl o53 rfl rfl ?_
  refine q_aload_n rfl rfl ?_
  refine s_get (v := .int 15) rfl o53 rfl rfl ?_
  refine q_aload_n rfl rfl ?_
  refine s_get (v := .ref 192) rfl o53 rfl rfl ?_
  refine q_iload_n rfl rfl ?_
  have e192_53 := (f53.ne rfl (f52.ne rfl e192_51))
  refine s_iaload (j := 15) (v := .int 0) rfl e192_53 (by decide) rfl (by first | rfl | decide) ?_
  have e193_53 := (f53.ne rfl o52)
  refine s_iastore (j := 15) rfl e193_53 (by decide) rfl (fun h54 o54 f54 => ?_)
  have s54 := s53.put f54
  refine q_aload_n rfl rfl ?_
  refine q_dup rfl rfl ?_
  have e191_54 := (o53.ne f54 rfl)
  refine s_get (v := .int 15) rfl e191_54 rfl rfl ?_
  refine q_iconst rfl ?_
  refine s_iadd (k := 16) rfl (by decide) ?_
  refine s_put (vs' := [.int 0, .ref 192, .ref 193, .int 16, .ref 194, .ref 195, .ref 196, .ref 197, .ref 198, .ref 199, .ref 200, .ref 201, .ref 202, .ref 203, .ref 204, .ref 205, .int (-1), .int 0, .ref 206, .ref 207, .ref 208, .ref 209, .ref 210, .ref 211, .ref 212, .ref 213, .ref 214, .ref 215, .int 0, .int 0, .int 0, .int 0, .ref 216, .ref 217, .ref 218, .ref 219, .ref 220, .int (-1), .int 0, .int 0, .int 0, .int 0, .int 0, .int 0, .ref 221, .ref 222, .ref 223, .ref 224, .int 0, .ref 225, .int 0, .ref 226, .ref 227, .int 0, .ref 228, .ref 229, .ref 230, .ref 231, .ref 232]) rfl e191_54 rfl rfl rfl rfl (fun h55 o55 f55 => ?_)
  have s55 := s54.put f55
  refine s_iinc (y := 16) (lv' := [(2, .int 16), (0, .ref 191), (1, .int 16)]) rfl rfl (by decide) (by decide) rfl ?_
  refine q_goto rfl ?_
  refine q_iload_n rfl rfl ?_
  refine q_iload_n rfl rfl ?_
  refine q_icmp_ge rfl (fun _ => ?_) (fun c => absurd (by decide) c)
  refine q_iconst rfl ?_
  refine s_istore_n (lv' := [(2, .int 0), (0, .ref 191), (1, .int 16)]) rfl (by decide) rfl ?_
  refine q_iload_n rfl rfl ?_
  refine q_bipush rfl ?_
  refine q_icmp_ge rfl (fun c => absurd c (by decide)) (fun _ => ?_)
  refine q_aload_n rfl rfl ?_
  refine s_get (v := .ref 192) rfl o55 rfl rfl ?_
  refine q_iload_n rfl rfl ?_
  refine q_iconst rfl ?_
  have e192_55 := (f55.ne rfl (f54.ne rfl e192_53))
  refine s_iastore (j := 0) rfl e192_55 (by decide) rfl (fun h56 o56 f56 => ?_)
  have s56 := s55.put f56
  refine s_iinc (y := 1) (lv' := [(2, .int 1), (0, .ref 191), (1, .int 16)]) rfl rfl (by decide) (by decide) rfl ?_
  refine q_goto rfl ?_
  refine q_iload_n rfl rfl ?_
  refine q_bipush rfl ?_
  refine q_icmp_ge rfl (fun c => absurd c (by decide)) (fun _ => ?_)
  refine q_aload_n rfl rfl ?_
  have e191_56 := (o55.ne f56 rfl)
  refine s_get (v := .ref 192) rfl e191_56 rfl rfl ?_
  refine q_iload_n rfl rfl ?_
  refine q_iconst rfl ?_
  refine s_iastore (j := 1) rfl o56 (by decide) rfl (fun h57 o57 f57 => ?_)
  have s57 := s56.put f57
  refine s_iinc (y := 2) (lv' := [(2, .int 2), (0, .ref 191), (1, .int 16)]) rfl rfl (by decide) (by decide) rfl ?_
  refine q_goto rfl ?_
  refine q_iload_n rfl rfl ?_
  refine q_bipush rfl ?_
  refine q_icmp_ge rfl (fun c => absurd c (by decide)) (fun _ => ?_)
  refine q_aload_n rfl rfl ?_
  have e191_57 := (e191_56.ne f57 rfl)
  refine s_get (v := .ref 192) rfl e191_57 rfl rfl ?_
  refine q_iload_n rfl rfl ?_
  refine q_iconst rfl ?_
  refine s_iastore (j := 2) rfl o57 (by decide) rfl (fun h58 o58 f58 => ?_)
  have s58 := s57.put f58
  refine s_iinc (y := 3) (lv' := [(2, .int 3), (0, .ref 191), (1, .int 16)]) rfl rfl (by decide) (by decide) rfl ?_
  refine q_goto rfl ?_
  refine q_iload_n rfl rfl ?_
  refine q_bipush rfl ?_
  refine q_icmp_ge rfl (fun c => absurd c (by decide)) (fun _ => ?_)
  refine q_aload_n rfl rfl ?_
  have e191_58 := (e191_57.ne f58 rfl)
  refine s_get (v := .ref 192) rfl e191_58 rfl rfl ?_
  refine q_iload_n rfl rfl ?_
  refine q_iconst rfl ?_
  refine s_iastore (j := 3) rfl o58 (by decide) rfl (fun h59 o59 f59 => ?_)
  have s59 := s58.put f59
  refine s_iinc (y := 4) (lv' := [(2, .int 4), (0, .ref 191), (1, .int 16)]) rfl rfl (by decide) (by decide) rfl ?_
  refine q_goto rfl ?_
  refine q_iload_n rfl rfl ?_
  refine q_bipush rfl ?_
  refine q_icmp_ge rfl (fun c => absurd c (by decide)) (fun _ => ?_)
  refine q_aload_n rfl rfl ?_
  have e191_59 := (e191_58.ne f59 rfl)
  refine s_get (v := .ref 192) rfl e191_59 rfl rfl ?_
  refine q_iload_n rfl rfl ?_
  refine q_iconst rfl ?_
  refine s_iastore (j := 4) rfl o59 (by decide) rfl (fun h60 o60 f60 => ?_)
  have s60 := s59.put f60
  refine s_iinc (y := 5) (lv' := [(2, .int 5), (0, .ref 191), (1, .int 16)]) rfl rfl (by decide) (by decide) rfl ?_
  refine q_goto rfl ?_
  refine q_iload_n rfl rfl ?_
  refine q_bipush rfl ?_
  refine q_icmp_ge rfl (fun c => absurd c (by decide)) (fun _ => ?_)
  refine q_aload_n rfl rfl ?_
  have e191_60 := (e191_59.ne f60 rfl)
  refine s_get (v := .ref 192) rfl e191_60 rfl rfl ?_
  refine q_iload_n rfl rfl ?_
  refine q_iconst rfl ?_
  refine s_iastore (j := 5) rfl o60 (by decide) rfl (fun h61 o61 f61 => ?_)
  have s61 := s60.put f61
  refine s_iinc (y := 6) (lv' := [(2, .int 6), (0, .ref 191), (1, .int 16)]) rfl rfl (by decide) (by decide) rfl ?_
  refine q_goto rfl ?_
  refine q_iload_n rfl rfl ?_
  refine q_bipush rfl ?_
  refine q_icmp_ge rfl (fun c => absurd c (by decide)) (fun _ => ?_)
  refine q_aload_n rfl rfl ?_
  have e191_61 := (e191_60.ne f61 rfl)
  refine s_get (v := .ref 192) rfl e191_61 rfl rfl ?_
  refine q_iload_n rfl rfl ?_
  refine q_iconst rfl ?_
  refine s_iastore (j := 6) rfl o61 (by decide) rfl (fun h62 o62 f62 => ?_)
  have s62 := s61.put f62
  refine s_iinc (y := 7) (lv' := [(2, .int 7), (0, .ref 191), (1, .int 16)]) rfl rfl (by decide) (by decide) rfl ?_
  refine q_goto rfl ?_
  refine q_iload_n rfl rfl ?_
  refine q_bipush rfl ?_
  refine q_icmp_ge rfl (fun c => absurd c (by decide)) (fun _ => ?_)
  refine q_aload_n rfl rfl ?_
  have e191_62 := (e191_61.ne f62 rfl)
  refine s_get (v := .ref 192) rfl e191_62 rfl rfl ?_
  refine q_iload_n rfl rfl ?_
  refine q_iconst rfl ?_
  refine s_iastore (j := 7) rfl o62 (by decide) rfl (fun h63 o63 f63 => ?_)
  have s63 := s62.put f63
  refine s_iinc (y := 8) (lv' := [(2, .int 8), (0, .ref 191), (1, .int 16)]) rfl rfl (by decide) (by decide) rfl ?_
  refine q_goto rfl ?_
  refine q_iload_n rfl rfl ?_
  refine q_bipush rfl ?_
  refine q_icmp_ge rfl (fun c => absurd c (by decide)) (fun _ => ?_)
  refine q_aload_n rfl rfl ?_
  have e191_63 := (e191_62.ne f63 rfl)
  refine s_get (v := .ref 192) rfl e191_63 rfl rfl ?_
  refine q_iload_n rfl rfl ?_
  refine q_iconst rfl ?_
  refine s_iastore (j := 8) rfl o63 (by decide) rfl (fun h64 o64 f64 => ?_)
  have s64 := s63.put f64
  refine s_iinc (y := 9) (lv' := [(2, .int 9), (0, .ref 191), (1, .int 16)]) rfl rfl (by decide) (by decide) rfl ?_
  refine q_goto rfl ?_
  refine q_iload_n rfl rfl ?_
  refine q_bipush rfl ?_
  refine q_icmp_ge rfl (fun c => absurd c (by decide)) (fun _ => ?_)
  refine q_aload_n rfl rfl ?_
  have e191_64 := (e191_63.ne f64 rfl)
  refine s_get (v := .ref 192) rfl e191_64 rfl rfl ?_
  refine q_iload_n rfl rfl ?_
  refine q_iconst rfl ?_
  refine s_iastore (j := 9) rfl o64 (by decide) rfl (fun h65 o65 f65 => ?_)
  have s65 := s64.put f65
  refine s_iinc (y := 10) (lv' := [(2, .int 10), (0, .ref 191), (1, .int 16)]) rfl rfl (by decide) (by decide) rfl ?_
  refine q_goto rfl ?_
  refine q_iload_n rfl rfl ?_
  refine q_bipush rfl ?_
  refine q_icmp_ge rfl (fun c => absurd c (by decide)) (fun _ => ?_)
  refine q_aload_n rfl rfl ?_
  have e191_65 := (e191_64.ne f65 rfl)
  refine s_get (v := .ref 192) rfl e191_65 rfl rfl ?_
  refine q_iload_n rfl rfl ?_
  refine q_iconst rfl ?_
  refine s_iastore (j := 10) rfl o65 (by decide) rfl (fun h66 o66 f66 => ?_)
  have s66 := s65.put f66
  refine s_iinc (y := 11) (lv' := [(2, .int 11), (0, .ref 191), (1, .int 16)]) rfl rfl (by decide) (by decide) rfl ?_
  refine q_goto rfl ?_
  refine q_iload_n rfl rfl ?_
  refine q_bipush rfl ?_
  refine q_icmp_ge rfl (fun c => absurd c (by decide)) (fun _ => ?_)
  refine q_aload_n rfl rfl ?_
  have e191_66 := (e191_65.ne f66 rfl)
  refine s_get (v := .ref 192) rfl e191_66 rfl rfl ?_
  refine q_iload_n rfl rfl ?_
  refine q_iconst rfl ?_
  refine s_iastore (j := 11) rfl o66 (by decide) rfl (fun h67 o67 f67 => ?_)
  have s67 := s66.put f67
  refine s_iinc (y := 12) (lv' := [(2, .int 12), (0, .ref 191), (1, .int 16)]) rfl rfl (by decide) (by decide) rfl ?_
  refine q_goto rfl ?_
  refine q_iload_n rfl rfl ?_
  refine q_bipush rfl ?_
  refine q_icmp_ge rfl (fun c => absurd c (by decide)) (fun _ => ?_)
  refine q_aload_n rfl rfl ?_
  have e191_67 := (e191_66.ne f67 rfl)
  refine s_get (v := .ref 192) rfl e191_67 rfl rfl ?_
  refine q_iload_n rfl rfl ?_
  refine q_iconst rfl ?_
  refine s_iastore (j := 12) rfl o67 (by decide) rfl (fun h68 o68 f68 => ?_)
  have s68 := s67.put f68
  refine s_iinc (y := 13) (lv' := [(2, .int 13), (0, .ref 191), (1, .int 16)]) rfl rfl (by decide) (by decide) rfl ?_
  refine q_goto rfl ?_
  refine q_iload_n rfl rfl ?_
  refine q_bipush rfl ?_
  refine q_icmp_ge rfl (fun c => absurd c (by decide)) (fun _ => ?_)
  refine q_aload_n rfl rfl ?_
  have e191_68 := (e191_67.ne f68 rfl)
  refine s_get (v := .ref 192) rfl e191_68 rfl rfl ?_
  refine q_iload_n rfl rfl ?_
  refine q_iconst rfl ?_
  refine s_iastore (j := 13) rfl o68 (by decide) rfl (fun h69 o69 f69 => ?_)
  have s69 := s68.put f69
  refine s_iinc (y := 14) (lv' := [(2, .int 14), (0, .ref 191), (1, .int 16)]) rfl rfl (by decide) (by decide) rfl ?_
  refine q_goto rfl ?_
  refine q_iload_n rfl rfl ?_
  refine q_bipush rfl ?_
  refine q_icmp_ge rfl (fun c => absurd c (by decide)) (fun _ => ?_)
  refine q_aload_n rfl rfl ?_
  have e191_69 := (e191_68.ne f69 rfl)
  refine s_get (v := .ref 192) rfl e191_69 rfl rfl ?_
  refine q_iload_n rfl rfl ?_
  refine q_iconst rfl ?_
  refine s_iastore (j := 14) rfl o69 (by decide) rfl (fun h70 o70 f70 => ?_)
  have s70 := s69.put f70
  refine s_iinc (y := 15) (lv' := [(2, .int 15), (0, .ref 191), (1, .int 16)]) rfl rfl (by decide) (by decide) rfl ?_
  refine q_goto rfl ?_
  refine q_iload_n rfl rfl ?_
  refine q_bipush rfl ?_
  refine q_icmp_ge rfl (fun c => absurd c (by decide)) (fun _ => ?_)
  refine q_aload_n rfl rfl ?_
  have e191_70 := (e191_69.ne f70 rfl)
  refine s_get (v := .ref 192) rfl e191_70 rfl rfl ?_
  refine q_iload_n rfl rfl ?_
  refine q_iconst rfl ?_
  refine s_iastore (j := 15) rfl o70 (by decide) rfl (fun h71 o71 f71 => ?_)
  have s71 := s70.put f71
  refine s_iinc (y := 16) (lv' := [(2, .int 16), (0, .ref 191), (1, .int 16)]) rfl rfl (by decide) (by decide) rfl ?_
  refine q_goto rfl ?_
  refine q_iload_n rfl rfl ?_
  refine q_bipush rfl ?_
  refine q_icmp_ge rfl (fun c => absurd c (by decide)) (fun _ => ?_)
  refine q_aload_n rfl rfl ?_
  have e191_71 := (e191_70.ne f71 rfl)
  refine s_get (v := .ref 192) rfl e191_71 rfl rfl ?_
  refine q_iload_n rfl rfl ?_
  refine q_iconst rfl ?_
  refine s_iastore (j := 16) rfl o71 (by decide) rfl (fun h72 o72 f72 => ?_)
  have s72 := s71.put f72
  refine s_iinc (y := 17) (lv' := [(2, .int 17), (0, .ref 191), (1, .int 16)]) rfl rfl (by decide) (by decide) rfl ?_
  refine q_goto rfl ?_
  refine q_iload_n rfl rfl ?_
  refine q_bipush rfl ?_
  refine q_icmp_ge rfl (fun c => absurd c (by decide)) (fun _ => ?_)
  refine q_aload_n rfl rfl ?_
  have e191_72 := (e191_71.ne f72 rfl)
  refine s_get (v := .ref 192) rfl e191_72 rfl rfl ?_
  refine q_iload_n rfl rfl ?_
  refine q_iconst rfl ?_
  refine s_iastore (j := 17) rfl o72 (by decide) rfl (fun h73 o73 f73 => ?_)
  have s73 := s72.put f73
  refine s_iinc (y := 18) (lv' := [(2, .int 18), (0, .ref 191), (1, .int 16)]) rfl rfl (by decide) (by decide) rfl ?_
  refine q_goto rfl ?_
  refine q_iload_n rfl rfl ?_
  refine q_bipush rfl ?_
  refine q_icmp_ge rfl (fun c => absurd c (by decide)) (fun _ => ?_)
  refine q_aload_n rfl rfl ?_
  have e191_73 := (e191_72.ne f73 rfl)
  refine s_get (v := .ref 192) rfl e191_73 rfl rfl ?_
  refine q_iload_n rfl rfl ?_
  refine q_iconst rfl ?_
  refine s_iastore (j := 18) rfl o73 (by decide) rfl (fun h74 o74 f74 => ?_)
  have s74 := s73.put f74
  refine s_iinc (y := 19) (lv' := [(2, .int 19), (0, .ref 191), (1, .int 16)]) rfl rfl (by decide) (by decide) rfl ?_
  refine q_goto rfl ?_
  refine q_iload_n rfl rfl ?_
  refine q_bipush rfl ?_
  refine q_icmp_ge rfl (fun c => absurd c (by decide)) (fun _ => ?_)
  refine q_aload_n rfl rfl ?_
  have e191_74 := (e191_73.ne f74 rfl)
  refine s_get (v := .ref 192) rfl e191_74 rfl rfl ?_
  refine q_iload_n rfl rfl ?_
  refine q_iconst rfl ?_
  refine s_iastore (j := 19) rfl o74 (by decide) rfl (fun h75 o75 f75 => ?_)
  have s75 := s74.put f75
  refine s_iinc (y := 20) (lv' := [(2, .int 20), (0, .ref 191), (1, .int 16)]) rfl rfl (by decide) (by decide) rfl ?_
  refine q_goto rfl ?_
  refine q_iload_n rfl rfl ?_
  refine q_bipush rfl ?_
  refine q_icmp_ge rfl (fun _ => ?_) (fun c => absurd (by decide) c)
  refine q_aload_n rfl rfl ?_
  have e191_75 := (e191_74.ne f75 rfl)
  refine s_get (v := .int 16) rfl e191_75 rfl rfl ?_
  refine q_ireturn rfl rfl ?_
  show aW aiP 0 17 658 243 [(4, .int 0), (3, .ref 233), (2, .ref 191), (1, .ref 6), (0, .ref 0)] [.int 16, .int 16] h75 _
  refine q_icmp_eq rfl (fun _ => ?_) (fun c => absurd (by decide) c)
  refine s_iinc (y := 6) (lv' := [(4, .int 6), (3, .ref 233), (2, .ref 191), (1, .ref 6), (0, .ref 0)]) rfl rfl (by decide) (by decide) rfl ?_
  refine q_goto rfl ?_
  refine q_iload rfl rfl ?_
  refine q_aload_n rfl rfl ?_
  have e0_75 := (f75.ne rfl (f74.ne rfl (f73.ne rfl (f72.ne rfl (f71.ne rfl (f70.ne rfl (f69.ne rfl (f68.ne rfl (f67.ne rfl (f66.ne rfl (f65.ne rfl (f64.ne rfl (f63.ne rfl (f62.ne rfl (f61.ne rfl (f60.ne rfl (f59.ne rfl (f58.ne rfl (f57.ne rfl (f56.ne rfl (f55.ne rfl (f54.ne rfl (f53.ne rfl (f52.ne rfl (f51.ne rfl (f50.ne rfl (f49.ne rfl (f48.ne rfl (f47.ne rfl (f46.ne rfl (f45.ne rfl (f44.ne rfl (f43.ne rfl (f42.ne rfl (f41.ne rfl (f40.ne rfl (f39.ne rfl (f38.ne rfl (f37.ne rfl (f36.ne rfl (f35.ne rfl (f34.ne rfl (f33.ne rfl (f32.ne rfl (f31.ne rfl (f30.ne rfl (f29.ne rfl (f28.ne rfl (f27.ne rfl (f26.ne rfl (f25.ne rfl (f24.ne rfl (f23.ne rfl e0_22)))))))))))))))))))))))))))))))))))))))))))))))))))))
  refine s_alen (x := 6) rfl e0_75 rfl (by decide) ?_
  refine q_bipush rfl ?_
  refine s_isub (k := 0) rfl (by decide) ?_
  refine q_icmp_gt rfl (fun _ => ?_) (fun c => absurd (by decide) c)
  refine q_iconst rfl ?_
  refine q_ireturn rfl rfl ?_
  exact ⟨rfl, s75.bd rfl⟩
set_option maxRecDepth 20000 in
set_option maxHeartbeats 4000000 in
theorem p_case1_17 {xs : Nat → Int32} {h : ai_H} (F : Fresh 6 xs h) (hk : xs 0 &&& 31 = 1) (hw : xs 1 = 17) : aW aiP 0 17 658 33 [(4, .int 0), (3, .ref 233), (2, .ref 191), (1, .ref 6), (0, .ref 0)] [] h p_Q := by
  obtain ⟨e0, e1, ⟨g2, e2⟩, ⟨g3, e3⟩, ⟨g4, e4⟩, e5, e6, e7, e8, e9, e51, e93, e135, e177, e178, e179, e180, e181, e182, e183, e184, e185, e186, e187, e188, e189, e190, e191, e192, e193, e194, e195, e196, e197, e198, e199, e200, e201, e202, e203, e204, e205, e206, e207, e208, e209, e210, e211, e212, e213, e214, e215, e216, e217, e218, e219, e220, e221, e222, e223, e224, e225, e226, e227, ⟨g228, e228⟩, ⟨g229, e229⟩, e230, e231, e232, e233, s0⟩ := F
  refine q_aload_n rfl rfl ?_
  refine q_iload rfl rfl ?_
  refine s_iaload (j := 0) (v := .int (xs 0)) rfl e0 (by decide) rfl (by first | rfl | decide) ?_
  refine q_bipush rfl ?_
  refine s_iand (k := ((xs 0) &&& (31 : Int32))) rfl rfl ?_
  rw [hk]
  show aW aiP 0 17 658 40 [(4, .int 0), (3, .ref 233), (2, .ref 191), (1, .ref 6), (0, .ref 0)] [.int 1] h _
  refine s_sw (tg := 223) rfl rfl ?_
  refine q_aload_n rfl rfl ?_
  refine q_aload_n rfl rfl ?_
  refine q_iload rfl rfl ?_
  refine q_iconst rfl ?_
  refine s_iadd (k := 1) rfl (by decide) ?_
  refine s_iaload (j := 1) (v := .int (xs 1)) rfl e0 (by decide) rfl (by first | rfl | decide) ?_
  rw [hw]
  refine s_callV (as := [.int 17]) (rest := []) (d' := 16) (w' := 637) (lv' := [(0, .ref 6), (1, .int 17)]) rfl e6 rfl rfl rfl rfl rfl rfl ?_
  refine q_iload_n rfl rfl ?_
  refine q_if_lt rfl (fun c => absurd c (by decide)) (fun _ => ?_)
  refine q_iload_n rfl rfl ?_
  refine q_bipush rfl ?_
  refine q_icmp_gt rfl (fun c => absurd c (by decide)) (fun _ => ?_)
  refine q_aload_n rfl rfl ?_
  refine s_get (v := .int 0) rfl e6 rfl rfl ?_
  refine q_iload_n rfl rfl ?_
  refine s_iadd (k := 17) rfl (by decide) ?_
  refine q_sipush rfl ?_
  refine q_icmp_le rfl (fun _ => ?_) (fun c => absurd (by decide) c)
  refine q_aload_n rfl rfl ?_
  refine s_get (v := .ref 7) rfl e6 rfl rfl ?_
  refine q_iconst rfl ?_
  refine q_aload_n rfl rfl ?_
  refine s_get (v := .ref 8) rfl e6 rfl rfl ?_
  refine q_aload_n rfl rfl ?_
  refine s_get (v := .int 0) rfl e6 rfl rfl ?_
  refine q_iload_n rfl rfl ?_
  refine s_copy (sp := 0) (dp := 0) (k := 17) rfl e7 e8 (by decide) (by decide) (by decide) rfl (by decide) (by decide) (by decide) (fun i _ => rfl) (fun h1 o1 f1 => ?_)
  have s1 := s0.put f1
  refine q_aload_n rfl rfl ?_
  refine q_dup rfl rfl ?_
  have e6_1 := (e6.ne f1 rfl)
  refine s_get (v := .int 0) rfl e6_1 rfl rfl ?_
  refine q_iload_n rfl rfl ?_
  refine s_iadd (k := 17) rfl (by decide) ?_
  refine s_put (vs' := [.ref 7, .ref 8, .int 17, .ref 9, .int (-1), .ref 51, .ref 93, .ref 135, .ref 177, .ref 180, .int 0, .ref 183, .ref 186, .ref 189]) rfl e6_1 rfl rfl rfl rfl (fun h2 o2 f2 => ?_)
  have s2 := s1.put f2
  refine q_aload_n rfl rfl ?_
  refine s_get (v := .ref 7) rfl o2 rfl rfl ?_
  refine q_iconst rfl ?_
  refine s_callS (as := [.ref 7, .int 0]) (rest := []) (d' := 15) (w' := 614) (lv' := [(0, .ref 7), (1, .int 0)]) rfl rfl rfl rfl rfl rfl rfl rfl ?_
  refine q_iconst rfl ?_
  refine s_istore_n (lv' := [(2, .int 0), (0, .ref 7), (1, .int 0)]) rfl (by decide) rfl ?_
  refine q_aload_n rfl rfl ?_
  have e7_2 := (f2.ne rfl (f1.ne rfl e7))
  refine s_alen (x := 20) rfl e7_2 rfl (by decide) ?_
  refine s_istore_n (lv' := [(3, .int 20), (2, .int 0), (0, .ref 7), (1, .int 0)]) rfl (by decide) rfl ?_
  refine q_iload_n rfl rfl ?_
  refine q_iload_n rfl rfl ?_
  refine q_icmp_ge rfl (fun c => absurd c (by decide)) (fun _ => ?_)
  refine q_aload_n rfl rfl ?_
  refine q_iload_n rfl rfl ?_
  refine q_iload_n rfl rfl ?_
  refine s_bastore (j := 0) rfl e7_2 (by decide) rfl (fun h3 o3 f3 => ?_)
  have s3 := s2.put f3
  refine s_iinc (y := 1) (lv' := [(2, .int 1), (3, .int 20), (0, .ref 7), (1, .int 0)]) rfl rfl (by decide) (by decide) rfl ?_
  refine q_goto rfl ?_
  refine q_iload_n rfl rfl ?_
  refine q_iload_n rfl rfl ?_
  refine q_icmp_ge rfl (fun c => absurd c (by decide)) (fun _ => ?_)
  refine q_aload_n rfl rfl ?_
  refine q_iload_n rfl rfl ?_
  refine q_iload_n rfl rfl ?_
  refine s_bastore (j := 1) rfl o3 (by decide) rfl (fun h4 o4 f4 => ?_)
  have s4 := s3.put f4
  refine s_iinc (y := 2) (lv' := [(2, .int 2), (3, .int 20), (0, .ref 7), (1, .int 0)]) rfl rfl (by decide) (by decide) rfl ?_
  refine q_goto rfl ?_
  refine q_iload_n rfl rfl ?_
  refine q_iload_n rfl rfl ?_
  refine q_icmp_ge rfl (fun c => absurd c (by decide)) (fun _ => ?_)
  refine q_aload_n rfl rfl ?_
  refine q_iload_n rfl rfl ?_
  refine q_iload_n rfl rfl ?_
  refine s_bastore (j := 2) rfl o4 (by decide) rfl (fun h5 o5 f5 => ?_)
  have s5 := s4.put f5
  refine s_iinc (y := 3) (lv' := [(2, .int 3), (3, .int 20), (0, .ref 7), (1, .int 0)]) rfl rfl (by decide) (by decide) rfl ?_
  refine q_goto rfl ?_
  refine q_iload_n rfl rfl ?_
  refine q_iload_n rfl rfl ?_
  refine q_icmp_ge rfl (fun c => absurd c (by decide)) (fun _ => ?_)
  refine q_aload_n rfl rfl ?_
  refine q_iload_n rfl rfl ?_
  refine q_iload_n rfl rfl ?_
  refine s_bastore (j := 3) rfl o5 (by decide) rfl (fun h6 o6 f6 => ?_)
  have s6 := s5.put f6
  refine s_iinc (y := 4) (lv' := [(2, .int 4), (3, .int 20), (0, .ref 7), (1, .int 0)]) rfl rfl (by decide) (by decide) rfl ?_
  refine q_goto rfl ?_
  refine q_iload_n rfl rfl ?_
  refine q_iload_n rfl rfl ?_
  refine q_icmp_ge rfl (fun c => absurd c (by decide)) (fun _ => ?_)
  refine q_aload_n rfl rfl ?_
  refine q_iload_n rfl rfl ?_
  refine q_iload_n rfl rfl ?_
  refine s_bastore (j := 4) rfl o6 (by decide) rfl (fun h7 o7 f7 => ?_)
  have s7 := s6.put f7
  refine s_iinc (y := 5) (lv' := [(2, .int 5), (3, .int 20), (0, .ref 7), (1, .int 0)]) rfl rfl (by decide) (by decide) rfl ?_
  refine q_goto rfl ?_
  refine q_iload_n rfl rfl ?_
  refine q_iload_n rfl rfl ?_
  refine q_icmp_ge rfl (fun c => absurd c (by decide)) (fun _ => ?_)
  refine q_aload_n rfl rfl ?_
  refine q_iload_n rfl rfl ?_
  refine q_iload_n rfl rfl ?_
  refine s_bastore (j := 5) rfl o7 (by decide) rfl (fun h8 o8 f8 => ?_)
  have s8 := s7.put f8
  refine s_iinc (y := 6) (lv' := [(2, .int 6), (3, .int 20), (0, .ref 7), (1, .int 0)]) rfl rfl (by decide) (by decide) rfl ?_
  refine q_goto rfl ?_
  refine q_iload_n rfl rfl ?_
  refine q_iload_n rfl rfl ?_
  refine q_icmp_ge rfl (fun c => absurd c (by decide)) (fun _ => ?_)
  refine q_aload_n rfl rfl ?_
  refine q_iload_n rfl rfl ?_
  refine q_iload_n rfl rfl ?_
  refine s_bastore (j := 6) rfl o8 (by decide) rfl (fun h9 o9 f9 => ?_)
  have s9 := s8.put f9
  refine s_iinc (y := 7) (lv' := [(2, .int 7), (3, .int 20), (0, .ref 7), (1, .int 0)]) rfl rfl (by decide) (by decide) rfl ?_
  refine q_goto rfl ?_
  refine q_iload_n rfl rfl ?_
  refine q_iload_n rfl rfl ?_
  refine q_icmp_ge rfl (fun c => absurd c (by decide)) (fun _ => ?_)
  refine q_aload_n rfl rfl ?_
  refine q_iload_n rfl rfl ?_
  refine q_iload_n rfl rfl ?_
  refine s_bastore (j := 7) rfl o9 (by decide) rfl (fun h10 o10 f10 => ?_)
  have s10 := s9.put f10
  refine s_iinc (y := 8) (lv' := [(2, .int 8), (3, .int 20), (0, .ref 7), (1, .int 0)]) rfl rfl (by decide) (by decide) rfl ?_
  refine q_goto rfl ?_
  refine q_iload_n rfl rfl ?_
  refine q_iload_n rfl rfl ?_
  refine q_icmp_ge rfl (fun c => absurd c (by decide)) (fun _ => ?_)
  refine q_aload_n rfl rfl ?_
  refine q_iload_n rfl rfl ?_
  refine q_iload_n rfl rfl ?_
  refine s_bastore (j := 8) rfl o10 (by decide) rfl (fun h11 o11 f11 => ?_)
  have s11 := s10.put f11
  refine s_iinc (y := 9) (lv' := [(2, .int 9), (3, .int 20), (0, .ref 7), (1, .int 0)]) rfl rfl (by decide) (by decide) rfl ?_
  refine q_goto rfl ?_
  refine q_iload_n rfl rfl ?_
  refine q_iload_n rfl rfl ?_
  refine q_icmp_ge rfl (fun c => absurd c (by decide)) (fun _ => ?_)
  refine q_aload_n rfl rfl ?_
  refine q_iload_n rfl rfl ?_
  refine q_iload_n rfl rfl ?_
  refine s_bastore (j := 9) rfl o11 (by decide) rfl (fun h12 o12 f12 => ?_)
  have s12 := s11.put f12
  refine s_iinc (y := 10) (lv' := [(2, .int 10), (3, .int 20), (0, .ref 7), (1, .int 0)]) rfl rfl (by decide) (by decide) rfl ?_
  refine q_goto rfl ?_
  refine q_iload_n rfl rfl ?_
  refine q_iload_n rfl rfl ?_
  refine q_icmp_ge rfl (fun c => absurd c (by decide)) (fun _ => ?_)
  refine q_aload_n rfl rfl ?_
  refine q_iload_n rfl rfl ?_
  refine q_iload_n rfl rfl ?_
  refine s_bastore (j := 10) rfl o12 (by decide) rfl (fun h13 o13 f13 => ?_)
  have s13 := s12.put f13
  refine s_iinc (y := 11) (lv' := [(2, .int 11), (3, .int 20), (0, .ref 7), (1, .int 0)]) rfl rfl (by decide) (by decide) rfl ?_
  refine q_goto rfl ?_
  refine q_iload_n rfl rfl ?_
  refine q_iload_n rfl rfl ?_
  refine q_icmp_ge rfl (fun c => absurd c (by decide)) (fun _ => ?_)
  refine q_aload_n rfl rfl ?_
  refine q_iload_n rfl rfl ?_
  refine q_iload_n rfl rfl ?_
  refine s_bastore (j := 11) rfl o13 (by decide) rfl (fun h14 o14 f14 => ?_)
  have s14 := s13.put f14
  refine s_iinc (y := 12) (lv' := [(2, .int 12), (3, .int 20), (0, .ref 7), (1, .int 0)]) rfl rfl (by decide) (by decide) rfl ?_
  refine q_goto rfl ?_
  refine q_iload_n rfl rfl ?_
  refine q_iload_n rfl rfl ?_
  refine q_icmp_ge rfl (fun c => absurd c (by decide)) (fun _ => ?_)
  refine q_aload_n rfl rfl ?_
  refine q_iload_n rfl rfl ?_
  refine q_iload_n rfl rfl ?_
  refine s_bastore (j := 12) rfl o14 (by decide) rfl (fun h15 o15 f15 => ?_)
  have s15 := s14.put f15
  refine s_iinc (y := 13) (lv' := [(2, .int 13), (3, .int 20), (0, .ref 7), (1, .int 0)]) rfl rfl (by decide) (by decide) rfl ?_
  refine q_goto rfl ?_
  refine q_iload_n rfl rfl ?_
  refine q_iload_n rfl rfl ?_
  refine q_icmp_ge rfl (fun c => absurd c (by decide)) (fun _ => ?_)
  refine q_aload_n rfl rfl ?_
  refine q_iload_n rfl rfl ?_
  refine q_iload_n rfl rfl ?_
  refine s_bastore (j := 13) rfl o15 (by decide) rfl (fun h16 o16 f16 => ?_)
  have s16 := s15.put f16
  refine s_iinc (y := 14) (lv' := [(2, .int 14), (3, .int 20), (0, .ref 7), (1, .int 0)]) rfl rfl (by decide) (by decide) rfl ?_
  refine q_goto rfl ?_
  refine q_iload_n rfl rfl ?_
  refine q_iload_n rfl rfl ?_
  refine q_icmp_ge rfl (fun c => absurd c (by decide)) (fun _ => ?_)
  refine q_aload_n rfl rfl ?_
  refine q_iload_n rfl rfl ?_
  refine q_iload_n rfl rfl ?_
  refine s_bastore (j := 14) rfl o16 (by decide) rfl (fun h17 o17 f17 => ?_)
  have s17 := s16.put f17
  refine s_iinc (y := 15) (lv' := [(2, .int 15), (3, .int 20), (0, .ref 7), (1, .int 0)]) rfl rfl (by decide) (by decide) rfl ?_
  refine q_goto rfl ?_
  refine q_iload_n rfl rfl ?_
  refine q_iload_n rfl rfl ?_
  refine q_icmp_ge rfl (fun c => absurd c (by decide)) (fun _ => ?_)
  refine q_aload_n rfl rfl ?_
  refine q_iload_n rfl rfl ?_
  refine q_iload_n rfl rfl ?_
  refine s_bastore (j := 15) rfl o17 (by decide) rfl (fun h18 o18 f18 => ?_)
  have s18 := s17.put f18
  refine s_iinc (y := 16) (lv' := [(2, .int 16), (3, .int 20), (0, .ref 7), (1, .int 0)]) rfl rfl (by decide) (by decide) rfl ?_
  refine q_goto rfl ?_
  refine q_iload_n rfl rfl ?_
  refine q_iload_n rfl rfl ?_
  refine q_icmp_ge rfl (fun c => absurd c (by decide)) (fun _ => ?_)
  refine q_aload_n rfl rfl ?_
  refine q_iload_n rfl rfl ?_
  refine q_iload_n rfl rfl ?_
  refine s_bastore (j := 16) rfl o18 (by decide) rfl (fun h19 o19 f19 => ?_)
  have s19 := s18.put f19
  refine s_iinc (y := 17) (lv' := [(2, .int 17), (3, .int 20), (0, .ref 7), (1, .int 0)]) rfl rfl (by decide) (by decide) rfl ?_
  refine q_goto rfl ?_
  refine q_iload_n rfl rfl ?_
  refine q_iload_n rfl rfl ?_
  refine q_icmp_ge rfl (fun c => absurd c (by decide)) (fun _ => ?_)
  refine q_aload_n rfl rfl ?_
  refine q_iload_n rfl rfl ?_
  refine q_iload_n rfl rfl ?_
  refine s_bastore (j := 17) rfl o19 (by decide) rfl (fun h20 o20 f20 => ?_)
  have s20 := s19.put f20
  refine s_iinc (y := 18) (lv' := [(2, .int 18), (3, .int 20), (0, .ref 7), (1, .int 0)]) rfl rfl (by decide) (by decide) rfl ?_
  refine q_goto rfl ?_
  refine q_iload_n rfl rfl ?_
  refine q_iload_n rfl rfl ?_
  refine q_icmp_ge rfl (fun c => absurd c (by decide)) (fun _ => ?_)
  refine q_aload_n rfl rfl ?_
  refine q_iload_n rfl rfl ?_
  refine q_iload_n rfl rfl ?_
  refine s_bastore (j := 18) rfl o20 (by decide) rfl (fun h21 o21 f21 => ?_)
  have s21 := s20.put f21
  refine s_iinc (y := 19) (lv' := [(2, .int 19), (3, .int 20), (0, .ref 7), (1, .int 0)]) rfl rfl (by decide) (by decide) rfl ?_
  refine q_goto rfl ?_
  refine q_iload_n rfl rfl ?_
  refine q_iload_n rfl rfl ?_
  refine q_icmp_ge rfl (fun c => absurd c (by decide)) (fun _ => ?_)
  refine q_aload_n rfl rfl ?_
  refine q_iload_n rfl rfl ?_
  refine q_iload_n rfl rfl ?_
  refine s_bastore (j := 19) rfl o21 (by decide) rfl (fun h22 o22 f22 => ?_)
  have s22 := s21.put f22
  refine s_iinc (y := 20) (lv' := [(2, .int 20), (3, .int 20), (0, .ref 7), (1, .int 0)]) rfl rfl (by decide) (by decide) rfl ?_
  refine q_goto rfl ?_
  refine q_iload_n rfl rfl ?_
  refine q_iload_n rfl rfl ?_
  refine q_icmp_ge rfl (fun _ => ?_) (fun c => absurd (by decide) c)
  refine q_return rfl rfl ?_
  show aW aiP 15 16 637 59 [(0, .ref 6), (1, .int 17)] [] h22 _
  refine q_aload_n rfl rfl ?_
  have e6_22 := ((((((((((((((((((((o2.ne f3 rfl).ne f4 rfl).ne f5 rfl).ne f6 rfl).ne f7 rfl).ne f8 rfl).ne f9 rfl).ne f10 rfl).ne f11 rfl).ne f12 rfl).ne f13 rfl).ne f14 rfl).ne f15 rfl).ne f16 rfl).ne f17 rfl).ne f18 rfl).ne f19 rfl).ne f20 rfl).ne f21 rfl).ne f22 rfl)
  refine s_get (v := .int 17) rfl e6_22 rfl rfl ?_
  refine q_ireturn rfl rfl ?_
  show aW aiP 0 17 658 233 [(4, .int 0), (3, .ref 233), (2, .ref 191), (1, .ref 6), (0, .ref 0)] [.int 17] h22 _
  refine q_aload_n rfl rfl ?_
  refine q_aload_n rfl rfl ?_
  refine q_iload rfl rfl ?_
  refine q_iconst rfl ?_
  refine s_iadd (k := 1) rfl (by decide) ?_
  have e0_22 := (f22.ne rfl (f21.ne rfl (f20.ne rfl (f19.ne rfl (f18.ne rfl (f17.ne rfl (f16.ne rfl (f15.ne rfl (f14.ne rfl (f13.ne rfl (f12.ne rfl (f11.ne rfl (f10.ne rfl (f9.ne rfl (f8.ne rfl (f7.ne rfl (f6.ne rfl (f5.ne rfl (f4.ne rfl (f3.ne rfl (f2.ne rfl (f1.ne rfl e0))))))))))))))))))))))
  refine s_iaload (j := 1) (v := .int (xs 1)) rfl e0_22 (by decide) rfl (by first | rfl | decide) ?_
  rw [hw]
  have e191_22 := ((((((((((((((((((((((e191.ne f1 rfl).ne f2 rfl).ne f3 rfl).ne f4 rfl).ne f5 rfl).ne f6 rfl).ne f7 rfl).ne f8 rfl).ne f9 rfl).ne f10 rfl).ne f11 rfl).ne f12 rfl).ne f13 rfl).ne f14 rfl).ne f15 rfl).ne f16 rfl).ne f17 rfl).ne f18 rfl).ne f19 rfl).ne f20 rfl).ne f21 rfl).ne f22 rfl)
  refine s_callV (as := [.int 17]) (rest := [.int 17]) (d' := 16) (w' := 636) (lv' := [(0, .ref 191), (1, .int 17)]) rfl e191_22 rfl rfl rfl rfl rfl rfl ?_
  refine q_aload_n rfl rfl ?_
  refine q_iconst rfl ?_
  refine s_put (vs' := [.int 0, .ref 192, .ref 193, .int 0, .ref 194, .ref 195, .ref 196, .ref 197, .ref 198, .ref 199, .ref 200, .ref 201, .ref 202, .ref 203, .ref 204, .ref 205, .int (-1), .int 0, .ref 206, .ref 207, .ref 208, .ref 209, .ref 210, .ref 211, .ref 212, .ref 213, .ref 214, .ref 215, .int 0, .int 0, .int 0, .int 0, .ref 216, .ref 217, .ref 218, .ref 219, .ref 220, .int (-1), .int 0, .int 0, .int 0, .int 0, .int 0, .int 0, .ref 221, .ref 222, .ref 223, .ref 224, .int 0, .ref 225, .int 0, .ref 226, .ref 227, .int 0, .ref 228, .ref 229, .ref 230, .ref 231, .ref 232]) rfl e191_22 rfl rfl rfl rfl (fun h23 o23 f23 => ?_)
  have s23 := s22.put f23
  refine q_iload_n rfl rfl ?_
  refine q_if_lt rfl (fun c => absurd c (by decide)) (fun _ => ?_)
  refine q_iload_n rfl rfl ?_
  refine q_bipush rfl ?_
  refine q_icmp_gt rfl (fun c => absurd c (by decide)) (fun _ => ?_)
  refine q_aload_n rfl rfl ?_
  refine s_get (v := .int 0) rfl o23 rfl rfl ?_
  refine q_iload_n rfl rfl ?_
  refine s_iadd (k := 17) rfl (by decide) ?_
  refine q_sipush rfl ?_
  refine q_icmp_le rfl (fun _ => ?_) (fun c => absurd (by decide) c)
  refine q_iconst rfl ?_
  refine s_istore_n (lv' := [(2, .int 0), (0, .ref 191), (1, .int 17)]) rfl (by decide) rfl ?_
  refine q_iload_n rfl rfl ?_
  refine q_iload_n rfl rfl ?_
  refine q_icmp_ge rfl (fun c => absurd c (by decide)) (fun _ => ?_)
  refine q_aload_n rfl rfl ?_
  refine s_get (v := .ref 193) rfl o23 rfl rfl ?_
  refine q_aload_n rfl rfl ?_
  refine s_get (v := .int 0) rfl o23 rfl rfl ?_
  refine q_aload_n rfl rfl ?_
  refine s_get (v := .ref 192) rfl o23 rfl rfl ?_
  refine q_iload_n rfl rfl ?_
  have e192_23 := (f23.ne rfl (f22.ne rfl (f21.ne rfl (f20.ne rfl (f19.ne rfl (f18.ne rfl (f17.ne rfl (f16.ne rfl (f15.ne rfl (f14.ne rfl (f13.ne rfl (f12.ne rfl (f11.ne rfl (f10.ne rfl (f9.ne rfl (f8.ne rfl (f7.ne rfl (f6.ne rfl (f5.ne rfl (f4.ne rfl (f3.ne rfl (f2.ne rfl (f1.ne rfl e192)))))))))))))))))))))))
  refine s_iaload (j := 0) (v := .int 0) rfl e192_23 (by decide) rfl (by first | rfl | decide) ?_
  have e193_23 := (f23.ne rfl (f22.ne rfl (f21.ne rfl (f20.ne rfl (f19.ne rfl (f18.ne rfl (f17.ne rfl (f16.ne rfl (f15.ne rfl (f14.ne rfl (f13.ne rfl (f12.ne rfl (f11.ne rfl (f10.ne rfl (f9.ne rfl (f8.ne rfl (f7.ne rfl (f6.ne rfl (f5.ne rfl (f4.ne rfl (f3.ne rfl (f2.ne rfl (f1.ne rfl e193)))))))))))))))))))))))
  refine s_iastore (j := 0) rfl e193_23 (by decide) rfl (fun h24 o24 f24 => ?_)
  have s24 := s23.put f24
  refine q_aload_n rfl rfl ?_
  refine q_dup rfl rfl ?_
  have e191_24 := (o23.ne f24 rfl)
  refine s_get (v := .int 0) rfl e191_24 rfl rfl ?_
  refine q_iconst rfl ?_
  refine s_iadd (k := 1) rfl (by decide) ?_
  refine s_put (vs' := [.int 0, .ref 192, .ref 193, .int 1, .ref 194, .ref 195, .ref 196, .ref 197, .ref 198, .ref 199, .ref 200, .ref 201, .ref 202, .ref 203, .ref 204, .ref 205, .int (-1), .int 0, .ref 206, .ref 207, .ref 208, .ref 209, .ref 210, .ref 211, .ref 212, .ref 213, .ref 214, .ref 215, .int 0, .int 0, .int 0, .int 0, .ref 216, .ref 217, .ref 218, .ref 219, .ref 220, .int (-1), .int 0, .int 0, .int 0, .int 0, .int 0, .int 0, .ref 221, .ref 222, .ref 223, .ref 224, .int 0, .ref 225, .int 0, .ref 226, .ref 227, .int 0, .ref 228, .ref 229, .ref 230, .ref 231, .ref 232]) rfl e191_24 rfl rfl rfl rfl (fun h25 o25 f25 => ?_)
  have s25 := s24.put f25
  refine s_iinc (y := 1) (lv' := [(2, .int 1), (0, .ref 191), (1, .int 17)]) rfl rfl (by decide) (by decide) rfl ?_
  refine q_goto rfl ?_
  refine q_iload_n rfl rfl ?_
  refine q_iload_n rfl rfl ?_
  refine q_icmp_ge rfl (fun c => absurd c (by decide)) (fun _ => ?_)
  refine q_aload_n rfl rfl ?_
  refine s_get (v := .ref 193) rfl o25 rfl rfl ?_
  refine q_aload_n rfl rfl ?_
  refine s_get (v := .int 1) rfl o25 rfl rfl ?_
  refine q_aload_n rfl rfl ?_
  refine s_get (v := .ref 192) rfl o25 rfl rfl ?_
  refine q_iload_n rfl rfl ?_
  have e192_25 := (f25.ne rfl (f24.ne rfl e192_23))
  refine s_iaload (j := 1) (v := .int 0) rfl e192_25 (by decide) rfl (by first | rfl | decide) ?_
  have e193_25 := (f25.ne rfl o24)
  refine s_iastore (j := 1) rfl e193_25 (by decide) rfl (fun h26 o26 f26 => ?_)
  have s26 := s25.put f26
  refine q_aload_n rfl rfl ?_
  refine q_dup rfl rfl ?_
  have e191_26 := (o25.ne f26 rfl)
  refine s_get (v := .int 1) rfl e191_26 rfl rfl ?_
  refine q_iconst rfl ?_
  refine s_iadd (k := 2) rfl (by decide) ?_
  refine s_put (vs' := [.int 0, .ref 192, .ref 193, .int 2, .ref 194, .ref 195, .ref 196, .ref 197, .ref 198, .ref 199, .ref 200, .ref 201, .ref 202, .ref 203, .ref 204, .ref 205, .int (-1), .int 0, .ref 206, .ref 207, .ref 208, .ref 209, .ref 210, .ref 211, .ref 212, .ref 213, .ref 214, .ref 215, .int 0, .int 0, .int 0, .int 0, .ref 216, .ref 217, .ref 218, .ref 219, .ref 220, .int (-1), .int 0, .int 0, .int 0, .int 0, .int 0, .int 0, .ref 221, .ref 222, .ref 223, .ref 224, .int 0, .ref 225, .int 0, .ref 226, .ref 227, .int 0, .ref 228, .ref 229, .ref 230, .ref 231, .ref 232]) rfl e191_26 rfl rfl rfl rfl (fun h27 o27 f27 => ?_)
  have s27 := s26.put f27
  refine s_iinc (y := 2) (lv' := [(2, .int 2), (0, .ref 191), (1, .int 17)]) rfl rfl (by decide) (by decide) rfl ?_
  refine q_goto rfl ?_
  refine q_iload_n rfl rfl ?_
  refine q_iload_n rfl rfl ?_
  refine q_icmp_ge rfl (fun c => absurd c (by decide)) (fun _ => ?_)
  refine q_aload_n rfl rfl ?_
  refine s_get (v := .ref 193) rfl o27 rfl rfl ?_
  refine q_aload_n rfl rfl ?_
  refine s_get (v := .int 2) rfl o27 rfl rfl ?_
  refine q_aload_n rfl rfl ?_
  refine s_get (v := .ref 192) rfl o27 rfl rfl ?_
  refine q_iload_n rfl rfl ?_
  have e192_27 := (f27.ne rfl (f26.ne rfl e192_25))
  refine s_iaload (j := 2) (v := .int 0) rfl e192_27 (by decide) rfl (by first | rfl | decide) ?_
  have e193_27 := (f27.ne rfl o26)
  refine s_iastore (j := 2) rfl e193_27 (by decide) rfl (fun h28 o28 f28 => ?_)
  have s28 := s27.put f28
  refine q_aload_n rfl rfl ?_
  refine q_dup rfl rfl ?_
  have e191_28 := (o27.ne f28 rfl)
  refine s_get (v := .int 2) rfl e191_28 rfl rfl ?_
  refine q_iconst rfl ?_
  refine s_iadd (k := 3) rfl (by decide) ?_
  refine s_put (vs' := [.int 0, .ref 192, .ref 193, .int 3, .ref 194, .ref 195, .ref 196, .ref 197, .ref 198, .ref 199, .ref 200, .ref 201, .ref 202, .ref 203, .ref 204, .ref 205, .int (-1), .int 0, .ref 206, .ref 207, .ref 208, .ref 209, .ref 210, .ref 211, .ref 212, .ref 213, .ref 214, .ref 215, .int 0, .int 0, .int 0, .int 0, .ref 216, .ref 217, .ref 218, .ref 219, .ref 220, .int (-1), .int 0, .int 0, .int 0, .int 0, .int 0, .int 0, .ref 221, .ref 222, .ref 223, .ref 224, .int 0, .ref 225, .int 0, .ref 226, .ref 227, .int 0, .ref 228, .ref 229, .ref 230, .ref 231, .ref 232]) rfl e191_28 rfl rfl rfl rfl (fun h29 o29 f29 => ?_)
  have s29 := s28.put f29
  refine s_iinc (y := 3) (lv' := [(2, .int 3), (0, .ref 191), (1, .int 17)]) rfl rfl (by decide) (by decide) rfl ?_
  refine q_goto rfl ?_
  refine q_iload_n rfl rfl ?_
  refine q_iload_n rfl rfl ?_
  refine q_icmp_ge rfl (fun c => absurd c (by decide)) (fun _ => ?_)
  refine q_aload_n rfl rfl ?_
  refine s_get (v := .ref 193) rfl o29 rfl rfl ?_
  refine q_aload_n rfl rfl ?_
  refine s_get (v := .int 3) rfl o29 rfl rfl ?_
  refine q_aload_n rfl rfl ?_
  refine s_get (v := .ref 192) rfl o29 rfl rfl ?_
  refine q_iload_n rfl rfl ?_
  have e192_29 := (f29.ne rfl (f28.ne rfl e192_27))
  refine s_iaload (j := 3) (v := .int 0) rfl e192_29 (by decide) rfl (by first | rfl | decide) ?_
  have e193_29 := (f29.ne rfl o28)
  refine s_iastore (j := 3) rfl e193_29 (by decide) rfl (fun h30 o30 f30 => ?_)
  have s30 := s29.put f30
  refine q_aload_n rfl rfl ?_
  refine q_dup rfl rfl ?_
  have e191_30 := (o29.ne f30 rfl)
  refine s_get (v := .int 3) rfl e191_30 rfl rfl ?_
  refine q_iconst rfl ?_
  refine s_iadd (k := 4) rfl (by decide) ?_
  refine s_put (vs' := [.int 0, .ref 192, .ref 193, .int 4, .ref 194, .ref 195, .ref 196, .ref 197, .ref 198, .ref 199, .ref 200, .ref 201, .ref 202, .ref 203, .ref 204, .ref 205, .int (-1), .int 0, .ref 206, .ref 207, .ref 208, .ref 209, .ref 210, .ref 211, .ref 212, .ref 213, .ref 214, .ref 215, .int 0, .int 0, .int 0, .int 0, .ref 216, .ref 217, .ref 218, .ref 219, .ref 220, .int (-1), .int 0, .int 0, .int 0, .int 0, .int 0, .int 0, .ref 221, .ref 222, .ref 223, .ref 224, .int 0, .ref 225, .int 0, .ref 226, .ref 227, .int 0, .ref 228, .ref 229, .ref 230, .ref 231, .ref 232]) rfl e191_30 rfl rfl rfl rfl (fun h31 o31 f31 => ?_)
  have s31 := s30.put f31
  refine s_iinc (y := 4) (lv' := [(2, .int 4), (0, .ref 191), (1, .int 17)]) rfl rfl (by decide) (by decide) rfl ?_
  refine q_goto rfl ?_
  refine q_iload_n rfl rfl ?_
  refine q_iload_n rfl rfl ?_
  refine q_icmp_ge rfl (fun c => absurd c (by decide)) (fun _ => ?_)
  refine q_aload_n rfl rfl ?_
  refine s_get (v := .ref 193) rfl o31 rfl rfl ?_
  refine q_aload_n rfl rfl ?_
  refine s_get (v := .int 4) rfl o31 rfl rfl ?_
  refine q_aload_n rfl rfl ?_
  refine s_get (v := .ref 192) rfl o31 rfl rfl ?_
  refine q_iload_n rfl rfl ?_
  have e192_31 := (f31.ne rfl (f30.ne rfl e192_29))
  refine s_iaload (j := 4) (v := .int 0) rfl e192_31 (by decide) rfl (by first | rfl | decide) ?_
  have e193_31 := (f31.ne rfl o30)
  refine s_iastore (j := 4) rfl e193_31 (by decide) rfl (fun h32 o32 f32 => ?_)
  have s32 := s31.put f32
  refine q_aload_n rfl rfl ?_
  refine q_dup rfl rfl ?_
  have e191_32 := (o31.ne f32 rfl)
  refine s_get (v := .int 4) rfl e191_32 rfl rfl ?_
  refine q_iconst rfl ?_
  refine s_iadd (k := 5) rfl (by decide) ?_
  refine s_put (vs' := [.int 0, .ref 192, .ref 193, .int 5, .ref 194, .ref 195, .ref 196, .ref 197, .ref 198, .ref 199, .ref 200, .ref 201, .ref 202, .ref 203, .ref 204, .ref 205, .int (-1), .int 0, .ref 206, .ref 207, .ref 208, .ref 209, .ref 210, .ref 211, .ref 212, .ref 213, .ref 214, .ref 215, .int 0, .int 0, .int 0, .int 0, .ref 216, .ref 217, .ref 218, .ref 219, .ref 220, .int (-1), .int 0, .int 0, .int 0, .int 0, .int 0, .int 0, .ref 221, .ref 222, .ref 223, .ref 224, .int 0, .ref 225, .int 0, .ref 226, .ref 227, .int 0, .ref 228, .ref 229, .ref 230, .ref 231, .ref 232]) rfl e191_32 rfl rfl rfl rfl (fun h33 o33 f33 => ?_)
  have s33 := s32.put f33
  refine s_iinc (y := 5) (lv' := [(2, .int 5), (0, .ref 191), (1, .int 17)]) rfl rfl (by decide) (by decide) rfl ?_
  refine q_goto rfl ?_
  refine q_iload_n rfl rfl ?_
  refine q_iload_n rfl rfl ?_
  refine q_icmp_ge rfl (fun c => absurd c (by decide)) (fun _ => ?_)
  refine q_aload_n rfl rfl ?_
  refine s_get (v := .ref 193) rfl o33 rfl rfl ?_
  refine q_aload_n rfl rfl ?_
  refine s_get (v := .int 5) rfl o33 rfl rfl ?_
  refine q_aload_n rfl rfl ?_
  refine s_get (v := .ref 192) rfl o33 rfl rfl ?_
  refine q_iload_n rfl rfl ?_
  have e192_33 := (f33.ne rfl (f32.ne rfl e192_31))
  refine s_iaload (j := 5) (v := .int 0) rfl e192_33 (by decide) rfl (by first | rfl | decide) ?_
  have e193_33 := (f33.ne rfl o32)
  refine s_iastore (j := 5) rfl e193_33 (by decide) rfl (fun h34 o34 f34 => ?_)
  have s34 := s33.put f34
  refine q_aload_n rfl rfl ?_
  refine q_dup rfl rfl ?_
  have e191_34 := (o33.ne f34 rfl)
  refine s_get (v := .int 5) rfl e191_34 rfl rfl ?_
  refine q_iconst rfl ?_
  refine s_iadd (k := 6) rfl (by decide) ?_
  refine s_put (vs' := [.int 0, .ref 192, .ref 193, .int 6, .ref 194, .ref 195, .ref 196, .ref 197, .ref 198, .ref 199, .ref 200, .ref 201, .ref 202, .ref 203, .ref 204, .ref 205, .int (-1), .int 0, .ref 206, .ref 207, .ref 208, .ref 209, .ref 210, .ref 211, .ref 212, .ref 213, .ref 214, .ref 215, .int 0, .int 0, .int 0, .int 0, .ref 216, .ref 217, .ref 218, .ref 219, .ref 220, .int (-1), .int 0, .int 0, .int 0, .int 0, .int 0, .int 0, .ref 221, .ref 222, .ref 223, .ref 224, .int 0, .ref 225, .int 0, .ref 226, .ref 227, .int 0, .ref 228, .ref 229, .ref 230, .ref 231, .ref 232]) rfl e191_34 rfl rfl rfl rfl (fun h35 o35 f35 => ?_)
  have s35 := s34.put f35
  refine s_iinc (y := 6) (lv' := [(2, .int 6), (0, .ref 191), (1, .int 17)]) rfl rfl (by decide) (by decide) rfl ?_
  refine q_goto rfl ?_
  refine q_iload_n rfl rfl ?_
  refine q_iload_n rfl rfl ?_
  refine q_icmp_ge rfl (fun c => absurd c (by decide)) (fun _ => ?_)
  refine q_aload_n rfl rfl ?_
  refine s_get (v := .ref 193) rfl o35 rfl rfl ?_
  refine q_aload_n rfl rfl ?_
  refine s_get (v := .int 6) rfl o35 rfl rfl ?_
  refine q_aload_n rfl rfl ?_
  refine s_get (v := .ref 192) rfl o35 rfl rfl ?_
  refine q_iload_n rfl rfl ?_
  have e192_35 := (f35.ne rfl (f34.ne rfl e192_33))
  refine s_iaload (j := 6) (v := .int 0) rfl e192_35 (by decide) rfl (by first | rfl | decide) ?_
  have e193_35 := (f35.ne rfl o34)
  refine s_iastore (j := 6) rfl e193_35 (by decide) rfl (fun h36 o36 f36 => ?_)
  have s36 := s35.put f36
  refine q_aload_n rfl rfl ?_
  refine q_dup rfl rfl ?_
  have e191_36 := (o35.ne f36 rfl)
  refine s_get (v := .int 6) rfl e191_36 rfl rfl ?_
  refine q_iconst rfl ?_
  refine s_iadd (k := 7) rfl (by decide) ?_
  refine s_put (vs' := [.int 0, .ref 192, .ref 193, .int 7, .ref 194, .ref 195, .ref 196, .ref 197, .ref 198, .ref 199, .ref 200, .ref 201, .ref 202, .ref 203, .ref 204, .ref 205, .int (-1), .int 0, .ref 206, .ref 207, .ref 208, .ref 209, .ref 210, .ref 211, .ref 212, .ref 213, .ref 214, .ref 215, .int 0, .int 0, .int 0, .int 0, .ref 216, .ref 217, .ref 218, .ref 219, .ref 220, .int (-1), .int 0, .int 0, .int 0, .int 0, .int 0, .int 0, .ref 221, .ref 222, .ref 223, .ref 224, .int 0, .ref 225, .int 0, .ref 226, .ref 227, .int 0, .ref 228, .ref 229, .ref 230, .ref 231, .ref 232]) rfl e191_36 rfl rfl rfl rfl (fun h37 o37 f37 => ?_)
  have s37 := s36.put f37
  refine s_iinc (y := 7) (lv' := [(2, .int 7), (0, .ref 191), (1, .int 17)]) rfl rfl (by decide) (by decide) rfl ?_
  refine q_goto rfl ?_
  refine q_iload_n rfl rfl ?_
  refine q_iload_n rfl rfl ?_
  refine q_icmp_ge rfl (fun c => absurd c (by decide)) (fun _ => ?_)
  refine q_aload_n rfl rfl ?_
  refine s_get (v := .ref 193) rfl o37 rfl rfl ?_
  refine q_aload_n rfl rfl ?_
  refine s_get (v := .int 7) rfl o37 rfl rfl ?_
  refine q_aload_n rfl rfl ?_
  refine s_get (v := .ref 192) rfl o37 rfl rfl ?_
  refine q_iload_n rfl rfl ?_
  have e192_37 := (f37.ne rfl (f36.ne rfl e192_35))
  refine s_iaload (j := 7) (v := .int 0) rfl e192_37 (by decide) rfl (by first | rfl | decide) ?_
  have e193_37 := (f37.ne rfl o36)
  refine s_iastore (j := 7) rfl e193_37 (by decide) rfl (fun h38 o38 f38 => ?_)
  have s38 := s37.put f38
  refine q_aload_n rfl rfl ?_
  refine q_dup rfl rfl ?_
  have e191_38 := (o37.ne f38 rfl)
  refine s_get (v := .int 7) rfl e191_38 rfl rfl ?_
  refine q_iconst rfl ?_
  refine s_iadd (k := 8) rfl (by decide) ?_
  refine s_put (vs' := [.int 0, .ref 192, .ref 193, .int 8, .ref 194, .ref 195, .ref 196, .ref 197, .ref 198, .ref 199, .ref 200, .ref 201, .ref 202, .ref 203, .ref 204, .ref 205, .int (-1), .int 0, .ref 206, .ref 207, .ref 208, .ref 209, .ref 210, .ref 211, .ref 212, .ref 213, .ref 214, .ref 215, .int 0, .int 0, .int 0, .int 0, .ref 216, .ref 217, .ref 218, .ref 219, .ref 220, .int (-1), .int 0, .int 0, .int 0, .int 0, .int 0, .int 0, .ref 221, .ref 222, .ref 223, .ref 224, .int 0, .ref 225, .int 0, .ref 226, .ref 227, .int 0, .ref 228, .ref 229, .ref 230, .ref 231, .ref 232]) rfl e191_38 rfl rfl rfl rfl (fun h39 o39 f39 => ?_)
  have s39 := s38.put f39
  refine s_iinc (y := 8) (lv' := [(2, .int 8), (0, .ref 191), (1, .int 17)]) rfl rfl (by decide) (by decide) rfl ?_
  refine q_goto rfl ?_
  refine q_iload_n rfl rfl ?_
  refine q_iload_n rfl rfl ?_
  refine q_icmp_ge rfl (fun c => absurd c (by decide)) (fun _ => ?_)
  refine q_aload_n rfl rfl ?_
  refine s_get (v := .ref 193) rfl o39 rfl rfl ?_
  refine q_aload_n rfl rfl ?_
  refine s_get (v := .int 8) rfl o39 rfl rfl ?_
  refine q_aload_n rfl rfl ?_
  refine s_get (v := .ref 192) rfl o39 rfl rfl ?_
  refine q_iload_n rfl rfl ?_
  have e192_39 := (f39.ne rfl (f38.ne rfl e192_37))
  refine s_iaload (j := 8) (v := .int 0) rfl e192_39 (by decide) rfl (by first | rfl | decide) ?_
  have e193_39 := (f39.ne rfl o38)
  refine s_iastore (j := 8) rfl e193_39 (by decide) rfl (fun h40 o40 f40 => ?_)
  have s40 := s39.put f40
  refine q_aload_n rfl rfl ?_
  refine q_dup rfl rfl ?_
  have e191_40 := (o39.ne f40 rfl)
  refine s_get (v := .int 8) rfl e191_40 rfl rfl ?_
  refine q_iconst rfl ?_
  refine s_iadd (k := 9) rfl (by decide) ?_
  refine s_put (vs' := [.int 0, .ref 192, .ref 193, .int 9, .ref 194, .ref 195, .ref 196, .ref 197, .ref 198, .ref 199, .ref 200, .ref 201, .ref 202, .ref 203, .ref 204, .ref 205, .int (-1), .int 0, .ref 206, .ref 207, .ref 208, .ref 209, .ref 210, .ref 211, .ref 212, .ref 213, .ref 214, .ref 215, .int 0, .int 0, .int 0, .int 0, .ref 216, .ref 217, .ref 218, .ref 219, .ref 220, .int (-1), .int 0, .int 0, .int 0, .int 0, .int 0, .int 0, .ref 221, .ref 222, .ref 223, .ref 224, .int 0, .ref 225, .int 0, .ref 226, .ref 227, .int 0, .ref 228, .ref 229, .ref 230, .ref 231, .ref 232]) rfl e191_40 rfl rfl rfl rfl (fun h41 o41 f41 => ?_)
  have s41 := s40.put f41
  refine s_iinc (y := 9) (lv' := [(2, .int 9), (0, .ref 191), (1, .int 17)]) rfl rfl (by decide) (by decide) rfl ?_
  refine q_goto rfl ?_
  refine q_iload_n rfl rfl ?_
  refine q_iload_n rfl rfl ?_
  refine q_icmp_ge rfl (fun c => absurd c (by decide)) (fun _ => ?_)
  refine q_aload_n rfl rfl ?_
  refine s_get (v := .ref 193) rfl o41 rfl rfl ?_
  refine q_aload_n rfl rfl ?_
  refine s_get (v := .int 9) rfl o41 rfl rfl ?_
  refine q_aload_n rfl rfl ?_
  refine s_get (v := .ref 192) rfl o41 rfl rfl ?_
  refine q_iload_n rfl rfl ?_
  have e192_41 := (f41.ne rfl (f40.ne rfl e192_39))
  refine s_iaload (j := 9) (v := .int 0) rfl e192_41 (by decide) rfl (by first | rfl | decide) ?_
  have e193_41 := (f41.ne rfl o40)
  refine s_iastore (j := 9) rfl e193_41 (by decide) rfl (fun h42 o42 f42 => ?_)
  have s42 := s41.put f42
  refine q_aload_n rfl rfl ?_
  refine q_dup rfl rfl ?_
  have e191_42 := (o41.ne f42 rfl)
  refine s_get (v := .int 9) rfl e191_42 rfl rfl ?_
  refine q_iconst rfl ?_
  refine s_iadd (k := 10) rfl (by decide) ?_
  refine s_put (vs' := [.int 0, .ref 192, .ref 193, .int 10, .ref 194, .ref 195, .ref 196, .ref 197, .ref 198, .ref 199, .ref 200, .ref 201, .ref 202, .ref 203, .ref 204, .ref 205, .int (-1), .int 0, .ref 206, .ref 207, .ref 208, .ref 209, .ref 210, .ref 211, .ref 212, .ref 213, .ref 214, .ref 215, .int 0, .int 0, .int 0, .int 0, .ref 216, .ref 217, .ref 218, .ref 219, .ref 220, .int (-1), .int 0, .int 0, .int 0, .int 0, .int 0, .int 0, .ref 221, .ref 222, .ref 223, .ref 224, .int 0, .ref 225, .int 0, .ref 226, .ref 227, .int 0, .ref 228, .ref 229, .ref 230, .ref 231, .ref 232]) rfl e191_42 rfl rfl rfl rfl (fun h43 o43 f43 => ?_)
  have s43 := s42.put f43
  refine s_iinc (y := 10) (lv' := [(2, .int 10), (0, .ref 191), (1, .int 17)]) rfl rfl (by decide) (by decide) rfl ?_
  refine q_goto rfl ?_
  refine q_iload_n rfl rfl ?_
  refine q_iload_n rfl rfl ?_
  refine q_icmp_ge rfl (fun c => absurd c (by decide)) (fun _ => ?_)
  refine q_aload_n rfl rfl ?_
  refine s_get (v := .ref 193) rfl o43 rfl rfl ?_
  refine q_aload_n rfl rfl ?_
  refine s_get (v := .int 10) rfl o43 rfl rfl ?_
  refine q_aload_n rfl rfl ?_
  refine s_get (v := .ref 192) rfl o43 rfl rfl ?_
  refine q_iload_n rfl rfl ?_
  have e192_43 := (f43.ne rfl (f42.ne rfl e192_41))
  refine s_iaload (j := 10) (v := .int 0) rfl e192_43 (by decide) rfl (by first | rfl | decide) ?_
  have e193_43 := (f43.ne rfl o42)
  refine s_iastore (j := 10) rfl e193_43 (by decide) rfl (fun h44 o44 f44 => ?_)
  have s44 := s43.put f44
  refine q_aload_n rfl rfl ?_
  refine q_dup rfl rfl ?_
  have e191_44 := (o43.ne f44 rfl)
  refine s_get (v := .int 10) rfl e191_44 rfl rfl ?_
  refine q_iconst rfl ?_
  refine s_iadd (k := 11) rfl (by decide) ?_
  refine s_put (vs' := [.int 0, .ref 192, .ref 193, .int 11, .ref 194, .ref 195, .ref 196, .ref 197, .ref 198, .ref 199, .ref 200, .ref 201, .ref 202, .ref 203, .ref 204, .ref 205, .int (-1), .int 0, .ref 206, .ref 207, .ref 208, .ref 209, .ref 210, .ref 211, .ref 212, .ref 213, .ref 214, .ref 215, .int 0, .int 0, .int 0, .int 0, .ref 216, .ref 217, .ref 218, .ref 219, .ref 220, .int (-1), .int 0, .int 0, .int 0, .int 0, .int 0, .int 0, .ref 221, .ref 222, .ref 223, .ref 224, .int 0, .ref 225, .int 0, .ref 226, .ref 227, .int 0, .ref 228, .ref 229, .ref 230, .ref 231, .ref 232]) rfl e191_44 rfl rfl rfl rfl (fun h45 o45 f45 => ?_)
  have s45 := s44.put f45
  refine s_iinc (y := 11) (lv' := [(2, .int 11), (0, .ref 191), (1, .int 17)]) rfl rfl (by decide) (by decide) rfl ?_
  refine q_goto rfl ?_
  refine q_iload_n rfl rfl ?_
  refine q_iload_n rfl rfl ?_
  refine q_icmp_ge rfl (fun c => absurd c (by decide)) (fun _ => ?_)
  refine q_aload_n rfl rfl ?_
  refine s_get (v := .ref 193) rfl o45 rfl rfl ?_
  refine q_aload_n rfl rfl ?_
  refine s_get (v := .int 11) rfl o45 rfl rfl ?_
  refine q_aload_n rfl rfl ?_
  refine s_get (v := .ref 192) rfl o45 rfl rfl ?_
  refine q_iload_n rfl rfl ?_
  have e192_45 := (f45.ne rfl (f44.ne rfl e192_43))
  refine s_iaload (j := 11) (v := .int 0) rfl e192_45 (by decide) rfl (by first | rfl | decide) ?_
  have e193_45 := (f45.ne rfl o44)
  refine s_iastore (j := 11) rfl e193_45 (by decide) rfl (fun h46 o46 f46 => ?_)
  have s46 := s45.put f46
  refine q_aload_n rfl rfl ?_
  refine q_dup rfl rfl ?_
  have e191_46 := (o45.ne f46 rfl)
  refine s_get (v := .int 11) rfl e191_46 rfl rfl ?_
  refine q_iconst rfl ?_
  refine s_iadd (k := 12) rfl (by decide) ?_
  refine s_put (vs' := [.int 0, .ref 192, .ref 193, .int 12, .ref 194, .ref 195, .ref 196, .ref 197, .ref 198, .ref 199, .ref 200, .ref 201, .ref 202, .ref 203, .ref 204, .ref 205, .int (-1), .int 0, .ref 206, .ref 207, .ref 208, .ref 209, .ref 210, .ref 211, .ref 212, .ref 213, .ref 214, .ref 215, .int 0, .int 0, .int 0, .int 0, .ref 216, .ref 217, .ref 218, .ref 219, .ref 220, .int (-1), .int 0, .int 0, .int 0, .int 0, .int 0, .int 0, .ref 221, .ref 222, .ref 223, .ref 224, .int 0, .ref 225, .int 0, .ref 226, .ref 227, .int 0, .ref 228, .ref 229, .ref 230, .ref 231, .ref 232]) rfl e191_46 rfl rfl rfl rfl (fun h47 o47 f47 => ?_)
  have s47 := s46.put f47
  refine s_iinc (y := 12) (lv' := [(2, .int 12), (0, .ref 191), (1, .int 17)]) rfl rfl (by decide) (by decide) rfl ?_
  refine q_goto rfl ?_
  refine q_iload_n rfl rfl ?_
  refine q_iload_n rfl rfl ?_
  refine q_icmp_ge rfl (fun c => absurd c (by decide)) (fun _ => ?_)
  refine q_aload_n rfl rfl ?_
  refine s_get (v := .ref 193) rfl o47 rfl rfl ?_
  refine q_aload_n rfl rfl ?_
  refine s_get (v := .int 12) rfl o47 rfl rfl ?_
  refine q_aload_n rfl rfl ?_
  refine s_get (v := .ref 192) rfl o47 rfl rfl ?_
  refine q_iload_n rfl rfl ?_
  have e192_47 := (f47.ne rfl (f46.ne rfl e192_45))
  refine s_iaload (j := 12) (v := .int 0) rfl e192_47 (by decide) rfl (by first | rfl | decide) ?_
  have e193_47 := (f47.ne rfl o46)
  refine s_iastore (j := 12) rfl e193_47 (by decide) rfl (fun h48 o48 f48 => ?_)
  have s48 := s47.put f48
  refine q_aload_n rfl rfl ?_
  refine q_dup rfl rfl ?_
  have e191_48 := (o47.ne f48 rfl)
  refine s_get (v := .int 12) rfl e191_48 rfl rfl ?_
  refine q_iconst rfl ?_
  refine s_iadd (k := 13) rfl (by decide) ?_
  refine s_put (vs' := [.int 0, .ref 192, .ref 193, .int 13, .ref 194, .ref 195, .ref 196, .ref 197, .ref 198, .ref 199, .ref 200, .ref 201, .ref 202, .ref 203, .ref 204, .ref 205, .int (-1), .int 0, .ref 206, .ref 207, .ref 208, .ref 209, .ref 210, .ref 211, .ref 212, .ref 213, .ref 214, .ref 215, .int 0, .int 0, .int 0, .int 0, .ref 216, .ref 217, .ref 218, .ref 219, .ref 220, .int (-1), .int 0, .int 0, .int 0, .int 0, .int 0, .int 0, .ref 221, .ref 222, .ref 223, .ref 224, .int 0, .ref 225, .int 0, .ref 226, .ref 227, .int 0, .ref 228, .ref 229, .ref 230, .ref 231, .ref 232]) rfl e191_48 rfl rfl rfl rfl (fun h49 o49 f49 => ?_)
  have s49 := s48.put f49
  refine s_iinc (y := 13) (lv' := [(2, .int 13), (0, .ref 191), (1, .int 17)]) rfl rfl (by decide) (by decide) rfl ?_
  refine q_goto rfl ?_
  refine q_iload_n rfl rfl ?_
  refine q_iload_n rfl rfl ?_
  refine q_icmp_ge rfl (fun c => absurd c (by decide)) (fun _ => ?_)
  refine q_aload_n rfl rfl ?_
  refine s_get (v := .ref 193) rfl o49 rfl rfl ?_
  refine q_aload_n rfl rfl ?_
  refine s_get (v := .int 13) rfl o49 rfl rfl ?_
  refine q_aload_n rfl rfl ?_
  refine s_get (v := .ref 192) rfl o49 rfl rfl ?_
  refine q_iload_n rfl rfl ?_
  have e192_49 := (f49.ne rfl (f48.ne rfl e192_47))
  refine s_iaload (j := 13) (v := .int 0) rfl e192_49 (by decide) rfl (by first | rfl | decide) ?_
  have e193_49 := (f49.ne rfl o48)
  refine s_iastore (j := 13) rfl e193_49 (by decide) rfl (fun h50 o50 f50 => ?_)
  have s50 := s49.put f50
  refine q_aload_n rfl rfl ?_
  refine q_dup rfl rfl ?_
  have e191_50 := (o49.ne f50 rfl)
  refine s_get (v := .int 13) rfl e191_50 rfl rfl ?_
  refine q_iconst rfl ?_
  refine s_iadd (k := 14) rfl (by decide) ?_
  refine s_put (vs' := [.int 0, .ref 192, .ref 193, .int 14, .ref 194, .ref 195, .ref 196, .ref 197, .ref 198, .ref 199, .ref 200, .ref 201, .ref 202, .ref 203, .ref 204, .ref 205, .int (-1), .int 0, .ref 206, .ref 207, .ref 208, .ref 209, .ref 210, .ref 211, .ref 212, .ref 213, .ref 214, .ref 215, .int 0, .int 0, .int 0, .int 0, .ref 216, .ref 217, .ref 218, .ref 219, .ref 220, .int (-1), .int 0, .int 0, .int 0, .int 0, .int 0, .int 0, .ref 221, .ref 222, .ref 223, .ref 224, .int 0, .ref 225, .int 0, .ref 226, .ref 227, .int 0, .ref 228, .ref 229, .ref 230, .ref 231, .ref 232]) rfl e191_50 rfl rfl rfl rfl (fun h51 o51 f51 => ?_)
  have s51 := s50.put f51
  refine s_iinc (y := 14) (lv' := [(2, .int 14), (0, .ref 191), (1, .int 17)]) rfl rfl (by decide) (by decide) rfl ?_
  refine q_goto rfl ?_
  refine q_iload_n rfl rfl ?_
  refine q_iload_n rfl rfl ?_
  refine q_icmp_ge rfl (fun c => absurd c (by decide)) (fun _ => ?_)
  refine q_aload_n rfl rfl ?_
  refine s_get (v := .ref 193) rfl o51 rfl rfl ?_
  refine q_aload_n rfl rfl ?_
  refine s_get (v := .int 14) rfl o51 rfl rfl ?_
  refine q_aload_n rfl rfl ?_
  refine s_get (v := .ref 192) rfl o51 rfl rfl ?_
  refine q_iload_n rfl rfl ?_
  have e192_51 := (f51.ne rfl (f50.ne rfl e192_49))
  refine s_iaload (j := 14) (v := .int 0) rfl e192_51 (by decide) rfl (by first | rfl | decide) ?_
  have e193_51 := (f51.ne rfl o50)
  refine s_iastore (j := 14) rfl e193_51 (by decide) rfl (fun h52 o52 f52 => ?_)
  have s52 := s51.put f52
  refine q_aload_n rfl rfl ?_
  refine q_dup rfl rfl ?_
  have e191_52 := (o51.ne f52 rfl)
  refine s_get (v := .int 14) rfl e191_52 rfl rfl ?_
  refine q_iconst rfl ?_
  refine s_iadd (k := 15) rfl (by decide) ?_
  refine s_put (vs' := [.int 0, .ref 192, .ref 193, .int 15, .ref 194, .ref 195, .ref 196, .ref 197, .ref 198, .ref 199, .ref 200, .ref 201, .ref 202, .ref 203, .ref 204, .ref 205, .int (-1), .int 0, .ref 206, .ref 207, .ref 208, .ref 209, .ref 210, .ref 211, .ref 212, .ref 213, .ref 214, .ref 215, .int 0, .int 0, .int 0, .int 0, .ref 216, .ref 217, .ref 218, .ref 219, .ref 220, .int (-1), .int 0, .int 0, .int 0, .int 0, .int 0, .int 0, .ref 221, .ref 222, .ref 223, .ref 224, .int 0, .ref 225, .int 0, .ref 226, .ref 227, .int 0, .ref 228, .ref 229, .ref 230, .ref 231, .ref 232]) rfl e191_52 rfl rfl rfl rfl (fun h53 o53 f53 => ?_)
  have s53 := s52.put f53
  refine s_iinc (y := 15) (lv' := [(2, .int 15), (0, .ref 191), (1, .int 17)]) rfl rfl (by decide) (by decide) rfl ?_
  refine q_goto rfl ?_
  refine q_iload_n rfl rfl ?_
  refine q_iload_n rfl rfl ?_
  refine q_icmp_ge rfl (fun c => absurd c (by decide)) (fun _ => ?_)
  refine q_aload_n rfl rfl ?_
  refine s_get (v := .ref 193) rfl o53 rfl rfl ?_
  refine q_aload_n rfl rfl ?_
  refine s_get (v := .int 15) rfl o53 rfl rfl ?_
  refine q_aload_n rfl rfl ?_
  refine s_get (v := .ref 192) rfl o53 rfl rfl ?_
  refine q_iload_n rfl rfl ?_
  have e192_53 := (f53.ne rfl (f52.ne rfl e192_51))
  refine s_iaload (j := 15) (v := .int 0) rfl e192_53 (by decide) rfl (by first | rfl | decide) ?_
  have e193_53 := (f53.ne rfl o52)
  refine s_iastore (j := 15) rfl e193_53 (by decide) rfl (fun h54 o54 f54 => ?_)
  have s54 := s53.put f54
  refine q_aload_n rfl rfl ?_
  refine q_dup rfl rfl ?_
  have e191_54 := (o53.ne f54 rfl)
  refine s_get (v := .int 15) rfl e191_54 rfl rfl ?_
  refine q_iconst rfl ?_
  refine s_iadd (k := 16) rfl (by decide) ?_
  refine s_put (vs' := [.int 0, .ref 192, .ref 193, .int 16, .ref 194, .ref 195, .ref 196, .ref 197, .ref 198, .ref 199, .ref 200, .ref 201, .ref 202, .ref 203, .ref 204, .ref 205, .int (-1), .int 0, .ref 206, .ref 207, .ref 208, .ref 209, .ref 210, .ref 211, .ref 212, .ref 213, .ref 214, .ref 215, .int 0, .int 0, .int 0, .int 0, .ref 216, .ref 217, .ref 218, .ref 219, .ref 220, .int (-1), .int 0, .int 0, .int 0, .int 0, .int 0, .int 0, .ref 221, .ref 222, .ref 223, .ref 224, .int 0, .ref 225, .int 0, .ref 226, .ref 227, .int 0, .ref 228, .ref 229, .ref 230, .ref 231, .ref 232]) rfl e191_54 rfl rfl rfl rfl (fun h55 o55 f55 => ?_)
  have s55 := s54.put f55
  refine s_iinc (y := 16) (lv' := [(2, .int 16), (0, .ref 191), (1, .int 17)]) rfl rfl (by decide) (by decide) rfl ?_
  refine q_goto rfl ?_
  refine q_iload_n rfl rfl ?_
  refine q_iload_n rfl rfl ?_
  refine q_icmp_ge rfl (fun c => absurd c (by decide)) (fun _ => ?_)
  refine q_aload_n rfl rfl ?_
  refine s_get (v := .ref 193) rfl o55 rfl rfl ?_
  refine q_aload_n rfl rfl ?_
  refine s_get (v := .int 16) rfl o55 rfl rfl ?_
  refine q_aload_n rfl rfl ?_
  refine s_get (v := .ref 192) rfl o55 rfl rfl ?_
  refine q_iload_n rfl rfl ?_
  have e192_55 := (f55.ne rfl (f54.ne rfl e192_53))
  refine s_iaload (j := 16) (v := .int 0) rfl e192_55 (by decide) rfl (by first | rfl | decide) ?_
  have e193_55 := (f55.ne rfl o54)
  refine s_iastore (j := 16) rfl e193_55 (by decide) rfl (fun h56 o56 f56 => ?_)
  have s56 := s55.put f56
  refine q_aload_n rfl rfl ?_
  refine q_dup rfl rfl ?_
  have e191_56 := (o55.ne f56 rfl)
  refine s_get (v := .int 16) rfl e191_56 rfl rfl ?_
  refine q_iconst rfl ?_
  refine s_iadd (k := 17) rfl (by decide) ?_
  refine s_put (vs' := [.int 0, .ref 192, .ref 193, .int 17, .ref 194, .ref 195, .ref 196, .ref 197, .ref 198, .ref 199, .ref 200, .ref 201, .ref 202, .ref 203, .ref 204, .ref 205, .int (-1), .int 0, .ref 206, .ref 207, .ref 208, .ref 209, .ref 210, .ref 211, .ref 212, .ref 213, .ref 214, .ref 215, .int 0, .int 0, .int 0, .int 0, .ref 216, .ref 217, .ref 218, .ref 219, .ref 220, .int (-1), .int 0, .int 0, .int 0, .int 0, .int 0, .int 0, .ref 221, .ref 222, .ref 223, .ref 224, .int 0, .ref 225, .int 0, .ref 226, .ref 227, .int 0, .ref 228, .ref 229, .ref 230, .ref 231, .ref 232]) rfl e191_56 rfl rfl rfl rfl (fun h57 o57 f57 => ?_)
  have s57 := s56.put f57
  refine s_iinc (y := 17) (lv' := [(2, .int 17), (0, .ref 191), (1, .int 17)]) rfl rfl (by decide) (by decide) rfl ?_
  refine q_goto rfl ?_
  refine q_iload_n rfl rfl ?_
  refine q_iload_n rfl rfl ?_
  refine q_icmp_ge rfl (fun _ => ?_) (fun c => absurd (by decide) c)
  refine q_iconst rfl ?_
  refine s_istore_n (lv' := [(2, .int 0), (0, .ref 191), (1, .int 17)]) rfl (by decide) rfl ?_
  refine q_iload_n rfl rfl ?_
  refine q_bipush rfl ?_
  refine q_icmp_ge rfl (fun c => absurd c (by decide)) (fun _ => ?_)
  refine q_aload_n rfl rfl ?_
  refine s_get (v := .ref 192) rfl o57 rfl rfl ?_
  refine q_iload_n rfl rfl ?_
  refine q_iconst rfl ?_
  have e192_57 := (f57.ne rfl (f56.ne rfl e192_55))
  refine s_iastore (j := 0) rfl e192_57 (by decide) rfl (fun h58 o58 f58 => ?_)
  have s58 := s57.put f58
  refine s_iinc (y := 1) (lv' := [(2, .int 1), (0, .ref 191), (1, .int 17)]) rfl rfl (by decide) (by decide) rfl ?_
  refine q_goto rfl ?_
  refine q_iload_n rfl rfl ?_
  refine q_bipush rfl ?_
  refine q_icmp_ge rfl (fun c => absurd c (by decide)) (fun _ => ?_)
  refine q_aload_n rfl rfl ?_
  have e191_58 := (o57.ne f58 rfl)
  refine s_get (v := .ref 192) rfl e191_58 rfl rfl ?_
  refine q_iload_n rfl rfl ?_
  refine q_iconst rfl ?_
  refine s_iastore (j := 1) rfl o58 (by decide) rfl (fun h59 o59 f59 => ?_)
  have s59 := s58.put f59
  refine s_iinc (y := 2) (lv' := [(2, .int 2), (0, .ref 191), (1, .int 17)]) rfl rfl (by decide) (by decide) rfl ?_
  refine q_goto rfl ?_
  refine q_iload_n rfl rfl ?_
  refine q_bipush rfl ?_
  refine q_icmp_ge rfl (fun c => absurd c (by decide)) (fun _ => ?_)
  refine q_aload_n rfl rfl ?_
  have e191_59 := (e191_58.ne f59 rfl)
  refine s_get (v := .ref 192) rfl e191_59 rfl rfl ?_
  refine q_iload_n rfl rfl ?_
  refine q_iconst rfl ?_
  refine s_iastore (j := 2) rfl o59 (by decide) rfl (fun h60 o60 f60 => ?_)
  have s60 := s59.put f60
  refine s_iinc (y := 3) (lv' := [(2, .int 3), (0, .ref 191), (1, .int 17)]) rfl rfl (by decide) (by decide) rfl ?_
  refine q_goto rfl ?_
  refine q_iload_n rfl rfl ?_
  refine q_bipush rfl ?_
  refine q_icmp_ge rfl (fun c => absurd c (by decide)) (fun _ => ?_)
  refine q_aload_n rfl rfl ?_
  have e191_60 := (e191_59.ne f60 rfl)
  refine s_get (v := .ref 192) rfl e191_60 rfl rfl ?_
  refine q_iload_n rfl rfl ?_
  refine q_iconst rfl ?_
  refine s_iastore (j := 3) rfl o60 (by decide) rfl (fun h61 o61 f61 => ?_)
  have s61 := s60.put f61
  refine s_iinc (y := 4) (lv' := [(2, .int 4), (0, .ref 191), (1, .int 17)]) rfl rfl (by decide) (by decide) rfl ?_
  refine q_goto rfl ?_
  refine q_iload_n rfl rfl ?_
  refine q_bipush rfl ?_
  refine q_icmp_ge rfl (fun c => absurd c (by decide)) (fun _ => ?_)
  refine q_aload_n rfl rfl ?_
  have e191_61 := (e191_60.ne f61 rfl)
  refine s_get (v := .ref 192) rfl e191_61 rfl rfl ?_
  refine q_iload_n rfl rfl ?_
  refine q_iconst rfl ?_
  refine s_iastore (j := 4) rfl o61 (by decide) rfl (fun h62 o62 f62 => ?_)
  have s62 := s61.put f62
  refine s_iinc (y := 5) (lv' := [(2, .int 5), (0, .ref 191), (1, .int 17)]) rfl rfl (by decide) (by decide) rfl ?_
  refine q_goto rfl ?_
  refine q_iload_n rfl rfl ?_
  refine q_bipush rfl ?_
  refine q_icmp_ge rfl (fun c => absurd c (by decide)) (fun _ => ?_)
  refine q_aload_n rfl rfl ?_
  have e191_62 := (e191_61.ne f62 rfl)
  refine s_get (v := .ref 192) rfl e191_62 rfl rfl ?_
  refine q_iload_n rfl rfl ?_
  refine q_iconst rfl ?_
  refine s_iastore (j := 5) rfl o62 (by decide) rfl (fun h63 o63 f63 => ?_)
  have s63 := s62.put f63
  refine s_iinc (y := 6) (lv' := [(2, .int 6), (0, .ref 191), (1, .int 17)]) rfl rfl (by decide) (by decide) rfl ?_
  refine q_goto rfl ?_
  refine q_iload_n rfl rfl ?_
  refine q_bipush rfl ?_
  refine q_icmp_ge rfl (fun c => absurd c (by decide)) (fun _ => ?_)
  refine q_aload_n rfl rfl ?_
  have e191_63 := (e191_62.ne f63 rfl)
  refine s_get (v := .ref 192) rfl e191_63 rfl rfl ?_
  refine q_iload_n rfl rfl ?_
  refine q_iconst rfl ?_
  refine s_iastore (j := 6) rfl o63 (by decide) rfl (fun h64 o64 f64 => ?_)
  have s64 := s63.put f64
  refine s_iinc (y := 7) (lv' := [(2, .int 7), (0, .ref 191), (1, .int 17)]) rfl rfl (by decide) (by decide) rfl ?_
  refine q_goto rfl ?_
  refine q_iload_n rfl rfl ?_
  refine q_bipush rfl ?_
  refine q_icmp_ge rfl (fun c => absurd c (by decide)) (fun _ => ?_)
  refine q_aload_n rfl rfl ?_
  have e191_64 := (e191_63.ne f64 rfl)
  refine s_get (v := .ref 192) rfl e191_64 rfl rfl ?_
  refine q_iload_n rfl rfl ?_
  refine q_iconst rfl ?_
  refine s_iastore (j := 7) rfl o64 (by decide) rfl (fun h65 o65 f65 => ?_)
  have s65 := s64.put f65
  refine s_iinc (y := 8) (lv' := [(2, .int 8), (0, .ref 191), (1, .int 17)]) rfl rfl (by decide) (by decide) rfl ?_
  refine q_goto rfl ?_
  refine q_iload_n rfl rfl ?_
  refine q_bipush rfl ?_
  refine q_icmp_ge rfl (fun c => absurd c (by decide)) (fun _ => ?_)
  refine q_aload_n rfl rfl ?_
  have e191_65 := (e191_64.ne f65 rfl)
  refine s_get (v := .ref 192) rfl e191_65 rfl rfl ?_
  refine q_iload_n rfl rfl ?_
  refine q_iconst rfl ?_
  refine s_iastore (j := 8) rfl o65 (by decide) rfl (fun h66 o66 f66 => ?_)
  have s66 := s65.put f66
  refine s_iinc (y := 9) (lv' := [(2, .int 9), (0, .ref 191), (1, .int 17)]) rfl rfl (by decide) (by decide) rfl ?_
  refine q_goto rfl ?_
  refine q_iload_n rfl rfl ?_
  refine q_bipush rfl ?_
  refine q_icmp_ge rfl (fun c => absurd c (by decide)) (fun _ => ?_)
  refine q_aload_n rfl rfl ?_
  have e191_66 := (e191_65.ne f66 rfl)
  refine s_get (v := .ref 192) rfl e191_66 rfl rfl ?_
  refine q_iload_n rfl rfl ?_
  refine q_iconst rfl ?_
  refine s_iastore (j := 9) rfl o66 (by decide) rfl (fun h67 o67 f67 => ?_)
  have s67 := s66.put f67
  refine s_iinc (y := 10) (lv' := [(2, .int 10), (0, .ref 191), (1, .int 17)]) rfl rfl (by decide) (by decide) rfl ?_
  refine q_goto rfl ?_
  refine q_iload_n rfl rfl ?_
  refine q_bipush rfl ?_
  refine q_icmp_ge rfl (fun c => absurd c (by decide)) (fun _ => ?_)
  refine q_aload_n rfl rfl ?_
  have e191_67 := (e191_66.ne f67 rfl)
  refine s_get (v := .ref 192) rfl e191_67 rfl rfl ?_
  refine q_iload_n rfl rfl ?_
  refine q_iconst rfl ?_
  refine s_iastore (j := 10) rfl o67 (by decide) rfl (fun h68 o68 f68 => ?_)
  have s68 := s67.put f68
  refine s_iinc (y := 11) (lv' := [(2, .int 11), (0, .ref 191), (1, .int 17)]) rfl rfl (by decide) (by decide) rfl ?_
  refine q_goto rfl ?_
  refine q_iload_n rfl rfl ?_
  refine q_bipush rfl ?_
  refine q_icmp_ge rfl (fun c => absurd c (by decide)) (fun _ => ?_)
  refine q_aload_n rfl rfl ?_
  have e191_68 := (e191_67.ne f68 rfl)
  refine s_get (v := .ref 192) rfl e191_68 rfl rfl ?_
  refine q_iload_n rfl rfl ?_
  refine q_iconst rfl ?_
  refine s_iastore (j := 11) rfl o68 (by decide) rfl (fun h69 o69 f69 => ?_)
  have s69 := s68.put f69
  refine s_iinc (y := 12) (lv' := [(2, .int 12), (0, .ref 191), (1, .int 17)]) rfl rfl (by decide) (by decide) rfl ?_
  refine q_goto rfl ?_
  refine q_iload_n rfl rfl ?_
  refine q_bipush rfl ?_
  refine q_icmp_ge rfl (fun c => absurd c (by decide)) (fun _ => ?_)
  refine q_aload_n rfl rfl ?_
  have e191_69 := (e191_68.ne f69 rfl)
  refine s_get (v := .ref 192) rfl e191_69 rfl rfl ?_
  refine q_iload_n rfl rfl ?_
  refine q_iconst rfl ?_
  refine s_iastore (j := 12) rfl o69 (by decide) rfl (fun h70 o70 f70 => ?_)
  have s70 := s69.put f70
  refine s_iinc (y := 13) (lv' := [(2, .int 13), (0, .ref 191), (1, .int 17)]) rfl rfl (by decide) (by decide) rfl ?_
  refine q_goto rfl ?_
  refine q_iload_n rfl rfl ?_
  refine q_bipush rfl ?_
  refine q_icmp_ge rfl (fun c => absurd c (by decide)) (fun _ => ?_)
  refine q_aload_n rfl rfl ?_
  have e191_70 := (e191_69.ne f70 rfl)
  refine s_get (v := .ref 192) rfl e191_70 rfl rfl ?_
  refine q_iload_n rfl rfl ?_
  refine q_iconst rfl ?_
  refine s_iastore (j := 13) rfl o70 (by decide) rfl (fun h71 o71 f71 => ?_)
  have s71 := s70.put f71
  refine s_iinc (y := 14) (lv' := [(2, .int 14), (0, .ref 191), (1, .int 17)]) rfl rfl (by decide) (by decide) rfl ?_
  refine q_goto rfl ?_
  refine q_iload_n rfl rfl ?_
  refine q_bipush rfl ?_
  refine q_icmp_ge rfl (fun c => absurd c (by decide)) (fun _ => ?_)
  refine q_aload_n rfl rfl ?_
  have e191_71 := (e191_70.ne f71 rfl)
  refine s_get (v := .ref 192) rfl e191_71 rfl rfl ?_
  refine q_iload_n rfl rfl ?_
  refine q_iconst rfl ?_
  refine s_iastore (j := 14) rfl o71 (by decide) rfl (fun h72 o72 f72 => ?_)
  have s72 := s71.put f72
  refine s_iinc (y := 15) (lv' := [(2, .int 15), (0, .ref 191), (1, .int 17)]) rfl rfl (by decide) (by decide) rfl ?_
  refine q_goto rfl ?_
  refine q_iload_n rfl rfl ?_
  refine q_bipush rfl ?_
  refine q_icmp_ge rfl (fun c => absurd c (by decide)) (fun _ => ?_)
  refine q_aload_n rfl rfl ?_
  have e191_72 := (e191_71.ne f72 rfl)
  refine s_get (v := .ref 192) rfl e191_72 rfl rfl ?_
  refine q_iload_n rfl rfl ?_
  refine q_iconst rfl ?_
  refine s_iastore (j := 15) rfl o72 (by decide) rfl (fun h73 o73 f73 => ?_)
  have s73 := s72.put f73
  refine s_iinc (y := 16) (lv' := [(2, .int 16), (0, .ref 191), (1, .int 17)]) rfl rfl (by decide) (by decide) rfl ?_
  refine q_goto rfl ?_
  refine q_iload_n rfl rfl ?_
  refine q_bipush rfl ?_
  refine q_icmp_ge rfl (fun c => absurd c (by decide)) (fun _ => ?_)
  refine q_aload_n rfl rfl ?_
  have e191_73 := (e191_72.ne f73 rfl)
  refine s_get (v := .ref 192) rfl e191_73 rfl rfl ?_
  refine q_iload_n rfl rfl ?_
  refine q_iconst rfl ?_
  refine s_iastore (j := 16) rfl o73 (by decide) rfl (fun h74 o74 f74 => ?_)
  have s74 := s73.put f74
  refine s_iinc (y := 17) (lv' := [(2, .int 17), (0, .ref 191), (1, .int 17)]) rfl rfl (by decide) (by decide) rfl ?_
  refine q_goto rfl ?_
  refine q_iload_n rfl rfl ?_
  refine q_bipush rfl ?_
  refine q_icmp_ge rfl (fun c => absurd c (by decide)) (fun _ => ?_)
  refine q_aload_n rfl rfl ?_
  have e191_74 := (e191_73.ne f74 rfl)
  refine s_get (v := .ref 192) rfl e191_74 rfl rfl ?_
  refine q_iload_n rfl rfl ?_
  refine q_iconst rfl ?_
  refine s_iastore (j := 17) rfl o74 (by decide) rfl (fun h75 o75 f75 => ?_)
  have s75 := s74.put f75
  refine s_iinc (y := 18) (lv' := [(2, .int 18), (0, .ref 191), (1, .int 17)]) rfl rfl (by decide) (by decide) rfl ?_
  refine q_goto rfl ?_
  refine q_iload_n rfl rfl ?_
  refine q_bipush rfl ?_
  refine q_icmp_ge rfl (fun c => absurd c (by decide)) (fun _ => ?_)
  refine q_aload_n rfl rfl ?_
  have e191_75 := (e191_74.ne f75 rfl)
  refine s_get (v := .ref 192) rfl e191_75 rfl rfl ?_
  refine q_iload_n rfl rfl ?_
  refine q_iconst rfl ?_
  refine s_iastore (j := 18) rfl o75 (by decide) rfl (fun h76 o76 f76 => ?_)
  have s76 := s75.put f76
  refine s_iinc (y := 19) (lv' := [(2, .int 19), (0, .ref 191), (1, .int 17)]) rfl rfl (by decide) (by decide) rfl ?_
  refine q_goto rfl ?_
  refine q_iload_n rfl rfl ?_
  refine q_bipush rfl ?_
  refine q_icmp_ge rfl (fun c => absurd c (by decide)) (fun _ => ?_)
  refine q_aload_n rfl rfl ?_
  have e191_76 := (e191_75.ne f76 rfl)
  refine s_get (v := .ref 192) rfl e191_76 rfl rfl ?_
  refine q_iload_n rfl rfl ?_
  refine q_iconst rfl ?_
  refine s_iastore (j := 19) rfl o76 (by decide) rfl (fun h77 o77 f77 => ?_)
  have s77 := s76.put f77
  refine s_iinc (y := 20) (lv' := [(2, .int 20), (0, .ref 191), (1, .int 17)]) rfl rfl (by decide) (by decide) rfl ?_
  refine q_goto rfl ?_
  refine q_iload_n rfl rfl ?_
  refine q_bipush rfl ?_
  refine q_icmp_ge rfl (fun _ => ?_) (fun c => absurd (by decide) c)
  refine q_aload_n rfl rfl ?_
  have e191_77 := (e191_76.ne f77 rfl)
  refine s_get (v := .int 17) rfl e191_77 rfl rfl ?_
  refine q_ireturn rfl rfl ?_
  show aW aiP 0 17 658 243 [(4, .int 0), (3, .ref 233), (2, .ref 191), (1, .ref 6), (0, .ref 0)] [.int 17, .int 17] h77 _
  refine q_icmp_eq rfl (fun _ => ?_) (fun c => absurd (by decide) c)
  refine s_iinc (y := 6) (lv' := [(4, .int 6), (3, .ref 233), (2, .ref 191), (1, .ref 6), (0, .ref 0)]) rfl rfl (by decide) (by decide) rfl ?_
  refine q_goto rfl ?_
  refine q_iload rfl rfl ?_
  refine q_aload_n rfl rfl ?_
  have e0_77 := (f77.ne rfl (f76.ne rfl (f75.ne rfl (f74.ne rfl (f73.ne rfl (f72.ne rfl (f71.ne rfl (f70.ne rfl (f69.ne rfl (f68.ne rfl (f67.ne rfl (f66.ne rfl (f65.ne rfl (f64.ne rfl (f63.ne rfl (f62.ne rfl (f61.ne rfl (f60.ne rfl (f59.ne rfl (f58.ne rfl (f57.ne rfl (f56.ne rfl (f55.ne rfl (f54.ne rfl (f53.ne rfl (f52.ne rfl (f51.ne rfl (f50.ne rfl (f49.ne rfl (f48.ne rfl (f47.ne rfl (f46.ne rfl (f45.ne rfl (f44.ne rfl (f43.ne rfl (f42.ne rfl (f41.ne rfl (f40.ne rfl (f39.ne rfl (f38.ne rfl (f37.ne rfl (f36.ne rfl (f35.ne rfl (f34.ne rfl (f33.ne rfl (f32.ne rfl (f31.ne rfl (f30.ne rfl (f29.ne rfl (f28.ne rfl (f27.ne rfl (f26.ne rfl (f25.ne rfl (f24.ne rfl (f23.ne rfl e0_22)))))))))))))))))))))))))))))))))))))))))))))))))))))))
  refine s_alen (x := 6) rfl e0_77 rfl (by decide) ?_
  refine q_bipush rfl ?_
  refine s_isub (k := 0) rfl (by decide) ?_
  refine q_icmp_gt rfl (fun _ => ?_) (fun c => absurd (by decide) c)
  refine q_iconst rfl ?_
  refine q_ireturn rfl rfl ?_
  exact ⟨rfl, s77.bd rfl⟩
set_option maxRecDepth 20000 in
set_option maxHeartbeats 4000000 in
theorem p_case1_18 {xs : Nat → Int32} {h : ai_H} (F : Fresh 6 xs h) (hk : xs 0 &&& 31 = 1) (hw : xs 1 = 18) : aW aiP 0 17 658 33 [(4, .int 0), (3, .ref 233), (2, .ref 191), (1, .ref 6), (0, .ref 0)] [] h p_Q := by
  obtain ⟨e0, e1, ⟨g2, e2⟩, ⟨g3, e3⟩, ⟨g4, e4⟩, e5, e6, e7, e8, e9, e51, e93, e135, e177, e178, e179, e180, e181, e182, e183, e184, e185, e186, e187, e188, e189, e190, e191, e192, e193, e194, e195, e196, e197, e198, e199, e200, e201, e202, e203, e204, e205, e206, e207, e208, e209, e210, e211, e212, e213, e214, e215, e216, e217, e218, e219, e220, e221, e222, e223, e224, e225, e226, e227, ⟨g228, e228⟩, ⟨g229, e229⟩, e230, e231, e232, e233, s0⟩ := F
  refine q_aload_n rfl rfl ?_
  refine q_iload rfl rfl ?_
  refine s_iaload (j := 0) (v := .int (xs 0)) rfl e0 (by decide) rfl (by first | rfl | decide) ?_
  refine q_bipush rfl ?_
  refine s_iand (k := ((xs 0) &&& (31 : Int32))) rfl rfl ?_
  rw [hk]
  show aW aiP 0 17 658 40 [(4, .int 0), (3, .ref 233), (2, .ref 191), (1, .ref 6), (0, .ref 0)] [.int 1] h _
  refine s_sw (tg := 223) rfl rfl ?_
  refine q_aload_n rfl rfl ?_
  refine q_aload_n rfl rfl ?_
  refine q_iload rfl rfl ?_
  refine q_iconst rfl ?_
  refine s_iadd (k := 1) rfl (by decide) ?_
  refine s_iaload (j := 1) (v := .int (xs 1)) rfl e0 (by decide) rfl (by first | rfl | decide) ?_
  rw [hw]
  refine s_callV (as := [.int 18]) (rest := []) (d' := 16) (w' := 637) (lv' := [(0, .ref 6), (1, .int 18)]) rfl e6 rfl rfl rfl rfl rfl rfl ?_
  refine q_iload_n rfl rfl ?_
  refine q_if_lt rfl (fun c => absurd c (by decide)) (fun _ => ?_)
  refine q_iload_n rfl rfl ?_
  refine q_bipush rfl ?_
  refine q_icmp_gt rfl (fun c => absurd c (by decide)) (fun _ => ?_)
  refine q_aload_n rfl rfl ?_
  refine s_get (v := .int 0) rfl e6 rfl rfl ?_
  refine q_iload_n rfl rfl ?_
  refine s_iadd (k := 18) rfl (by decide) ?_
  refine q_sipush rfl ?_
  refine q_icmp_le rfl (fun _ => ?_) (fun c => absurd (by decide) c)
  refine q_aload_n rfl rfl ?_
  refine s_get (v := .ref 7) rfl e6 rfl rfl ?_
  refine q_iconst rfl ?_
  refine q_aload_n rfl rfl ?_
  refine s_get (v := .ref 8) rfl e6 rfl rfl ?_
  refine q_aload_n rfl rfl ?_
  refine s_get (v := .int 0) rfl e6 rfl rfl ?_
  refine q_iload_n rfl rfl ?_
  refine s_copy (sp := 0) (dp := 0) (k := 18) rfl e7 e8 (by decide) (by decide) (by decide) rfl (by decide) (by decide) (by decide) (fun i _ => rfl) (fun h1 o1 f1 => ?_)
  have s1 := s0.put f1
  refine q_aload_n rfl rfl ?_
  refine q_dup rfl rfl ?_
  have e6_1 := (e6.ne f1 rfl)
  refine s_get (v := .int 0) rfl e6_1 rfl rfl ?_
  refine q_iload_n rfl rfl ?_
  refine s_iadd (k := 18) rfl (by decide) ?_
  refine s_put (vs' := [.ref 7, .ref 8, .int 18, .ref 9, .int (-1), .ref 51, .ref 93, .ref 135, .ref 177, .ref 180, .int 0, .ref 183, .ref 186, .ref 189]) rfl e6_1 rfl rfl rfl rfl (fun h2 o2 f2 => ?_)
  have s2 := s1.put f2
  refine q_aload_n rfl rfl ?_
  refine s_get (v := .ref 7) rfl o2 rfl rfl ?_
  refine q_iconst rfl ?_
  refine s_callS (as := [.ref 7, .int 0]) (rest := []) (d' := 15) (w' := 614) (lv' := [(0, .ref 7), (1, .int 0)]) rfl rfl rfl rfl rfl rfl rfl rfl ?_
  refine q_iconst rfl ?_
  refine s_istore_n (lv' := [(2, .int 0), (0, .ref 7), (1, .int 0)]) rfl (by decide) rfl ?_
  refine q_aload_n rfl rfl ?_
  have e7_2 := (f2.ne rfl (f1.ne rfl e7))
  refine s_alen (x := 20) rfl e7_2 rfl (by decide) ?_
  refine s_istore_n (lv' := [(3, .int 20), (2, .int 0), (0, .ref 7), (1, .int 0)]) rfl (by decide) rfl ?_
  refine q_iload_n rfl rfl ?_
  refine q_iload_n rfl rfl ?_
  refine q_icmp_ge rfl (fun c => absurd c (by decide)) (fun _ => ?_)
  refine q_aload_n rfl rfl ?_
  refine q_iload_n rfl rfl ?_
  refine q_iload_n rfl rfl ?_
  refine s_bastore (j := 0) rfl e7_2 (by decide) rfl (fun h3 o3 f3 => ?_)
  have s3 := s2.put f3
  refine s_iinc (y := 1) (lv' := [(2, .int 1), (3, .int 20), (0, .ref 7), (1, .int 0)]) rfl rfl (by decide) (by decide) rfl ?_
  refine q_goto rfl ?_
  refine q_iload_n rfl rfl ?_
  refine q_iload_n rfl rfl ?_
  refine q_icmp_ge rfl (fun c => absurd c (by decide)) (fun _ => ?_)
  refine q_aload_n rfl rfl ?_
  refine q_iload_n rfl rfl ?_
  refine q_iload_n rfl rfl ?_
  refine s_bastore (j := 1) rfl o3 (by decide) rfl (fun h4 o4 f4 => ?_)
  have s4 := s3.put f4
  refine s_iinc (y := 2) (lv' := [(2, .int 2), (3, .int 20), (0, .ref 7), (1, .int 0)]) rfl rfl (by decide) (by decide) rfl ?_
  refine q_goto rfl ?_
  refine q_iload_n rfl rfl ?_
  refine q_iload_n rfl rfl ?_
  refine q_icmp_ge rfl (fun c => absurd c (by decide)) (fun _ => ?_)
  refine q_aload_n rfl rfl ?_
  refine q_iload_n rfl rfl ?_
  refine q_iload_n rfl rfl ?_
  refine s_bastore (j := 2) rfl o4 (by decide) rfl (fun h5 o5 f5 => ?_)
  have s5 := s4.put f5
  refine s_iinc (y := 3) (lv' := [(2, .int 3), (3, .int 20), (0, .ref 7), (1, .int 0)]) rfl rfl (by decide) (by decide) rfl ?_
  refine q_goto rfl ?_
  refine q_iload_n rfl rfl ?_
  refine q_iload_n rfl rfl ?_
  refine q_icmp_ge rfl (fun c => absurd c (by decide)) (fun _ => ?_)
  refine q_aload_n rfl rfl ?_
  refine q_iload_n rfl rfl ?_
  refine q_iload_n rfl rfl ?_
  refine s_bastore (j := 3) rfl o5 (by decide) rfl (fun h6 o6 f6 => ?_)
  have s6 := s5.put f6
  refine s_iinc (y := 4) (lv' := [(2, .int 4), (3, .int 20), (0, .ref 7), (1, .int 0)]) rfl rfl (by decide) (by decide) rfl ?_
  refine q_goto rfl ?_
  refine q_iload_n rfl rfl ?_
  refine q_iload_n rfl rfl ?_
  refine q_icmp_ge rfl (fun c => absurd c (by decide)) (fun _ => ?_)
  refine q_aload_n rfl rfl ?_
  refine q_iload_n rfl rfl ?_
  refine q_iload_n rfl rfl ?_
  refine s_bastore (j := 4) rfl o6 (by decide) rfl (fun h7 o7 f7 => ?_)
  have s7 := s6.put f7
  refine s_iinc (y := 5) (lv' := [(2, .int 5), (3, .int 20), (0, .ref 7), (1, .int 0)]) rfl rfl (by decide) (by decide) rfl ?_
  refine q_goto rfl ?_
  refine q_iload_n rfl rfl ?_
  refine q_iload_n rfl rfl ?_
  refine q_icmp_ge rfl (fun c => absurd c (by decide)) (fun _ => ?_)
  refine q_aload_n rfl rfl ?_
  refine q_iload_n rfl rfl ?_
  refine q_iload_n rfl rfl ?_
  refine s_bastore (j := 5) rfl o7 (by decide) rfl (fun h8 o8 f8 => ?_)
  have s8 := s7.put f8
  refine s_iinc (y := 6) (lv' := [(2, .int 6), (3, .int 20), (0, .ref 7), (1, .int 0)]) rfl rfl (by decide) (by decide) rfl ?_
  refine q_goto rfl ?_
  refine q_iload_n rfl rfl ?_
  refine q_iload_n rfl rfl ?_
  refine q_icmp_ge rfl (fun c => absurd c (by decide)) (fun _ => ?_)
  refine q_aload_n rfl rfl ?_
  refine q_iload_n rfl rfl ?_
  refine q_iload_n rfl rfl ?_
  refine s_bastore (j := 6) rfl o8 (by decide) rfl (fun h9 o9 f9 => ?_)
  have s9 := s8.put f9
  refine s_iinc (y := 7) (lv' := [(2, .int 7), (3, .int 20), (0, .ref 7), (1, .int 0)]) rfl rfl (by decide) (by decide) rfl ?_
  refine q_goto rfl ?_
  refine q_iload_n rfl rfl ?_
  refine q_iload_n rfl rfl ?_
  refine q_icmp_ge rfl (fun c => absurd c (by decide)) (fun _ => ?_)
  refine q_aload_n rfl rfl ?_
  refine q_iload_n rfl rfl ?_
  refine q_iload_n rfl rfl ?_
  refine s_bastore (j := 7) rfl o9 (by decide) rfl (fun h10 o10 f10 => ?_)
  have s10 := s9.put f10
  refine s_iinc (y := 8) (lv' := [(2, .int 8), (3, .int 20), (0, .ref 7), (1, .int 0)]) rfl rfl (by decide) (by decide) rfl ?_
  refine q_goto rfl ?_
  refine q_iload_n rfl rfl ?_
  refine q_iload_n rfl rfl ?_
  refine q_icmp_ge rfl (fun c => absurd c (by decide)) (fun _ => ?_)
  refine q_aload_n rfl rfl ?_
  refine q_iload_n rfl rfl ?_
  refine q_iload_n rfl rfl ?_
  refine s_bastore (j := 8) rfl o10 (by decide) rfl (fun h11 o11 f11 => ?_)
  have s11 := s10.put f11
  refine s_iinc (y := 9) (lv' := [(2, .int 9), (3, .int 20), (0, .ref 7), (1, .int 0)]) rfl rfl (by decide) (by decide) rfl ?_
  refine q_goto rfl ?_
  refine q_iload_n rfl rfl ?_
  refine q_iload_n rfl rfl ?_
  refine q_icmp_ge rfl (fun c => absurd c (by decide)) (fun _ => ?_)
  refine q_aload_n rfl rfl ?_
  refine q_iload_n rfl rfl ?_
  refine q_iload_n rfl rfl ?_
  refine s_bastore (j := 9) rfl o11 (by decide) rfl (fun h12 o12 f12 => ?_)
  have s12 := s11.put f12
  refine s_iinc (y := 10) (lv' := [(2, .int 10), (3, .int 20), (0, .ref 7), (1, .int 0)]) rfl rfl (by decide) (by decide) rfl ?_
  refine q_goto rfl ?_
  refine q_iload_n rfl rfl ?_
  refine q_iload_n rfl rfl ?_
  refine q_icmp_ge rfl (fun c => absurd c (by decide)) (fun _ => ?_)
  refine q_aload_n rfl rfl ?_
  refine q_iload_n rfl rfl ?_
  refine q_iload_n rfl rfl ?_
  refine s_bastore (j := 10) rfl o12 (by decide) rfl (fun h13 o13 f13 => ?_)
  have s13 := s12.put f13
  refine s_iinc (y := 11) (lv' := [(2, .int 11), (3, .int 20), (0, .ref 7), (1, .int 0)]) rfl rfl (by decide) (by decide) rfl ?_
  refine q_goto rfl ?_
  refine q_iload_n rfl rfl ?_
  refine q_iload_n rfl rfl ?_
  refine q_icmp_ge rfl (fun c => absurd c (by decide)) (fun _ => ?_)
  refine q_aload_n rfl rfl ?_
  refine q_iload_n rfl rfl ?_
  refine q_iload_n rfl rfl ?_
  refine s_bastore (j := 11) rfl o13 (by decide) rfl (fun h14 o14 f14 => ?_)
  have s14 := s13.put f14
  refine s_iinc (y := 12) (lv' := [(2, .int 12), (3, .int 20), (0, .ref 7), (1, .int 0)]) rfl rfl (by decide) (by decide) rfl ?_
  refine q_goto rfl ?_
  refine q_iload_n rfl rfl ?_
  refine q_iload_n rfl rfl ?_
  refine q_icmp_ge rfl (fun c => absurd c (by decide)) (fun _ => ?_)
  refine q_aload_n rfl rfl ?_
  refine q_iload_n rfl rfl ?_
  refine q_iload_n rfl rfl ?_
  refine s_bastore (j := 12) rfl o14 (by decide) rfl (fun h15 o15 f15 => ?_)
  have s15 := s14.put f15
  refine s_iinc (y := 13) (lv' := [(2, .int 13), (3, .int 20), (0, .ref 7), (1, .int 0)]) rfl rfl (by decide) (by decide) rfl ?_
  refine q_goto rfl ?_
  refine q_iload_n rfl rfl ?_
  refine q_iload_n rfl rfl ?_
  refine q_icmp_ge rfl (fun c => absurd c (by decide)) (fun _ => ?_)
  refine q_aload_n rfl rfl ?_
  refine q_iload_n rfl rfl ?_
  refine q_iload_n rfl rfl ?_
  refine s_bastore (j := 13) rfl o15 (by decide) rfl (fun h16 o16 f16 => ?_)
  have s16 := s15.put f16
  refine s_iinc (y := 14) (lv' := [(2, .int 14), (3, .int 20), (0, .ref 7), (1, .int 0)]) rfl rfl (by decide) (by decide) rfl ?_
  refine q_goto rfl ?_
  refine q_iload_n rfl rfl ?_
  refine q_iload_n rfl rfl ?_
  refine q_icmp_ge rfl (fun c => absurd c (by decide)) (fun _ => ?_)
  refine q_aload_n rfl rfl ?_
  refine q_iload_n rfl rfl ?_
  refine q_iload_n rfl rfl ?_
  refine s_bastore (j := 14) rfl o16 (by decide) rfl (fun h17 o17 f17 => ?_)
  have s17 := s16.put f17
  refine s_iinc (y := 15) (lv' := [(2, .int 15), (3, .int 20), (0, .ref 7), (1, .int 0)]) rfl rfl (by decide) (by decide) rfl ?_
  refine q_goto rfl ?_
  refine q_iload_n rfl rfl ?_
  refine q_iload_n rfl rfl ?_
  refine q_icmp_ge rfl (fun c => absurd c (by decide)) (fun _ => ?_)
  refine q_aload_n rfl rfl ?_
  refine q_iload_n rfl rfl ?_
  refine q_iload_n rfl rfl ?_
  refine s_bastore (j := 15) rfl o17 (by decide) rfl (fun h18 o18 f18 => ?_)
  have s18 := s17.put f18
  refine s_iinc (y := 16) (lv' := [(2, .int 16), (3, .int 20), (0, .ref 7), (1, .int 0)]) rfl rfl (by decide) (by decide) rfl ?_
  refine q_goto rfl ?_
  refine q_iload_n rfl rfl ?_
  refine q_iload_n rfl rfl ?_
  refine q_icmp_ge rfl (fun c => absurd c (by decide)) (fun _ => ?_)
  refine q_aload_n rfl rfl ?_
  refine q_iload_n rfl rfl ?_
  refine q_iload_n rfl rfl ?_
  refine s_bastore (j := 16) rfl o18 (by decide) rfl (fun h19 o19 f19 => ?_)
  have s19 := s18.put f19
  refine s_iinc (y := 17) (lv' := [(2, .int 17), (3, .int 20), (0, .ref 7), (1, .int 0)]) rfl rfl (by decide) (by decide) rfl ?_
  refine q_goto rfl ?_
  refine q_iload_n rfl rfl ?_
  refine q_iload_n rfl rfl ?_
  refine q_icmp_ge rfl (fun c => absurd c (by decide)) (fun _ => ?_)
  refine q_aload_n rfl rfl ?_
  refine q_iload_n rfl rfl ?_
  refine q_iload_n rfl rfl ?_
  refine s_bastore (j := 17) rfl o19 (by decide) rfl (fun h20 o20 f20 => ?_)
  have s20 := s19.put f20
  refine s_iinc (y := 18) (lv' := [(2, .int 18), (3, .int 20), (0, .ref 7), (1, .int 0)]) rfl rfl (by decide) (by decide) rfl ?_
  refine q_goto rfl ?_
  refine q_iload_n rfl rfl ?_
  refine q_iload_n rfl rfl ?_
  refine q_icmp_ge rfl (fun c => absurd c (by decide)) (fun _ => ?_)
  refine q_aload_n rfl rfl ?_
  refine q_iload_n rfl rfl ?_
  refine q_iload_n rfl rfl ?_
  refine s_bastore (j := 18) rfl o20 (by decide) rfl (fun h21 o21 f21 => ?_)
  have s21 := s20.put f21
  refine s_iinc (y := 19) (lv' := [(2, .int 19), (3, .int 20), (0, .ref 7), (1, .int 0)]) rfl rfl (by decide) (by decide) rfl ?_
  refine q_goto rfl ?_
  refine q_iload_n rfl rfl ?_
  refine q_iload_n rfl rfl ?_
  refine q_icmp_ge rfl (fun c => absurd c (by decide)) (fun _ => ?_)
  refine q_aload_n rfl rfl ?_
  refine q_iload_n rfl rfl ?_
  refine q_iload_n rfl rfl ?_
  refine s_bastore (j := 19) rfl o21 (by decide) rfl (fun h22 o22 f22 => ?_)
  have s22 := s21.put f22
  refine s_iinc (y := 20) (lv' := [(2, .int 20), (3, .int 20), (0, .ref 7), (1, .int 0)]) rfl rfl (by decide) (by decide) rfl ?_
  refine q_goto rfl ?_
  refine q_iload_n rfl rfl ?_
  refine q_iload_n rfl rfl ?_
  refine q_icmp_ge rfl (fun _ => ?_) (fun c => absurd (by decide) c)
  refine q_return rfl rfl ?_
  show aW aiP 15 16 637 59 [(0, .ref 6), (1, .int 18)] [] h22 _
  refine q_aload_n rfl rfl ?_
  have e6_22 := ((((((((((((((((((((o2.ne f3 rfl).ne f4 rfl).ne f5 rfl).ne f6 rfl).ne f7 rfl).ne f8 rfl).ne f9 rfl).ne f10 rfl).ne f11 rfl).ne f12 rfl).ne f13 rfl).ne f14 rfl).ne f15 rfl).ne f16 rfl).ne f17 rfl).ne f18 rfl).ne f19 rfl).ne f20 rfl).ne f21 rfl).ne f22 rfl)
  refine s_get (v := .int 18) rfl e6_22 rfl rfl ?_
  refine q_ireturn rfl rfl ?_
  show aW aiP 0 17 658 233 [(4, .int 0), (3, .ref 233), (2, .ref 191), (1, .ref 6), (0, .ref 0)] [.int 18] h22 _
  refine q_aload_n rfl rfl ?_
  refine q_aload_n rfl rfl ?_
  refine q_iload rfl rfl ?_
  refine q_iconst rfl ?_
  refine s_iadd (k := 1) rfl (by decide) ?_
  have e0_22 := (f22.ne rfl (f21.ne rfl (f20.ne rfl (f19.ne rfl (f18.ne rfl (f17.ne rfl (f16.ne rfl (f15.ne rfl (f14.ne rfl (f13.ne rfl (f12.ne rfl (f11.ne rfl (f10.ne rfl (f9.ne rfl (f8.ne rfl (f7.ne rfl (f6.ne rfl (f5.ne rfl (f4.ne rfl (f3.ne rfl (f2.ne rfl (f1.ne rfl e0))))))))))))))))))))))
  refine s_iaload (j := 1) (v := .int (xs 1)) rfl e0_22 (by decide) rfl (by first | rfl | decide) ?_
  rw [hw]
  have e191_22 := ((((((((((((((((((((((e191.ne f1 rfl).ne f2 rfl).ne f3 rfl).ne f4 rfl).ne f5 rfl).ne f6 rfl).ne f7 rfl).ne f8 rfl).ne f9 rfl).ne f10 rfl).ne f11 rfl).ne f12 rfl).ne f13 rfl).ne f14 rfl).ne f15 rfl).ne f16 rfl).ne f17 rfl).ne f18 rfl).ne f19 rfl).ne f20 rfl).ne f21 rfl).ne f22 rfl)
  refine s_callV (as := [.int 18]) (rest := [.int 18]) (d' := 16) (w' := 636) (lv' := [(0, .ref 191), (1, .int 18)]) rfl e191_22 rfl rfl rfl rfl rfl rfl ?_
  refine q_aload_n rfl rfl ?_
  refine q_iconst rfl ?_
  refine s_put (vs' := [.int 0, .ref 192, .ref 193, .int 0, .ref 194, .ref 195, .ref 196, .ref 197, .ref 198, .ref 199, .ref 200, .ref 201, .ref 202, .ref 203, .ref 204, .ref 205, .int (-1), .int 0, .ref 206, .ref 207, .ref 208, .ref 209, .ref 210, .ref 211, .ref 212, .ref 213, .ref 214, .ref 215, .int 0, .int 0, .int 0, .int 0, .ref 216, .ref 217, .ref 218, .ref 219, .ref 220, .int (-1), .int 0, .int 0, .int 0, .int 0, .int 0, .int 0, .ref 221, .ref 222, .ref 223, .ref 224, .int 0, .ref 225, .int 0, .ref 226, .ref 227, .int 0, .ref 228, .ref 229, .ref 230, .ref 231, .ref 232]) rfl e191_22 rfl rfl rfl rfl (fun h23 o23 f23 => ?_)
  have s23 := s22.put f23
  refine q_iload_n rfl rfl ?_
  refine q_if_lt rfl (fun c => absurd c (by decide)) (fun _ => ?_)
  refine q_iload_n rfl rfl ?_
  refine q_bipush rfl ?_
  refine q_icmp_gt rfl (fun c => absurd c (by decide)) (fun _ => ?_)
  refine q_aload_n rfl rfl ?_
  refine s_get (v := .int 0) rfl o23 rfl rfl ?_
  refine q_iload_n rfl rfl ?_
  refine s_iadd (k := 18) rfl (by decide) ?_
  refine q_sipush rfl ?_
  refine q_icmp_le rfl (fun _ => ?_) (fun c => absurd (by decide) c)
  refine q_iconst rfl ?_
  refine s_istore_n (lv' := [(2, .int 0), (0, .ref 191), (1, .int 18)]) rfl (by decide) rfl ?_
  refine q_iload_n rfl rfl ?_
  refine q_iload_n rfl rfl ?_
  refine q_icmp_ge rfl (fun c => absurd c (by decide)) (fun _ => ?_)
  refine q_aload_n rfl rfl ?_
  refine s_get (v := .ref 193) rfl o23 rfl rfl ?_
  refine q_aload_n rfl rfl ?_
  refine s_get (v := .int 0) rfl o23 rfl rfl ?_
  refine q_aload_n rfl rfl ?_
  refine s_get (v := .ref 192) rfl o23 rfl rfl ?_
  refine q_iload_n rfl rfl ?_
  have e192_23 := (f23.ne rfl (f22.ne rfl (f21.ne rfl (f20.ne rfl (f19.ne rfl (f18.ne rfl (f17.ne rfl (f16.ne rfl (f15.ne rfl (f14.ne rfl (f13.ne rfl (f12.ne rfl (f11.ne rfl (f10.ne rfl (f9.ne rfl (f8.ne rfl (f7.ne rfl (f6.ne rfl (f5.ne rfl (f4.ne rfl (f3.ne rfl (f2.ne rfl (f1.ne rfl e192)))))))))))))))))))))))
  refine s_iaload (j := 0) (v := .int 0) rfl e192_23 (by decide) rfl (by first | rfl | decide) ?_
  have e193_23 := (f23.ne rfl (f22.ne rfl (f21.ne rfl (f20.ne rfl (f19.ne rfl (f18.ne rfl (f17.ne rfl (f16.ne rfl (f15.ne rfl (f14.ne rfl (f13.ne rfl (f12.ne rfl (f11.ne rfl (f10.ne rfl (f9.ne rfl (f8.ne rfl (f7.ne rfl (f6.ne rfl (f5.ne rfl (f4.ne rfl (f3.ne rfl (f2.ne rfl (f1.ne rfl e193)))))))))))))))))))))))
  refine s_iastore (j := 0) rfl e193_23 (by decide) rfl (fun h24 o24 f24 => ?_)
  have s24 := s23.put f24
  refine q_aload_n rfl rfl ?_
  refine q_dup rfl rfl ?_
  have e191_24 := (o23.ne f24 rfl)
  refine s_get (v := .int 0) rfl e191_24 rfl rfl ?_
  refine q_iconst rfl ?_
  refine s_iadd (k := 1) rfl (by decide) ?_
  refine s_put (vs' := [.int 0, .ref 192, .ref 193, .int 1, .ref 194, .ref 195, .ref 196, .ref 197, .ref 198, .ref 199, .ref 200, .ref 201, .ref 202, .ref 203, .ref 204, .ref 205, .int (-1), .int 0, .ref 206, .ref 207, .ref 208, .ref 209, .ref 210, .ref 211, .ref 212, .ref 213, .ref 214, .ref 215, .int 0, .int 0, .int 0, .int 0, .ref 216, .ref 217, .ref 218, .ref 219, .ref 220, .int (-1), .int 0, .int 0, .int 0, .int 0, .int 0, .int 0, .ref 221, .ref 222, .ref 223, .ref 224, .int 0, .ref 225, .int 0, .ref 226, .ref 227, .int 0, .ref 228, .ref 229, .ref 230, .ref 231, .ref 232]) rfl e191_24 rfl rfl rfl rfl (fun h25 o25 f25 => ?_)
  have s25 := s24.put f25
  refine s_iinc (y := 1) (lv' := [(2, .int 1), (0, .ref 191), (1, .int 18)]) rfl rfl (by decide) (by decide) rfl ?_
  refine q_goto rfl ?_
  refine q_iload_n rfl rfl ?_
  refine q_iload_n rfl rfl ?_
  refine q_icmp_ge rfl (fun c => absurd c (by decide)) (fun _ => ?_)
  refine q_aload_n rfl rfl ?_
  refine s_get (v := .ref 193) rfl o25 rfl rfl ?_
  refine q_aload_n rfl rfl ?_
  refine s_get (v := .int 1) rfl o25 rfl rfl ?_
  refine q_aload_n rfl rfl ?_
  refine s_get (v := .ref 192) rfl o25 rfl rfl ?_
  refine q_iload_n rfl rfl ?_
  have e192_25 := (f25.ne rfl (f24.ne rfl e192_23))
  refine s_iaload (j := 1) (v := .int 0) rfl e192_25 (by decide) rfl (by first | rfl | decide) ?_
  have e193_25 := (f25.ne rfl o24)
  refine s_iastore (j := 1) rfl e193_25 (by decide) rfl (fun h26 o26 f26 => ?_)
  have s26 := s25.put f26
  refine q_aload_n rfl rfl ?_
  refine q_dup rfl rfl ?_
  have e191_26 := (o25.ne f26 rfl)
  refine s_get (v := .int 1) rfl e191_26 rfl rfl ?_
  refine q_iconst rfl ?_
  refine s_iadd (k := 2) rfl (by decide) ?_
  refine s_put (vs' := [.int 0, .ref 192, .ref 193, .int 2, .ref 194, .ref 195, .ref 196, .ref 197, .ref 198, .ref 199, .ref 200, .ref 201, .ref 202, .ref 203, .ref 204, .ref 205, .int (-1), .int 0, .ref 206, .ref 207, .ref 208, .ref 209, .ref 210, .ref 211, .ref 212, .ref 213, .ref 214, .ref 215, .int 0, .int 0, .int 0, .int 0, .ref 216, .ref 217, .ref 218, .ref 219, .ref 220, .int (-1), .int 0, .int 0, .int 0, .int 0, .int 0, .int 0, .ref 221, .ref 222, .ref 223, .ref 224, .int 0, .ref 225, .int 0, .ref 226, .ref 227, .int 0, .ref 228, .ref 229, .ref 230, .ref 231, .ref 232]) rfl e191_26 rfl rfl rfl rfl (fun h27 o27 f27 => ?_)
  have s27 := s26.put f27
  refine s_iinc (y := 2) (lv' := [(2, .int 2), (0, .ref 191), (1, .int 18)]) rfl rfl (by decide) (by decide) rfl ?_
  refine q_goto rfl ?_
  refine q_iload_n rfl rfl ?_
  refine q_iload_n rfl rfl ?_
  refine q_icmp_ge rfl (fun c => absurd c (by decide)) (fun _ => ?_)
  refine q_aload_n rfl rfl ?_
  refine s_get (v := .ref 193) rfl o27 rfl rfl ?_
  refine q_aload_n rfl rfl ?_
  refine s_get (v := .int 2) rfl o27 rfl rfl ?_
  refine q_aload_n rfl rfl ?_
  refine s_get (v := .ref 192) rfl o27 rfl rfl ?_
  refine q_iload_n rfl rfl ?_
  have e192_27 := (f27.ne rfl (f26.ne rfl e192_25))
  refine s_iaload (j := 2) (v := .int 0) rfl e192_27 (by decide) rfl (by first | rfl | decide) ?_
  have e193_27 := (f27.ne rfl o26)
  refine s_iastore (j := 2) rfl e193_27 (by decide) rfl (fun h28 o28 f28 => ?_)
  have s28 := s27.put f28
  refine q_aload_n rfl rfl ?_
  refine q_dup rfl rfl ?_
  have e191_28 := (o27.ne f28 rfl)
  refine s_get (v := .int 2) rfl e191_28 rfl rfl ?_
  refine q_iconst rfl ?_
  refine s_iadd (k := 3) rfl (by decide) ?_
  refine s_put (vs' := [.int 0, .ref 192, .ref 193, .int 3, .ref 194, .ref 195, .ref 196, .ref 197, .ref 198, .ref 199, .ref 200, .ref 201, .ref 202, .ref 203, .ref 204, .ref 205, .int (-1), .int 0, .ref 206, .ref 207, .ref 208, .ref 209, .ref 210, .ref 211, .ref 212, .ref 213, .ref 214, .ref 215, .int 0, .int 0, .int 0, .int 0, .ref 216, .ref 217, .ref 218, .ref 219, .ref 220, .int (-1), .int 0, .int 0, .int 0, .int 0, .int 0, .int 0, .ref 221, .ref 222, .ref 223, .ref 224, .int 0, .ref 225, .int 0, .ref 226, .ref 227, .int 0, .ref 228, .ref 229, .ref 230, .ref 231, .ref 232]) rfl e191_28 rfl rfl rfl rfl (fun h29 o29 f29 => ?_)
  have s29 := s28.put f29
  refine s_iinc (y := 3) (lv' := [(2, .int 3), (0, .ref 191), (1, .int 18)]) rfl rfl (by decide) (by decide) rfl ?_
  refine q_goto rfl ?_
  refine q_iload_n rfl rfl ?_
  refine q_iload_n rfl rfl ?_
  refine q_icmp_ge rfl (fun c => absurd c (by decide)) (fun _ => ?_)
  refine q_aload_n rfl rfl ?_
  refine s_get (v := .ref 193) rfl o29 rfl rfl ?_
  refine q_aload_n rfl rfl ?_
  refine s_get (v := .int 3) rfl o29 rfl rfl ?_
  refine q_aload_n rfl rfl ?_
  refine s_get (v := .ref 192) rfl o29 rfl rfl ?_
  refine q_iload_n rfl rfl ?_
  have e192_29 := (f29.ne rfl (f28.ne rfl e192_27))
  refine s_iaload (j := 3) (v := .int 0) rfl e192_29 (by decide) rfl (by first | rfl | decide) ?_
  have e193_29 := (f29.ne rfl o28)
  refine s_iastore (j := 3) rfl e193_29 (by decide) rfl (fun h30 o30 f30 => ?_)
  have s30 := s29.put f30
  refine q_aload_n rfl rfl ?_
  refine q_dup rfl rfl ?_
  have e191_30 := (o29.ne f30 rfl)
  refine s_get (v := .int 3) rfl e191_30 rfl rfl ?_
  refine q_iconst rfl ?_
  refine s_iadd (k := 4) rfl (by decide) ?_
  refine s_put (vs' := [.int 0, .ref 192, .ref 193, .int 4, .ref 194, .ref 195, .ref 196, .ref 197, .ref 198, .ref 199, .ref 200, .ref 201, .ref 202, .ref 203, .ref 204, .ref 205, .int (-1), .int 0, .ref 206, .ref 207, .ref 208, .ref 209, .ref 210, .ref 211, .ref 212, .ref 213, .ref 214, .ref 215, .int 0, .int 0, .int 0, .int 0, .ref 216, .ref 217, .ref 218, .ref 219, .ref 220, .int (-1), .int 0, .int 0, .int 0, .int 0, .int 0, .int 0, .ref 221, .ref 222, .ref 223, .ref 224, .int 0, .ref 225, .int 0, .ref 226, .ref 227, .int 0, .ref 228, .ref 229, .ref 230, .ref 231, .ref 232]) rfl e191_30 rfl rfl rfl rfl (fun h31 o31 f31 => ?_)
  have s31 := s30.put f31
  refine s_iinc (y := 4) (lv' := [(2, .int 4), (0, .ref 191), (1, .int 18)]) rfl rfl (by decide) (by decide) rfl ?_
  refine q_goto rfl ?_
  refine q_iload_n rfl rfl ?_
  refine q_iload_n rfl rfl ?_
  refine q_icmp_ge rfl (fun c => absurd c (by decide)) (fun _ => ?_)
  refine q_aload_n rfl rfl ?_
  refine s_get (v := .ref 193) rfl o31 rfl rfl ?_
  refine q_aload_n rfl rfl ?_
  refine s_get (v := .int 4) rfl o31 rfl rfl ?_
  refine q_aload_n rfl rfl ?_
  refine s_get (v := .ref 192) rfl o31 rfl rfl ?_
  refine q_iload_n rfl rfl ?_
  have e192_31 := (f31.ne rfl (f30.ne rfl e192_29))
  refine s_iaload (j := 4) (v := .int 0) rfl e192_31 (by decide) rfl (by first | rfl | decide) ?_
  have e193_31 := (f31.ne rfl o30)
  refine s_iastore (j := 4) rfl e193_31 (by decide) rfl (fun h32 o32 f32 => ?_)
  have s32 := s31.put f32
  refine q_aload_n rfl rfl ?_
  refine q_dup rfl rfl ?_
  have e191_32 := (o31.ne f32 rfl)
  refine s_get (v := .int 4) rfl e191_32 rfl rfl ?_
  refine q_iconst rfl ?_
  refine s_iadd (k := 5) rfl (by decide) ?_
  refine s_put (vs' := [.int 0, .ref 192, .ref 193, .int 5, .ref 194, .ref 195, .ref 196, .ref 197, .ref 198, .ref 199, .ref 200, .ref 201, .ref 202, .ref 203, .ref 204, .ref 205, .int (-1), .int 0, .ref 206, .ref 207, .ref 208, .ref 209, .ref 210, .ref 211, .ref 212, .ref 213, .ref 214, .ref 215, .int 0, .int 0, .int 0, .int 0, .ref 216, .ref 217, .ref 218, .ref 219, .ref 220, .int (-1), .int 0, .int 0, .int 0, .int 0, .int 0, .int 0, .ref 221, .ref 222, .ref 223, .ref 224, .int 0, .ref 225, .int 0, .ref 226, .ref 227, .int 0, .ref 228, .ref 229, .ref 230, .ref 231, .ref 232]) rfl e191_32 rfl rfl rfl rfl (fun h33 o33 f33 => ?_)
  have s33 := s32.put f33
  refine s_iinc (y := 5) (lv' := [(2, .int 5), (0, .ref 191), (1, .int 18)]) rfl rfl (by decide) (by decide) rfl ?_
  refine q_goto rfl ?_
  refine q_iload_n rfl rfl ?_
  refine q_iload_n rfl rfl ?_
  refine q_icmp_ge rfl (fun c => absurd c (by decide)) (fun _ => ?_)
  refine q_aload_n rfl rfl ?_
  refine s_get (v := .ref 193) rfl o33 rfl rfl ?_
  refine q_aload_n rfl rfl ?_
  refine s_get (v := .int 5) rfl o33 rfl rfl ?_
  refine q_aload_n rfl rfl ?_
  refine s_get (v := .ref 192) rfl o33 rfl rfl ?_
  refine q_iload_n rfl rfl ?_
  have e192_33 := (f33.ne rfl (f32.ne rfl e192_31))
  refine s_iaload (j := 5) (v := .int 0) rfl e192_33 (by decide) rfl (by first | rfl | decide) ?_
  have e193_33 := (f33.ne rfl o32)
  refine s_iastore (j := 5) rfl e193_33 (by decide) rfl (fun h34 o34 f34 => ?_)
  have s34 := s33.put f34
  refine q_aload_n rfl rfl ?_
  refine q_dup rfl rfl ?_
  have e191_34 := (o33.ne f34 rfl)
  refine s_get (v := .int 5) rfl e191_34 rfl rfl ?_
  refine q_iconst rfl ?_
  refine s_iadd (k := 6) rfl (by decide) ?_
  refine s_put (vs' := [.int 0, .ref 192, .ref 193, .int 6, .ref 194, .ref 195, .ref 196, .ref 197, .ref 198, .ref 199, .ref 200, .ref 201, .ref 202, .ref 203, .ref 204, .ref 205, .int (-1), .int 0, .ref 206, .ref 207, .ref 208, .ref 209, .ref 210, .ref 211, .ref 212, .ref 213, .ref 214, .ref 215, .int 0, .int 0, .int 0, .int 0, .ref 216, .ref 217, .ref 218, .ref 219, .ref 220, .int (-1), .int 0, .int 0, .int 0, .int 0, .int 0, .int 0, .ref 221, .ref 222, .ref 223, .ref 224, .int 0, .ref 225, .int 0, .ref 226, .ref 227, .int 0, .ref 228, .ref 229, .ref 230, .ref 231, .ref 232]) rfl e191_34 rfl rfl rfl rfl (fun h35 o35 f35 => ?_)
  have s35 := s34.put f35
  refine s_iinc (y := 6) (lv' := [(2, .int 6), (0, .ref 191), (1, .int 18)]) rfl rfl (by decide) (by decide) rfl ?_
  refine q_goto rfl ?_
  refine q_iload_n rfl rfl ?_
  refine q_iload_n rfl rfl ?_
  refine q_icmp_ge rfl (fun c => absurd c (by decide)) (fun _ => ?_)
  refine q_aload_n rfl rfl ?_
  refine s_get (v := .ref 193) rfl o35 rfl rfl ?_
  refine q_aload_n rfl rfl ?_
  refine s_get (v := .int 6) rfl o35 rfl rfl ?_
  refine q_aload_n rfl rfl ?_
  refine s_get (v := .ref 192) rfl o35 rfl rfl ?_
  refine q_iload_n rfl rfl ?_
  have e192_35 := (f35.ne rfl (f34.ne rfl e192_33))
  refine s_iaload (j := 6) (v := .int 0) rfl e192_35 (by decide) rfl (by first | rfl | decide) ?_
  have e193_35 := (f35.ne rfl o34)
  refine s_iastore (j := 6) rfl e193_35 (by decide) rfl (fun h36 o36 f36 => ?_)
  have s36 := s35.put f36
  refine q_aload_n rfl rfl ?_
  refine q_dup rfl rfl ?_
  have e191_36 := (o35.ne f36 rfl)
  refine s_get (v := .int 6) rfl e191_36 rfl rfl ?_
  refine q_iconst rfl ?_
  refine s_iadd (k := 7) rfl (by decide) ?_
  refine s_put (vs' := [.int 0, .ref 192, .ref 193, .int 7, .ref 194, .ref 195, .ref 196, .ref 197, .ref 198, .ref 199, .ref 200, .ref 201, .ref 202, .ref 203, .ref 204, .ref 205, .int (-1), .int 0, .ref 206, .ref 207, .ref 208, .ref 209, .ref 210, .ref 211, .ref 212, .ref 213, .ref 214, .ref 215, .int 0, .int 0, .int 0, .int 0, .ref 216, .ref 217, .ref 218, .ref 219, .ref 220, .int (-1), .int 0, .int 0, .int 0, .int 0, .int 0, .int 0, .ref 221, .ref 222, .ref 223, .ref 224, .int 0, .ref 225, .int 0, .ref 226, .ref 227, .int 0, .ref 228, .ref 229, .ref 230, .ref 231, .ref 232]) rfl e191_36 rfl rfl rfl rfl (fun h37 o37 f37 => ?_)
  have s37 := s36.put f37
  refine s_iinc (y := 7) (lv' := [(2, .int 7), (0, .ref 191), (1, .int 18)]) rfl rfl (by decide) (by decide) rfl ?_
  refine q_goto rfl ?_
  refine q_iload_n rfl rfl ?_
  refine q_iload_n rfl rfl ?_
  refine q_icmp_ge rfl (fun c => absurd c (by decide)) (fun _ => ?_)
  refine q_aload_n rfl rfl ?_
  refine s_get (v := .ref 193) rfl o37 rfl rfl ?_
  refine q_aload_n rfl rfl ?_
  refine s_get (v := .int 7) rfl o37 rfl rfl ?_
  refine q_aload_n rfl rfl ?_
  refine s_get (v := .ref 192) rfl o37 rfl rfl ?_
  refine q_iload_n rfl rfl ?_
  have e192_37 := (f37.ne rfl (f36.ne rfl e192_35))
  refine s_iaload (j := 7) (v := .int 0) rfl e192_37 (by decide) rfl (by first | rfl | decide) ?_
  have e193_37 := (f37.ne rfl o36)
  refine s_iastore (j := 7) rfl e193_37 (by decide) rfl (fun h38 o38 f38 => ?_)
  have s38 := s37.put f38
  refine q_aload_n rfl rfl ?_
  refine q_dup rfl rfl ?_
  have e191_38 := (o37.ne f38 rfl)
  refine s_get (v := .int 7) rfl e191_38 rfl rfl ?_
  refine q_iconst rfl ?_
  refine s_iadd (k := 8) rfl (by decide) ?_
  refine s_put (vs' := [.int 0, .ref 192, .ref 193, .int 8, .ref 194, .ref 195, .ref 196, .ref 197, .ref 198, .ref 199, .ref 200, .ref 201, .ref 202, .ref 203, .ref 204, .ref 205, .int (-1), .int 0, .ref 206, .ref 207, .ref 208, .ref 209, .ref 210, .ref 211, .ref 212, .ref 213, .ref 214, .ref 215, .int 0, .int 0, .int 0, .int 0, .ref 216, .ref 217, .ref 218, .ref 219, .ref 220, .int (-1), .int 0, .int 0, .int 0, .int 0, .int 0, .int 0, .ref 221, .ref 222, .ref 223, .ref 224, .int 0, .ref 225, .int 0, .ref 226, .ref 227, .int 0, .ref 228, .ref 229, .ref 230, .ref 231, .ref 232]) rfl e191_38 rfl rfl rfl rfl (fun h39 o39 f39 => ?_)
  have s39 := s38.put f39
  refine s_iinc (y := 8) (lv' := [(2, .int 8), (0, .ref 191), (1, .int 18)]) rfl rfl (by decide) (by decide) rfl ?_
  refine q_goto rfl ?_
  refine q_iload_n rfl rfl ?_
  refine q_iload_n rfl rfl ?_
  refine q_icmp_ge rfl (fun c => absurd c (by decide)) (fun _ => ?_)
  refine q_aload_n rfl rfl ?_
  refine s_get (v := .ref 193) rfl o39 rfl rfl ?_
  refine q_aload_n rfl rfl ?_
  refine s_get (v := .int 8) rfl o39 rfl rfl ?_
  refine q_aload_n rfl rfl ?_
  refine s_get (v := .ref 192) rfl o39 rfl rfl ?_
  refine q_iload_n rfl rfl ?_
  have e192_39 := (f39.ne rfl (f38.ne rfl e192_37))
  refine s_iaload (j := 8) (v := .int 0) rfl e192_39 (by decide) rfl (by first | rfl | decide) ?_
  have e193_39 := (f39.ne rfl o38)
  refine s_iastore (j := 8) rfl e193_39 (by decide) rfl (fun h40 o40 f40 => ?_)
  have s40 := s39.put f40
  refine q_aload_n rfl rfl ?_
  refine q_dup rfl rfl ?_
  have e191_40 := (o39.ne f40 rfl)
  refine s_get (v := .int 8) rfl e191_40 rfl rfl ?_
  refine q_iconst rfl ?_
  refine s_iadd (k := 9) rfl (by decide) ?_
  refine s_put (vs' := [.int 0, .ref 192, .ref 193, .int 9, .ref 194, .ref 195, .ref 196, .ref 197, .ref 198, .ref 199, .ref 200, .ref 201, .ref 202, .ref 203, .ref 204, .ref 205, .int (-1), .int 0, .ref 206, .ref 207, .ref 208, .ref 209, .ref 210, .ref 211, .ref 212, .ref 213, .ref 214, .ref 215, .int 0, .int 0, .int 0, .int 0, .ref 216, .ref 217, .ref 218, .ref 219, .ref 220, .int (-1), .int 0, .int 0, .int 0, .int 0, .int 0, .int 0, .ref 221, .ref 222, .ref 223, .ref 224, .int 0, .ref 225, .int 0, .ref 226, .ref 227, .int 0, .ref 228, .ref 229, .ref 230, .ref 231, .ref 232]) rfl e191_40 rfl rfl rfl rfl (fun h41 o41 f41 => ?_)
  have s41 := s40.put f41
  refine s_iinc (y := 9) (lv' := [(2, .int 9), (0, .ref 191), (1, .int 18)]) rfl rfl (by decide) (by decide) rfl ?_
  refine q_goto rfl ?_
  refine q_iload_n rfl rfl ?_
  refine q_iload_n rfl rfl ?_
  refine q_icmp_ge rfl (fun c => absurd c (by decide)) (fun _ => ?_)
  refine q_aload_n rfl rfl ?_
  refine s_get (v := .ref 193) rfl o41 rfl rfl ?_
  refine q_aload_n rfl rfl ?_
  refine s_get (v := .int 9) rfl o41 rfl rfl ?_
  refine q_aload_n rfl rfl ?_
  refine s_get (v := .ref 192) rfl o41 rfl rfl ?_
  refine q_iload_n rfl rfl ?_
  have e192_41 := (f41.ne rfl (f40.ne rfl e192_39))
  refine s_iaload (j := 9) (v := .int 0) rfl e192_41 (by decide) rfl (by first | rfl | decide) ?_
  have e193_41 := (f41.ne rfl o40)
  refine s_iastore (j := 9) rfl e193_41 (by decide) rfl (fun h42 o42 f42 => ?_)
  have s42 := s41.put f42
  refine q_aload_n rfl rfl ?_
  refine q_dup rfl rfl ?_
  have e191_42 := (o41.ne f42 rfl)
  refine s_get (v := .int 9) rfl e191_42 rfl rfl ?_
  refine q_iconst rfl ?_
  refine s_iadd (k := 10) rfl (by decide) ?_
  refine s_put (vs' := [.int 0, .ref 192, .ref 193, .int 10, .ref 194, .ref 195, .ref 196, .ref 197, .ref 198, .ref 199, .ref 200, .ref 201, .ref 202, .ref 203, .ref 204, .ref 205, .int (-1), .int 0, .ref 206, .ref 207, .ref 208, .ref 209, .ref 210, .ref 211, .ref 212, .ref 213, .ref 214, .ref 215, .int 0, .int 0, .int 0, .int 0, .ref 216, .ref 217, .ref 218, .ref 219, .ref 220, .int (-1), .int 0, .int 0, .int 0, .int 0, .int 0, .int 0, .ref 221, .ref 222, .ref 223, .ref 224, .int 0, .ref 225, .int 0, .ref 226, .ref 227, .int 0, .ref 228, .ref 229, .ref 230, .ref 231, .ref 232]) rfl e191_42 rfl rfl rfl rfl (fun h43 o43 f43 => ?_)
  have s43 := s42.put f43
  refine s_iinc (y := 10) (lv' := [(2, .int 10), (0, .ref 191), (1, .int 18)]) rfl rfl (by decide) (by decide) rfl ?_
  refine q_goto rfl ?_
  refine q_iload_n rfl rfl ?_
  refine q_iload_n rfl rfl ?_
  refine q_icmp_ge rfl (fun c => absurd c (by decide)) (fun _ => ?_)
  refine q_aload_n rfl rfl ?_
  refine s_get (v := .ref 193) rfl o43 rfl rfl ?_
  refine q_aload_n rfl rfl ?_
  refine s_get (v := .int 10) rfl o43 rfl rfl ?_
  refine q_aload_n rfl rfl ?_
  refine s_get (v := .ref 192) rfl o43 rfl rfl ?_
  refine q_iload_n rfl rfl ?_
  have e192_43 := (f43.ne rfl (f42.ne rfl e192_41))
  refine s_iaload (j := 10) (v := .int 0) rfl e192_43 (by decide) rfl (by first | rfl | decide) ?_
  have e193_43 := (f43.ne rfl o42)
  refine s_iastore (j := 10) rfl e193_43 (by decide) rfl (fun h44 o44 f44 => ?_)
  have s44 := s43.put f44
  refine q_aload_n rfl rfl ?_
  refine q_dup rfl rfl ?_
  have e191_44 := (o43.ne f44 rfl)
  refine s_get (v := .int 10) rfl e191_44 rfl rfl ?_
  refine q_iconst rfl ?_
  refine s_iadd (k := 11) rfl (by decide) ?_
  refine s_put (vs' := [.int 0, .ref 192, .ref 193, .int 11, .ref 194, .ref 195, .ref 196, .ref 197, .ref 198, .ref 199, .ref 200, .ref 201, .ref 202, .ref 203, .ref 204, .ref 205, .int (-1), .int 0, .ref 206, .ref 207, .ref 208, .ref 209, .ref 210, .ref 211, .ref 212, .ref 213, .ref 214, .ref 215, .int 0, .int 0, .int 0, .int 0, .ref 216, .ref 217, .ref 218, .ref 219, .ref 220, .int (-1), .int 0, .int 0, .int 0, .int 0, .int 0, .int 0, .ref 221, .ref 222, .ref 223, .ref 224, .int 0, .ref 225, .int 0, .ref 226, .ref 227, .int 0, .ref 228, .ref 229, .ref 230, .ref 231, .ref 232]) rfl e191_44 rfl rfl rfl rfl (fun h45 o45 f45 => ?_)
  have s45 := s44.put f45
  refine s_iinc (y := 11) (lv' := [(2, .int 11), (0, .ref 191), (1, .int 18)]) rfl rfl (by decide) (by decide) rfl ?_
  refine q_goto rfl ?_
  refine q_iload_n rfl rfl ?_
  refine q_iload_n rfl rfl ?_
  refine q_icmp_ge rfl (fun c => absurd c (by decide)) (fun _ => ?_)
  refine q_aload_n rfl rfl ?_
  refine s_get (v := .ref 193) rfl o45 rfl rfl ?_
  refine q_aload_n rfl rfl ?_
  refine s_get (v := .int 11) rfl o45 rfl rfl ?_
  refine q_aload_n rfl rfl ?_
  refine s_get (v := .ref 192) rfl o45 rfl rfl ?_
  refine q_iload_n rfl rfl ?_
  have e192_45 := (f45.ne rfl (f44.ne rfl e192_43))
  refine s_iaload (j := 11) (v := .int 0) rfl e192_45 (by decide) rfl (by first | rfl | decide) ?_
  have e193_45 := (f45.ne rfl o44)
  refine s_iastore (j := 11) rfl e193_45 (by decide) rfl (fun h46 o46 f46 => ?_)
  have s46 := s45.put f46
  refine q_aload_n rfl rfl ?_
  refine q_dup rfl rfl ?_
  have e191_46 := (o45.ne f46 rfl)
  refine s_get (v := .int 11) rfl e191_46 rfl rfl ?_
  refine q_iconst rfl ?_
  refine s_iadd (k := 12) rfl (by decide) ?_
  refine s_put (vs' := [.int 0, .ref 192, .ref 193, .int 12, .ref 194, .ref 195, .ref 196, .ref 197, .ref 198, .ref 199, .ref 200, .ref 201, .ref 202, .ref 203, .ref 204, .ref 205, .int (-1), .int 0, .ref 206, .ref 207, .ref 208, .ref 209, .ref 210, .ref 211, .ref 212, .ref 213, .ref 214, .ref 215, .int 0, .int 0, .int 0, .int 0, .ref 216, .ref 217, .ref 218, .ref 219, .ref 220, .int (-1), .int 0, .int 0, .int 0, .int 0, .int 0, .int 0, .ref 221, .ref 222, .ref 223, .ref 224, .int 0, .ref 225, .int 0, .ref 226, .ref 227, .int 0, .ref 228, .ref 229, .ref 230, .ref 231, .ref 232]) rfl e191_46 rfl rfl rfl rfl (fun h47 o47 f47 => ?_)
  have s47 := s46.put f47
  refine s_iinc (y := 12) (lv' := [(2, .int 12), (0, .ref 191), (1, .int 18)]) rfl rfl (by decide) (by decide) rfl ?_
  refine q_goto rfl ?_
  refine q_iload_n rfl rfl ?_
  refine q_iload_n rfl rfl ?_
  refine q_icmp_ge rfl (fun c => absurd c (by decide)) (fun _ => ?_)
  refine q_aload_n rfl rfl ?_
  refine s_get (v := .ref 193) rfl o47 rfl rfl ?_
  refine q_aload_n rfl rfl ?_
  refine s_get (v := .int 12) rfl o47 rfl rfl ?_
  refine q_aload_n rfl rfl ?_
  refine s_get (v := .ref 192) rfl o47 rfl rfl ?_
  refine q_iload_n rfl rfl ?_
  have e192_47 := (f47.ne rfl (f46.ne rfl e192_45))
  refine s_iaload (j := 12) (v := .int 0) rfl e192_47 (by decide) rfl (by first | rfl | decide) ?_
  have e193_47 := (f47.ne rfl o46)
  refine s_iastore (j := 12) rfl e193_47 (by decide) rfl (fun h48 o48 f48 => ?_)
  have s48 := s47.put f48
  refine q_aload_n rfl rfl ?_
  refine q_dup rfl rfl ?_
  have e191_48 := (o47.ne f48 rfl)
  refine s_get (v := .int 12) rfl e191_48 rfl rfl ?_
  refine q_iconst rfl ?_
  refine s_iadd (k := 13) rfl (by decide) ?_
  refine s_put (vs' := [.int 0, .ref 192, .ref 193, .int 13, .ref 194, .ref 195, .ref 196, .ref 197, .ref 198, .ref 199, .ref 200, .ref 201, .ref 202, .ref 203, .ref 204, .ref 205, .int (-1), .int 0, .ref 206, .ref 207, .ref 208, .ref 209, .ref 210, .ref 211, .ref 212, .ref 213, .ref 214, .ref 215, .int 0, .int 0, .int 0, .int 0, .ref 216, .ref 217, .ref 218, .ref 219, .ref 220, .int (-1), .int 0, .int 0, .int 0, .int 0, .int 0, .int 0, .ref 221, .ref 222, .ref 223, .ref 224, .int 0, .ref 225, .int 0, .ref 226, .ref 227, .int 0, .ref 228, .ref 229, .ref 230, .ref 231, .ref 232]) rfl e191_48 rfl rfl rfl rfl (fun h49 o49 f49 => ?_)
  have s49 := s48.put f49
  refine s_iinc (y := 13) (lv' := [(2, .int 13), (0, .ref 191), (1, .int 18)]) rfl rfl (by decide) (by decide) rfl ?_
  refine q_goto rfl ?_
  refine q_iload_n rfl rfl ?_
  refine q_iload_n rfl rfl ?_
  refine q_icmp_ge rfl (fun c => absurd c (by decide)) (fun _ => ?_)
  refine q_aload_n rfl rfl ?_
  refine s_get (v := .ref 193) rfl o49 rfl rfl ?_
  refine q_aload_n rfl rfl ?_
  refine s_get (v := .int 13) rfl o49 rfl rfl ?_
  refine q_aload_n rfl rfl ?_
  refine s_get (v := .ref 192) rfl o49 rfl rfl ?_
  refine q_iload_n rfl rfl ?_
  have e192_49 := (f49.ne rfl (f48.ne rfl e192_47))
  refine s_iaload (j := 13) (v := .int 0) rfl e192_49 (by decide) rfl (by first | rfl | decide) ?_
  have e193_49 := (f49.ne rfl o48)
  refine s_iastore (j := 13) rfl e193_49 (by decide) rfl (fun h50 o50 f50 => ?_)
  have s50 := s49.put f50
  refine q_aload_n rfl rfl ?_
  refine q_dup rfl rfl ?_
  have e191_50 := (o49.ne f50 rfl)
  refine s_get (v := .int 13) rfl e191_50 rfl rfl ?_
  refine q_iconst rfl ?_
  refine s_iadd (k := 14) rfl (by decide) ?_
  refine s_put (vs' := [.int 0, .ref 192, .ref 193, .int 14, .ref 194, .ref 195, .ref 196, .ref 197, .ref 198, .ref 199, .ref 200, .ref 201, .ref 202, .ref 203, .ref 204, .ref 205, .int (-1), .int 0, .ref 206, .ref 207, .ref 208, .ref 209, .ref 210, .ref 211, .ref 212, .ref 213, .ref 214, .ref 215, .int 0, .int 0, .int 0, .int 0, .ref 216, .ref 217, .ref 218, .ref 219, .ref 220, .int (-1), .int 0, .int 0, .int 0, .int 0, .int 0, .int 0, .ref 221, .ref 222, .ref 223, .ref 224, .int 0, .ref 225, .int 0, .ref 226, .ref 227, .int 0, .ref 228, .ref 229, .ref 230, .ref 231, .ref 232]) rfl e191_50 rfl rfl rfl rfl (fun h51 o51 f51 => ?_)
  have s51 := s50.put f51
  refine s_iinc (y := 14) (lv' := [(2, .int 14), (0, .ref 191), (1, .int 18)]) rfl rfl (by decide) (by decide) rfl ?_
  refine q_goto rfl ?_
  refine q_iload_n rfl rfl ?_
  refine q_iload_n rfl rfl ?_
  refine q_icmp_ge rfl (fun c => absurd c (by decide)) (fun _ => ?_)
  refine q_aload_n rfl rfl ?_
  refine s_get (v := .ref 193) rfl o51 rfl rfl ?_
  refine q_aload_n rfl rfl ?_
  refine s_get (v := .int 14) rfl o51 rfl rfl ?_
  refine q_aload_n rfl rfl ?_
  refine s_get (v := .ref 192) rfl o51 rfl rfl ?_
  refine q_iload_n rfl rfl ?_
  have e192_51 := (f51.ne rfl (f50.ne rfl e192_49))
  refine s_iaload (j := 14) (v := .int 0) rfl e192_51 (by decide) rfl (by first | rfl | decide) ?_
  have e193_51 := (f51.ne rfl o50)
  refine s_iastore (j := 14) rfl e193_51 (by decide) rfl (fun h52 o52 f52 => ?_)
  have s52 := s51.put f52
  refine q_aload_n rfl rfl ?_
  refine q_dup rfl rfl ?_
  have e191_52 := (o51.ne f52 rfl)
  refine s_get (v := .int 14) rfl e191_52 rfl rfl ?_
  refine q_iconst rfl ?_
  refine s_iadd (k := 15) rfl (by decide) ?_
  refine s_put (vs' := [.int 0, .ref 192, .ref 193, .int 15, .ref 194, .ref 195, .ref 196, .ref 197, .ref 198, .ref 199, .ref 200, .ref 201, .ref 202, .ref 203, .ref 204, .ref 205, .int (-1), .int 0, .ref 206, .ref 207, .ref 208, .ref 209, .ref 210, .ref 211, .ref 212, .ref 213, .ref 214, .ref 215, .int 0, .int 0, .int 0, .int 0, .ref 216, .ref 217, .ref 218, .ref 219, .ref 220, .int (-1), .int 0, .int 0, .int 0, .int 0, .int 0, .int 0, .ref 221, .ref 222, .ref 223, .ref 224, .int 0, .ref 225, .int 0, .ref 226, .ref 227, .int 0, .ref 228, .ref 229, .ref 230, .ref 231, .ref 232]) rfl e191_52 rfl rfl rfl rfl (fun h53 o53 f53 => ?_)
  have s53 := s52.put f53
  refine s_iinc (y := 15) (lv' := [(2, .int 15), (0, .ref 191), (1, .int 18)]) rfl rfl (by decide) (by decide) rfl ?_
  refine q_goto rfl ?_
  refine q_iload_n rfl rfl ?_
  refine q_iload_n rfl rfl ?_
  refine q_icmp_ge rfl (fun c => absurd c (by decide)) (fun _ => ?_)
  refine q_aload_n rfl rfl ?_
  refine s_get (v := .ref 193) rfl o53 rfl rfl ?_
  refine q_aload_n rfl rfl ?_
  refine s_get (v := .int 15) rfl o53 rfl rfl ?_
  refine q_aload_n rfl rfl ?_
  refine s_get (v := .ref 192) rfl o53 rfl rfl ?_
  refine q_iload_n rfl rfl ?_
  have e192_53 := (f53.ne rfl (f52.ne rfl e192_51))
  refine s_iaload (j := 15) (v := .int 0) rfl e192_53 (by decide) rfl (by first | rfl | decide) ?_
  have e193_53 := (f53.ne rfl o52)
  refine s_iastore (j := 15) rfl e193_53 (by decide) rfl (fun h54 o54 f54 => ?_)
  have s54 := s53.put f54
  refine q_aload_n rfl rfl ?_
  refine q_dup rfl rfl ?_
  have e191_54 := (o53.ne f54 rfl)
  refine s_get (v := .int 15) rfl e191_54 rfl rfl ?_
  refine q_iconst rfl ?_
  refine s_iadd (k := 16) rfl (by decide) ?_
  refine s_put (vs' := [.int 0, .ref 192, .ref 193, .int 16, .ref 194, .ref 195, .ref 196, .ref 197, .ref 198, .ref 199, .ref 200, .ref 201, .ref 202, .ref 203, .ref 204, .ref 205, .int (-1), .int 0, .ref 206, .ref 207, .ref 208, .ref 209, .ref 210, .ref 211, .ref 212, .ref 213, .ref 214, .ref 215, .int 0, .int 0, .int 0, .int 0, .ref 216, .ref 217, .ref 218, .ref 219, .ref 220, .int (-1), .int 0, .int 0, .int 0, .int 0, .int 0, .int 0, .ref 221, .ref 222, .ref 223, .ref 224, .int 0, .ref 225, .int 0, .ref 226, .ref 227, .int 0, .ref 228, .ref 229, .ref 230, .ref 231, .ref 232]) rfl e191_54 rfl rfl rfl rfl (fun h55 o55 f55 => ?_)
  have s55 := s54.put f55
  refine s_iinc (y := 16) (lv' := [(2, .int 16), (0, .ref 191), (1, .int 18)]) rfl rfl (by decide) (by decide) rfl ?_
  refine q_goto rfl ?_
  refine q_iload_n rfl rfl ?_
  refine q_iload_n rfl rfl ?_
  refine q_icmp_ge rfl (fun c => absurd c (by decide)) (fun _ => ?_)
  refine q_aload_n rfl rfl ?_
  refine s_get (v := .ref 193) rfl o55 rfl rfl ?_
  refine q_aload_n rfl rfl ?_
  refine s_get (v := .int 16) rfl o55 rfl rfl ?_
  refine q_aload_n rfl rfl ?_
  refine s_get (v := .ref 192) rfl o55 rfl rfl ?_
  refine q_iload_n rfl rfl ?_
  have e192_55 := (f55.ne rfl (f54.ne rfl e192_53))
  refine s_iaload (j := 16) (v := .int 0) rfl e192_55 (by decide) rfl (by first | rfl | decide) ?_
  have e193_55 := (f55.ne rfl o54)
  refine s_iastore (j := 16) rfl e193_55 (by decide) rfl (fun h56 o56 f56 => ?_)
  have s56 := s55.put f56
  refine q_aload_n rfl rfl ?_
  refine q_dup rfl rfl ?_
  have e191_56 := (o55.ne f56 rfl)
  refine s_get (v := .int 16) rfl e191_56 rfl rfl ?_
  refine q_iconst rfl ?_
  refine s_iadd (k := 17) rfl (by decide) ?_
  refine s_put (vs' := [.int 0, .ref 192, .ref 193, .int 17, .ref 194, .ref 195, .ref 196, .ref 197, .ref 198, .ref 199, .ref 200, .ref 201, .ref 202, .ref 203, .ref 204, .ref 205, .int (-1), .int 0, .ref 206, .ref 207, .ref 208, .ref 209, .ref 210, .ref 211, .ref 212, .ref 213, .ref 214, .ref 215, .int 0, .int 0, .int 0, .int 0, .ref 216, .ref 217, .ref 218, .ref 219, .ref 220, .int (-1), .int 0, .int 0, .int 0, .int 0, .int 0, .int 0, .ref 221, .ref 222, .ref 223, .ref 224, .int 0, .ref 225, .int 0, .ref 226, .ref 227, .int 0, .ref 228, .ref 229, .ref 230, .ref 231, .ref 232]) rfl e191_56 rfl rfl rfl rfl (fun h57 o57 f57 => ?_)
  have s57 := s56.put f57
  refine s_iinc (y := 17) (lv' := [(2, .int 17), (0, .ref 191), (1, .int 18)]) rfl rfl (by decide) (by decide) rfl ?_
  refine q_goto rfl ?_
  refine q_iload_n rfl rfl ?_
  refine q_iload_n rfl rfl ?_
  refine q_icmp_ge rfl (fun c => absurd c (by decide)) (fun _ => ?_)
  refine q_aload_n rfl rfl ?_
  refine s_get (v := .ref 193) rfl o57 rfl rfl ?_
  refine q_aload_n rfl rfl ?_
  refine s_get (v := .int 17) rfl o57 rfl rfl ?_
  refine q_aload_n rfl rfl ?_
  refine s_get (v := .ref 192) rfl o57 rfl rfl ?_
  refine q_iload_n rfl rfl ?_
  have e192_57 := (f57.ne rfl (f56.ne rfl e192_55))
  refine s_iaload (j := 17) (v := .int 0) rfl e192_57 (by decide) rfl (by first | rfl | decide) ?_
  have e193_57 := (f57.ne rfl o56)
  refine s_iastore (j := 17) rfl e193_57 (by decide) rfl (fun h58 o58 f58 => ?_)
  have s58 := s57.put f58
  refine q_aload_n rfl rfl ?_
  refine q_dup rfl rfl ?_
  have e191_58 := (o57.ne f58 rfl)
  refine s_get (v := .int 17) rfl e191_58 rfl rfl ?_
  refine q_iconst rfl ?_
  refine s_iadd (k := 18) rfl (by decide) ?_
  refine s_put (vs' := [.int 0, .ref 192, .ref 193, .int 18, .ref 194, .ref 195, .ref 196, .ref 197, .ref 198, .ref 199, .ref 200, .ref 201, .ref 202, .ref 203, .ref 204, .ref 205, .int (-1), .int 0, .ref 206, .ref 207, .ref 208, .ref 209, .ref 210, .ref 211, .ref 212, .ref 213, .ref 214, .ref 215, .int 0, .int 0, .int 0, .int 0, .ref 216, .ref 217, .ref 218, .ref 219, .ref 220, .int (-1), .int 0, .int 0, .int 0, .int 0, .int 0, .int 0, .ref 221, .ref 222, .ref 223, .ref 224, .int 0, .ref 225, .int 0, .ref 226, .ref 227, .int 0, .ref 228, .ref 229, .ref 230, .ref 231, .ref 232]) rfl e191_58 rfl rfl rfl rfl (fun h59 o59 f59 => ?_)
  have s59 := s58.put f59
  refine s_iinc (y := 18) (lv' := [(2, .int 18), (0, .ref 191), (1, .int 18)]) rfl rfl (by decide) (by decide) rfl ?_
  refine q_goto rfl ?_
  refine q_iload_n rfl rfl ?_
  refine q_iload_n rfl rfl ?_
  refine q_icmp_ge rfl (fun _ => ?_) (fun c => absurd (by decide) c)
  refine q_iconst rfl ?_
  refine s_istore_n (lv' := [(2, .int 0), (0, .ref 191), (1, .int 18)]) rfl (by decide) rfl ?_
  refine q_iload_n rfl rfl ?_
  refine q_bipush rfl ?_
  refine q_icmp_ge rfl (fun c => absurd c (by decide)) (fun _ => ?_)
  refine q_aload_n rfl rfl ?_
  refine s_get (v := .ref 192) rfl o59 rfl rfl ?_
  refine q_iload_n rfl rfl ?_
  refine q_iconst rfl ?_
  have e192_59 := (f59.ne rfl (f58.ne rfl e192_57))
  refine s_iastore (j := 0) rfl e192_59 (by decide) rfl (fun h60 o60 f60 => ?_)
  have s60 := s59.put f60
  refine s_iinc (y := 1) (lv' := [(2, .int 1), (0, .ref 191), (1, .int 18)]) rfl rfl (by decide) (by decide) rfl ?_
  refine q_goto rfl ?_
  refine q_iload_n rfl rfl ?_
  refine q_bipush rfl ?_
  refine q_icmp_ge rfl (fun c => absurd c (by decide)) (fun _ => ?_)
  refine q_aload_n rfl rfl ?_
  have e191_60 := (o59.ne f60 rfl)
  refine s_get (v := .ref 192) rfl e191_60 rfl rfl ?_
  refine q_iload_n rfl rfl ?_
  refine q_iconst rfl ?_
  refine s_iastore (j := 1) rfl o60 (by decide) rfl (fun h61 o61 f61 => ?_)
  have s61 := s60.put f61
  refine s_iinc (y := 2) (lv' := [(2, .int 2), (0, .ref 191), (1, .int 18)]) rfl rfl (by decide) (by decide) rfl ?_
  refine q_goto rfl ?_
  refine q_iload_n rfl rfl ?_
  refine q_bipush rfl ?_
  refine q_icmp_ge rfl (fun c => absurd c (by decide)) (fun _ => ?_)
  refine q_aload_n rfl rfl ?_
  have e191_61 := (e191_60.ne f61 rfl)
  refine s_get (v := .ref 192) rfl e191_61 rfl rfl ?_
  refine q_iload_n rfl rfl ?_
  refine q_iconst rfl ?_
  refine s_iastore (j := 2) rfl o61 (by decide) rfl (fun h62 o62 f62 => ?_)
  have s62 := s61.put f62
  refine s_iinc (y := 3) (lv' := [(2, .int 3), (0, .ref 191), (1, .int 18)]) rfl rfl (by decide) (by decide) rfl ?_
  refine q_goto rfl ?_
  refine q_iload_n rfl rfl ?_
  refine q_bipush rfl ?_
  refine q_icmp_ge rfl (fun c => absurd c (by decide)) (fun _ => ?_)
  refine q_aload_n rfl rfl ?_
  have e191_62 := (e191_61.ne f62 rfl)
  refine s_get (v := .ref 192) rfl e191_62 rfl rfl ?_
  refine q_iload_n rfl rfl ?_
  refine q_iconst rfl ?_
  refine s_iastore (j := 3) rfl o62 (by decide) rfl (fun h63 o63 f63 => ?_)
  have s63 := s62.put f63
  refine s_iinc (y := 4) (lv' := [(2, .int 4), (0, .ref 191), (1, .int 18)]) rfl rfl (by decide) (by decide) rfl ?_
  refine q_goto rfl ?_
  refine q_iload_n rfl rfl ?_
  refine q_bipush rfl ?_
  refine q_icmp_ge rfl (fun c => absurd c (by decide)) (fun _ => ?_)
  refine q_aload_n rfl rfl ?_
  have e191_63 := (e191_62.ne f63 rfl)
  refine s_get (v := .ref 192) rfl e191_63 rfl rfl ?_
  refine q_iload_n rfl rfl ?_
  refine q_iconst rfl ?_
  refine s_iastore (j := 4) rfl o63 (by decide) rfl (fun h64 o64 f64 => ?_)
  have s64 := s63.put f64
  refine s_iinc (y := 5) (lv' := [(2, .int 5), (0, .ref 191), (1, .int 18)]) rfl rfl (by decide) (by decide) rfl ?_
  refine q_goto rfl ?_
  refine q_iload_n rfl rfl ?_
  refine q_bipush rfl ?_
  refine q_icmp_ge rfl (fun c => absurd c (by decide)) (fun _ => ?_)
  refine q_aload_n rfl rfl ?_
  have e191_64 := (e191_63.ne f64 rfl)
  refine s_get (v := .ref 192) rfl e191_64 rfl rfl ?_
  refine q_iload_n rfl rfl ?_
  refine q_iconst rfl ?_
  refine s_iastore (j := 5) rfl o64 (by decide) rfl (fun h65 o65 f65 => ?_)
  have s65 := s64.put f65
  refine s_iinc (y := 6) (lv' := [(2, .int 6), (0, .ref 191), (1, .int 18)]) rfl rfl (by decide) (by decide) rfl ?_
  refine q_goto rfl ?_
  refine q_iload_n rfl rfl ?_
  refine q_bipush rfl ?_
  refine q_icmp_ge rfl (fun c => absurd c (by decide)) (fun _ => ?_)
  refine q_aload_n rfl rfl ?_
  have e191_65 := (e191_64.ne f65 rfl)
  refine s_get (v := .ref 192) rfl e191_65 rfl rfl ?_
  refine q_iload_n rfl rfl ?_
  refine q_iconst rfl ?_
  refine s_iastore (j := 6) rfl o65 (by decide) rfl (fun h66 o66 f66 => ?_)
  have s66 := s65.put f66
  refine s_iinc (y := 7) (lv' := [(2, .int 7), (0, .ref 191), (1, .int 18)]) rfl rfl (by decide) (by decide) rfl ?_
  refine q_goto rfl ?_
  refine q_iload_n rfl rfl ?_
  refine q_bipush rfl ?_
  refine q_icmp_ge rfl (fun c => absurd c (by decide)) (fun _ => ?_)
  refine q_aload_n rfl rfl ?_
  have e191_66 := (e191_65.ne f66 rfl)
  refine s_get (v := .ref 192) rfl e191_66 rfl rfl ?_
  refine q_iload_n rfl rfl ?_
  refine q_iconst rfl ?_
  refine s_iastore (j := 7) rfl o66 (by decide) rfl (fun h67 o67 f67 => ?_)
  have s67 := s66.put f67
  refine s_iinc (y := 8) (lv' := [(2, .int 8), (0, .ref 191), (1, .int 18)]) rfl rfl (by decide) (by decide) rfl ?_
  refine q_goto rfl ?_
  refine q_iload_n rfl rfl ?_
  refine q_bipush rfl ?_
  refine q_icmp_ge rfl (fun c => absurd c (by decide)) (fun _ => ?_)
  refine q_aload_n rfl rfl ?_
  have e191_67 := (e191_66.ne f67 rfl)
  refine s_get (v := .ref 192) rfl e191_67 rfl rfl ?_
  refine q_iload_n rfl rfl ?_
  refine q_iconst rfl ?_
  refine s_iastore (j := 8) rfl o67 (by decide) rfl (fun h68 o68 f68 => ?_)
  have s68 := s67.put f68
  refine s_iinc (y := 9) (lv' := [(2, .int 9), (0, .ref 191), (1, .int 18)]) rfl rfl (by decide) (by decide) rfl ?_
  refine q_goto rfl ?_
  refine q_iload_n rfl rfl ?_
  refine q_bipush rfl ?_
  refine q_icmp_ge rfl (fun c => absurd c (by decide)) (fun _ => ?_)
  refine q_aload_n rfl rfl ?_
  have e191_68 := (e191_67.ne f68 rfl)
  refine s_get (v := .ref 192) rfl e191_68 rfl rfl ?_
  refine q_iload_n rfl rfl ?_
  refine q_iconst rfl ?_
  refine s_iastore (j := 9) rfl o68 (by decide) rfl (fun h69 o69 f69 => ?_)
  have s69 := s68.put f69
  refine s_iinc (y := 10) (lv' := [(2, .int 10), (0, .ref 191), (1, .int 18)]) rfl rfl (by decide) (by decide) rfl ?_
  refine q_goto rfl ?_
  refine q_iload_n rfl rfl ?_
  refine q_bipush rfl ?_
  refine q_icmp_ge rfl (fun c => absurd c (by decide)) (fun _ => ?_)
  refine q_aload_n rfl rfl ?_
  have e191_69 := (e191_68.ne f69 rfl)
  refine s_get (v := .ref 192) rfl e191_69 rfl rfl ?_
  refine q_iload_n rfl rfl ?_
  refine q_iconst rfl ?_
  refine s_iastore (j := 10) rfl o69 (by decide) rfl (fun h70 o70 f70 => ?_)
  have s70 := s69.put f70
  refine s_iinc (y := 11) (lv' := [(2, .int 11), (0, .ref 191), (1, .int 18)]) rfl rfl (by decide) (by decide) rfl ?_
  refine q_goto rfl ?_
  refine q_iload_n rfl rfl ?_
  refine q_bipush rfl ?_
  refine q_icmp_ge rfl (fun c => absurd c (by decide)) (fun _ => ?_)
  refine q_aload_n rfl rfl ?_
  have e191_70 := (e191_69.ne f70 rfl)
  refine s_get (v := .ref 192) rfl e191_70 rfl rfl ?_
  refine q_iload_n rfl rfl ?_
  refine q_iconst rfl ?_
  refine s_iastore (j := 11) rfl o70 (by decide) rfl (fun h71 o71 f71 => ?_)
  have s71 := s70.put f71
  refine s_iinc (y := 12) (lv' := [(2, .int 12), (0, .ref 191), (1, .int 18)]) rfl rfl (by decide) (by decide) rfl ?_
  refine q_goto rfl ?_
  refine q_iload_n rfl rfl ?_
  refine q_bipush rfl ?_
  refine q_icmp_ge rfl (fun c => absurd c (by decide)) (fun _ => ?_)
  refine q_aload_n rfl rfl ?_
  have e191_71 := (e191_70.ne f71 rfl)
  refine s_get (v := .ref 192) rfl e191_71 rfl rfl ?_
  refine q_iload_n rfl rfl ?_
  refine q_iconst rfl ?_
  refine s_iastore (j := 12) rfl o71 (by decide) rfl (fun h72 o72 f72 => ?_)
  have s72 := s71.put f72
  refine s_iinc (y := 13) (lv' := [(2, .int 13), (0, .ref 191), (1, .int 18)]) rfl rfl (by decide) (by decide) rfl ?_
  refine q_goto rfl ?_
  refine q_iload_n rfl rfl ?_
  refine q_bipush rfl ?_
  refine q_icmp_ge rfl (fun c => absurd c (by decide)) (fun _ => ?_)
  refine q_aload_n rfl rfl ?_
  have e191_72 := (e191_71.ne f72 rfl)
  refine s_get (v := .ref 192) rfl e191_72 rfl rfl ?_
  refine q_iload_n rfl rfl ?_
  refine q_iconst rfl ?_
  refine s_iastore (j := 13) rfl o72 (by decide) rfl (fun h73 o73 f73 => ?_)
  have s73 := s72.put f73
  refine s_iinc (y := 14) (lv' := [(2, .int 14), (0, .ref 191), (1, .int 18)]) rfl rfl (by decide) (by decide) rfl ?_
  refine q_goto rfl ?_
  refine q_iload_n rfl rfl ?_
  refine q_bipush rfl ?_
  refine q_icmp_ge rfl (fun c => absurd c (by decide)) (fun _ => ?_)
  refine q_aload_n rfl rfl ?_
  have e191_73 := (e191_72.ne f73 rfl)
  refine s_get (v := .ref 192) rfl e191_73 rfl rfl ?_
  refine q_iload_n rfl rfl ?_
  refine q_iconst rfl ?_
  refine s_iastore (j := 14) rfl o73 (by decide) rfl (fun h74 o74 f74 => ?_)
  have s74 := s73.put f74
  refine s_iinc (y := 15) (lv' := [(2, .int 15), (0, .ref 191), (1, .int 18)]) rfl rfl (by decide) (by decide) rfl ?_
  refine q_goto rfl ?_
  refine q_iload_n rfl rfl ?_
  refine q_bipush rfl ?_
  refine q_icmp_ge rfl (fun c => absurd c (by decide)) (fun _ => ?_)
  refine q_aload_n rfl rfl ?_
  have e191_74 := (e191_73.ne f74 rfl)
  refine s_get (v := .ref 192) rfl e191_74 rfl rfl ?_
  refine q_iload_n rfl rfl ?_
  refine q_iconst rfl ?_
  refine s_iastore (j := 15) rfl o74 (by decide) rfl (fun h75 o75 f75 => ?_)
  have s75 := s74.put f75
  refine s_iinc (y := 16) (lv' := [(2, .int 16), (0, .ref 191), (1, .int 18)]) rfl rfl (by decide) (by decide) rfl ?_
  refine q_goto rfl ?_
  refine q_iload_n rfl rfl ?_
  refine q_bipush rfl ?_
  refine q_icmp_ge rfl (fun c => absurd c (by decide)) (fun _ => ?_)
  refine q_aload_n rfl rfl ?_
  have e191_75 := (e191_74.ne f75 rfl)
  refine s_get (v := .ref 192) rfl e191_75 rfl rfl ?_
  refine q_iload_n rfl rfl ?_
  refine q_iconst rfl ?_
  refine s_iastore (j := 16) rfl o75 (by decide) rfl (fun h76 o76 f76 => ?_)
  have s76 := s75.put f76
  refine s_iinc (y := 17) (lv' := [(2, .int 17), (0, .ref 191), (1, .int 18)]) rfl rfl (by decide) (by decide) rfl ?_
  refine q_goto rfl ?_
  refine q_iload_n rfl rfl ?_
  refine q_bipush rfl ?_
  refine q_icmp_ge rfl (fun c => absurd c (by decide)) (fun _ => ?_)
  refine q_aload_n rfl rfl ?_
  have e191_76 := (e191_75.ne f76 rfl)
  refine s_get (v := .ref 192) rfl e191_76 rfl rfl ?_
  refine q_iload_n rfl rfl ?_
  refine q_iconst rfl ?_
  refine s_iastore (j := 17) rfl o76 (by decide) rfl (fun h77 o77 f77 => ?_)
  have s77 := s76.put f77
  refine s_iinc (y := 18) (lv' := [(2, .int 18), (0, .ref 191), (1, .int 18)]) rfl rfl (by decide) (by decide) rfl ?_
  refine q_goto rfl ?_
  refine q_iload_n rfl rfl ?_
  refine q_bipush rfl ?_
  refine q_icmp_ge rfl (fun c => absurd c (by decide)) (fun _ => ?_)
  refine q_aload_n rfl rfl ?_
  have e191_77 := (e191_76.ne f77 rfl)
  refine s_get (v := .ref 192) rfl e191_77 rfl rfl ?_
  refine q_iload_n rfl rfl ?_
  refine q_iconst rfl ?_
  refine s_iastore (j := 18) rfl o77 (by decide) rfl (fun h78 o78 f78 => ?_)
  have s78 := s77.put f78
  refine s_iinc (y := 19) (lv' := [(2, .int 19), (0, .ref 191), (1, .int 18)]) rfl rfl (by decide) (by decide) rfl ?_
  refine q_goto rfl ?_
  refine q_iload_n rfl rfl ?_
  refine q_bipush rfl ?_
  refine q_icmp_ge rfl (fun c => absurd c (by decide)) (fun _ => ?_)
  refine q_aload_n rfl rfl ?_
  have e191_78 := (e191_77.ne f78 rfl)
  refine s_get (v := .ref 192) rfl e191_78 rfl rfl ?_
  refine q_iload_n rfl rfl ?_
  refine q_iconst rfl ?_
  refine s_iastore (j := 19) rfl o78 (by decide) rfl (fun h79 o79 f79 => ?_)
  have s79 := s78.put f79
  refine s_iinc (y := 20) (lv' := [(2, .int 20), (0, .ref 191), (1, .int 18)]) rfl rfl (by decide) (by decide) rfl ?_
  refine q_goto rfl ?_
  refine q_iload_n rfl rfl ?_
  refine q_bipush rfl ?_
  refine q_icmp_ge rfl (fun _ => ?_) (fun c => absurd (by decide) c)
  refine q_aload_n rfl rfl ?_
  have e191_79 := (e191_78.ne f79 rfl)
  refine s_get (v := .int 18) rfl e191_79 rfl rfl ?_
  refine q_ireturn rfl rfl ?_
  show aW aiP 0 17 658 243 [(4, .int 0), (3, .ref 233), (2, .ref 191), (1, .ref 6), (0, .ref 0)] [.int 18, .int 18] h79 _
  refine q_icmp_eq rfl (fun _ => ?_) (fun c => absurd (by decide) c)
  refine s_iinc (y := 6) (lv' := [(4, .int 6), (3, .ref 233), (2, .ref 191), (1, .ref 6), (0, .ref 0)]) rfl rfl (by decide) (by decide) rfl ?_
  refine q_goto rfl ?_
  refine q_iload rfl rfl ?_
  refine q_aload_n rfl rfl ?_
  have e0_79 := (f79.ne rfl (f78.ne rfl (f77.ne rfl (f76.ne rfl (f75.ne rfl (f74.ne rfl (f73.ne rfl (f72.ne rfl (f71.ne rfl (f70.ne rfl (f69.ne rfl (f68.ne rfl (f67.ne rfl (f66.ne rfl (f65.ne rfl (f64.ne rfl (f63.ne rfl (f62.ne rfl (f61.ne rfl (f60.ne rfl (f59.ne rfl (f58.ne rfl (f57.ne rfl (f56.ne rfl (f55.ne rfl (f54.ne rfl (f53.ne rfl (f52.ne rfl (f51.ne rfl (f50.ne rfl (f49.ne rfl (f48.ne rfl (f47.ne rfl (f46.ne rfl (f45.ne rfl (f44.ne rfl (f43.ne rfl (f42.ne rfl (f41.ne rfl (f40.ne rfl (f39.ne rfl (f38.ne rfl (f37.ne rfl (f36.ne rfl (f35.ne rfl (f34.ne rfl (f33.ne rfl (f32.ne rfl (f31.ne rfl (f30.ne rfl (f29.ne rfl (f28.ne rfl (f27.ne rfl (f26.ne rfl (f25.ne rfl (f24.ne rfl (f23.ne rfl e0_22)))))))))))))))))))))))))))))))))))))))))))))))))))))))))
  refine s_alen (x := 6) rfl e0_79 rfl (by decide) ?_
  refine q_bipush rfl ?_
  refine s_isub (k := 0) rfl (by decide) ?_
  refine q_icmp_gt rfl (fun _ => ?_) (fun c => absurd (by decide) c)
  refine q_iconst rfl ?_
  refine q_ireturn rfl rfl ?_
  exact ⟨rfl, s79.bd rfl⟩
set_option maxRecDepth 20000 in
set_option maxHeartbeats 4000000 in
theorem p_case1_19 {xs : Nat → Int32} {h : ai_H} (F : Fresh 6 xs h) (hk : xs 0 &&& 31 = 1) (hw : xs 1 = 19) : aW aiP 0 17 658 33 [(4, .int 0), (3, .ref 233), (2, .ref 191), (1, .ref 6), (0, .ref 0)] [] h p_Q := by
  obtain ⟨e0, e1, ⟨g2, e2⟩, ⟨g3, e3⟩, ⟨g4, e4⟩, e5, e6, e7, e8, e9, e51, e93, e135, e177, e178, e179, e180, e181, e182, e183, e184, e185, e186, e187, e188, e189, e190, e191, e192, e193, e194, e195, e196, e197, e198, e199, e200, e201, e202, e203, e204, e205, e206, e207, e208, e209, e210, e211, e212, e213, e214, e215, e216, e217, e218, e219, e220, e221, e222, e223, e224, e225, e226, e227, ⟨g228, e228⟩, ⟨g229, e229⟩, e230, e231, e232, e233, s0⟩ := F
  refine q_aload_n rfl rfl ?_
  refine q_iload rfl rfl ?_
  refine s_iaload (j := 0) (v := .int (xs 0)) rfl e0 (by decide) rfl (by first | rfl | decide) ?_
  refine q_bipush rfl ?_
  refine s_iand (k := ((xs 0) &&& (31 : Int32))) rfl rfl ?_
  rw [hk]
  show aW aiP 0 17 658 40 [(4, .int 0), (3, .ref 233), (2, .ref 191), (1, .ref 6), (0, .ref 0)] [.int 1] h _
  refine s_sw (tg := 223) rfl rfl ?_
  refine q_aload_n rfl rfl ?_
  refine q_aload_n rfl rfl ?_
  refine q_iload rfl rfl ?_
  refine q_iconst rfl ?_
  refine s_iadd (k := 1) rfl (by decide) ?_
  refine s_iaload (j := 1) (v := .int (xs 1)) rfl e0 (by decide) rfl (by first | rfl | decide) ?_
  rw [hw]
  refine s_callV (as := [.int 19]) (rest := []) (d' := 16) (w' := 637) (lv' := [(0, .ref 6), (1, .int 19)]) rfl e6 rfl rfl rfl rfl rfl rfl ?_
  refine q_iload_n rfl rfl ?_
  refine q_if_lt rfl (fun c => absurd c (by decide)) (fun _ => ?_)
  refine q_iload_n rfl rfl ?_
  refine q_bipush rfl ?_
  refine q_icmp_gt rfl (fun c => absurd c (by decide)) (fun _ => ?_)
  refine q_aload_n rfl rfl ?_
  refine s_get (v := .int 0) rfl e6 rfl rfl ?_
  refine q_iload_n rfl rfl ?_
  refine s_iadd (k := 19) rfl (by decide) ?_
  refine q_sipush rfl ?_
  refine q_icmp_le rfl (fun _ => ?_) (fun c => absurd (by decide) c)
  refine q_aload_n rfl rfl ?_
  refine s_get (v := .ref 7) rfl e6 rfl rfl ?_
  refine q_iconst rfl ?_
  refine q_aload_n rfl rfl ?_
  refine s_get (v := .ref 8) rfl e6 rfl rfl ?_
  refine q_aload_n rfl rfl ?_
  refine s_get (v := .int 0) rfl e6 rfl rfl ?_
  refine q_iload_n rfl rfl ?_
  refine s_copy (sp := 0) (dp := 0) (k := 19) rfl e7 e8 (by decide) (by decide) (by decide) rfl (by decide) (by decide) (by decide) (fun i _ => rfl) (fun h1 o1 f1 => ?_)
  have s1 := s0.put f1
  refine q_aload_n rfl rfl ?_
  refine q_dup rfl rfl ?_
  have e6_1 := (e6.ne f1 rfl)
  refine s_get (v := .int 0) rfl e6_1 rfl rfl ?_
  refine q_iload_n rfl rfl ?_
  refine s_iadd (k := 19) rfl (by decide) ?_
  refine s_put (vs' := [.ref 7, .ref 8, .int 19, .ref 9, .int (-1), .ref 51, .ref 93, .ref 135, .ref 177, .ref 180, .int 0, .ref 183, .ref 186, .ref 189]) rfl e6_1 rfl rfl rfl rfl (fun h2 o2 f2 => ?_)
  have s2 := s1.put f2
  refine q_aload_n rfl rfl ?_
  refine s_get (v := .ref 7) rfl o2 rfl rfl ?_
  refine q_iconst rfl ?_
  refine s_callS (as := [.ref 7, .int 0]) (rest := []) (d' := 15) (w' := 614) (lv' := [(0, .ref 7), (1, .int 0)]) rfl rfl rfl rfl rfl rfl rfl rfl ?_
  refine q_iconst rfl ?_
  refine s_istore_n (lv' := [(2, .int 0), (0, .ref 7), (1, .int 0)]) rfl (by decide) rfl ?_
  refine q_aload_n rfl rfl ?_
  have e7_2 := (f2.ne rfl (f1.ne rfl e7))
  refine s_alen (x := 20) rfl e7_2 rfl (by decide) ?_
  refine s_istore_n (lv' := [(3, .int 20), (2, .int 0), (0, .ref 7), (1, .int 0)]) rfl (by decide) rfl ?_
  refine q_iload_n rfl rfl ?_
  refine q_iload_n rfl rfl ?_
  refine q_icmp_ge rfl (fun c => absurd c (by decide)) (fun _ => ?_)
  refine q_aload_n rfl rfl ?_
  refine q_iload_n rfl rfl ?_
  refine q_iload_n rfl rfl ?_
  refine s_bastore (j := 0) rfl e7_2 (by decide) rfl (fun h3 o3 f3 => ?_)
  have s3 := s2.put f3
  refine s_iinc (y := 1) (lv' := [(2, .int 1), (3, .int 20), (0, .ref 7), (1, .int 0)]) rfl rfl (by decide) (by decide) rfl ?_
  refine q_goto rfl ?_
  refine q_iload_n rfl rfl ?_
  refine q_iload_n rfl rfl ?_
  refine q_icmp_ge rfl (fun c => absurd c (by decide)) (fun _ => ?_)
  refine q_aload_n rfl rfl ?_
  refine q_iload_n rfl rfl ?_
  refine q_iload_n rfl rfl ?_
  refine s_bastore (j := 1) rfl o3 (by decide) rfl (fun h4 o4 f4 => ?_)
  have s4 := s3.put f4
  refine s_iinc (y := 2) (lv' := [(2, .int 2), (3, .int 20), (0, .ref 7), (1, .int 0)]) rfl rfl (by decide) (by decide) rfl ?_
  refine q_goto rfl ?_
  refine q_iload_n rfl rfl ?_
  refine q_iload_n rfl rfl ?_
  refine q_icmp_ge rfl (fun c => absurd c (by decide)) (fun _ => ?_)
  refine q_aload_n rfl rfl ?_
  refine q_iload_n rfl rfl ?_
  refine q_iload_n rfl rfl ?_
  refine s_bastore (j := 2) rfl o4 (by decide) rfl (fun h5 o5 f5 => ?_)
  have s5 := s4.put f5
  refine s_iinc (y := 3) (lv' := [(2, .int 3), (3, .int 20), (0, .ref 7), (1, .int 0)]) rfl rfl (by decide) (by decide) rfl ?_
  refine q_goto rfl ?_
  refine q_iload_n rfl rfl ?_
  refine q_iload_n rfl rfl ?_
  refine q_icmp_ge rfl (fun c => absurd c (by decide)) (fun _ => ?_)
  refine q_aload_n rfl rfl ?_
  refine q_iload_n rfl rfl ?_
  refine q_iload_n rfl rfl ?_
  refine s_bastore (j := 3) rfl o5 (by decide) rfl (fun h6 o6 f6 => ?_)
  have s6 := s5.put f6
  refine s_iinc (y := 4) (lv' := [(2, .int 4), (3, .int 20), (0, .ref 7), (1, .int 0)]) rfl rfl (by decide) (by decide) rfl ?_
  refine q_goto rfl ?_
  refine q_iload_n rfl rfl ?_
  refine q_iload_n rfl rfl ?_
  refine q_icmp_ge rfl (fun c => absurd c (by decide)) (fun _ => ?_)
  refine q_aload_n rfl rfl ?_
  refine q_iload_n rfl rfl ?_
  refine q_iload_n rfl rfl ?_
  refine s_bastore (j := 4) rfl o6 (by decide) rfl (fun h7 o7 f7 => ?_)
  have s7 := s6.put f7
  refine s_iinc (y := 5) (lv' := [(2, .int 5), (3, .int 20), (0, .ref 7), (1, .int 0)]) rfl rfl (by decide) (by decide) rfl ?_
  refine q_goto rfl ?_
  refine q_iload_n rfl rfl ?_
  refine q_iload_n rfl rfl ?_
  refine q_icmp_ge rfl (fun c => absurd c (by decide)) (fun _ => ?_)
  refine q_aload_n rfl rfl ?_
  refine q_iload_n rfl rfl ?_
  refine q_iload_n rfl rfl ?_
  refine s_bastore (j := 5) rfl o7 (by decide) rfl (fun h8 o8 f8 => ?_)
  have s8 := s7.put f8
  refine s_iinc (y := 6) (lv' := [(2, .int 6), (3, .int 20), (0, .ref 7), (1, .int 0)]) rfl rfl (by decide) (by decide) rfl ?_
  refine q_goto rfl ?_
  refine q_iload_n rfl rfl ?_
  refine q_iload_n rfl rfl ?_
  refine q_icmp_ge rfl (fun c => absurd c (by decide)) (fun _ => ?_)
  refine q_aload_n rfl rfl ?_
  refine q_iload_n rfl rfl ?_
  refine q_iload_n rfl rfl ?_
  refine s_bastore (j := 6) rfl o8 (by decide) rfl (fun h9 o9 f9 => ?_)
  have s9 := s8.put f9
  refine s_iinc (y := 7) (lv' := [(2, .int 7), (3, .int 20), (0, .ref 7), (1, .int 0)]) rfl rfl (by decide) (by decide) rfl ?_
  refine q_goto rfl ?_
  refine q_iload_n rfl rfl ?_
  refine q_iload_n rfl rfl ?_
  refine q_icmp_ge rfl (fun c => absurd c (by decide)) (fun _ => ?_)
  refine q_aload_n rfl rfl ?_
  refine q_iload_n rfl rfl ?_
  refine q_iload_n rfl rfl ?_
  refine s_bastore (j := 7) rfl o9 (by decide) rfl (fun h10 o10 f10 => ?_)
  have s10 := s9.put f10
  refine s_iinc (y := 8) (lv' := [(2, .int 8), (3, .int 20), (0, .ref 7), (1, .int 0)]) rfl rfl (by decide) (by decide) rfl ?_
  refine q_goto rfl ?_
  refine q_iload_n rfl rfl ?_
  refine q_iload_n rfl rfl ?_
  refine q_icmp_ge rfl (fun c => absurd c (by decide)) (fun _ => ?_)
  refine q_aload_n rfl rfl ?_
  refine q_iload_n rfl rfl ?_
  refine q_iload_n rfl rfl ?_
  refine s_bastore (j := 8) rfl o10 (by decide) rfl (fun h11 o11 f11 => ?_)
  have s11 := s10.put f11
  refine s_iinc (y := 9) (lv' := [(2, .int 9), (3, .int 20), (0, .ref 7), (1, .int 0)]) rfl rfl (by decide) (by decide) rfl ?_
  refine q_goto rfl ?_
  refine q_iload_n rfl rfl ?_
  refine q_iload_n rfl rfl ?_
  refine q_icmp_ge rfl (fun c => absurd c (by decide)) (fun _ => ?_)
  refine q_aload_n rfl rfl ?_
  refine q_iload_n rfl rfl ?_
  refine q_iload_n rfl rfl ?_
  refine s_bastore (j := 9) rfl o11 (by decide) rfl (fun h12 o12 f12 => ?_)
  have s12 := s11.put f12
  refine s_iinc (y := 10) (lv' := [(2, .int 10), (3, .int 20), (0, .ref 7), (1, .int 0)]) rfl rfl (by decide) (by decide) rfl ?_
  refine q_goto rfl ?_
  refine q_iload_n rfl rfl ?_
  refine q_iload_n rfl rfl ?_
  refine q_icmp_ge rfl (fun c => absurd c (by decide)) (fun _ => ?_)
  refine q_aload_n rfl rfl ?_
  refine q_iload_n rfl rfl ?_
  refine q_iload_n rfl rfl ?_
  refine s_bastore (j := 10) rfl o12 (by decide) rfl (fun h13 o13 f13 => ?_)
  have s13 := s12.put f13
  refine s_iinc (y := 11) (lv' := [(2, .int 11), (3, .int 20), (0, .ref 7), (1, .int 0)]) rfl rfl (by decide) (by decide) rfl ?_
  refine q_goto rfl ?_
  refine q_iload_n rfl rfl ?_
  refine q_iload_n rfl rfl ?_
  refine q_icmp_ge rfl (fun c => absurd c (by decide)) (fun _ => ?_)
  refine q_aload_n rfl rfl ?_
  refine q_iload_n rfl rfl ?_
  refine q_iload_n rfl rfl ?_
  refine s_bastore (j := 11) rfl o13 (by decide) rfl (fun h14 o14 f14 => ?_)
  have s14 := s13.put f14
  refine s_iinc (y := 12) (lv' := [(2, .int 12), (3, .int 20), (0, .ref 7), (1, .int 0)]) rfl rfl (by decide) (by decide) rfl ?_
  refine q_goto rfl ?_
  refine q_iload_n rfl rfl ?_
  refine q_iload_n rfl rfl ?_
  refine q_icmp_ge rfl (fun c => absurd c (by decide)) (fun _ => ?_)
  refine q_aload_n rfl rfl ?_
  refine q_iload_n rfl rfl ?_
  refine q_iload_n rfl rfl ?_
  refine s_bastore (j := 12) rfl o14 (by decide) rfl (fun h15 o15 f15 => ?_)
  have s15 := s14.put f15
  refine s_iinc (y := 13) (lv' := [(2, .int 13), (3, .int 20), (0, .ref 7), (1, .int 0)]) rfl rfl (by decide) (by decide) rfl ?_
  refine q_goto rfl ?_
  refine q_iload_n rfl rfl ?_
  refine q_iload_n rfl rfl ?_
  refine q_icmp_ge rfl (fun c => absurd c (by decide)) (fun _ => ?_)
  refine q_aload_n rfl rfl ?_
  refine q_iload_n rfl rfl ?_
  refine q_iload_n rfl rfl ?_
  refine s_bastore (j := 13) rfl o15 (by decide) rfl (fun h16 o16 f16 => ?_)
  have s16 := s15.put f16
  refine s_iinc (y := 14) (lv' := [(2, .int 14), (3, .int 20), (0, .ref 7), (1, .int 0)]) rfl rfl (by decide) (by decide) rfl ?_
  refine q_goto rfl ?_
  refine q_iload_n rfl rfl ?_
  refine q_iload_n rfl rfl ?_
  refine q_icmp_ge rfl (fun c => absurd c (by decide)) (fun _ => ?_)
  refine q_aload_n rfl rfl ?_
  refine q_iload_n rfl rfl ?_
  refine q_iload_n rfl rfl ?_
  refine s_bastore (j := 14) rfl o16 (by decide) rfl (fun h17 o17 f17 => ?_)
  have s17 := s16.put f17
  refine s_iinc (y := 15) (lv' := [(2, .int 15), (3, .int 20), (0, .ref 7), (1, .int 0)]) rfl rfl (by decide) (by decide) rfl ?_
  refine q_goto rfl ?_
  refine q_iload_n rfl rfl ?_
  refine q_iload_n rfl rfl ?_
  refine q_icmp_ge rfl (fun c => absurd c (by decide)) (fun _ => ?_)
  refine q_aload_n rfl rfl ?_
  refine q_iload_n rfl rfl ?_
  refine q_iload_n rfl rfl ?_
  refine s_bastore (j := 15) rfl o17 (by decide) rfl (fun h18 o18 f18 => ?_)
  have s18 := s17.put f18
  refine s_iinc (y := 16) (lv' := [(2, .int 16), (3, .int 20), (0, .ref 7), (1, .int 0)]) rfl rfl (by decide) (by decide) rfl ?_
  refine q_goto rfl ?_
  refine q_iload_n rfl rfl ?_
  refine q_iload_n rfl rfl ?_
  refine q_icmp_ge rfl (fun c => absurd c (by decide)) (fun _ => ?_)
  refine q_aload_n rfl rfl ?_
  refine q_iload_n rfl rfl ?_
  refine q_iload_n rfl rfl ?_
  refine s_bastore (j := 16) rfl o18 (by decide) rfl (fun h19 o19 f19 => ?_)
  have s19 := s18.put f19
  refine s_iinc (y := 17) (lv' := [(2, .int 17), (3, .int 20), (0, .ref 7), (1, .int 0)]) rfl rfl (by decide) (by decide) rfl ?_
  refine q_goto rfl ?_
  refine q_iload_n rfl rfl ?_
  refine q_iload_n rfl rfl ?_
  refine q_icmp_ge rfl (fun c => absurd c (by decide)) (fun _ => ?_)
  refine q_aload_n rfl rfl ?_
  refine q_iload_n rfl rfl ?_
  refine q_iload_n rfl rfl ?_
  refine s_bastore (j := 17) rfl o19 (by decide) rfl (fun h20 o20 f20 => ?_)
  have s20 := s19.put f20
  refine s_iinc (y := 18) (lv' := [(2, .int 18), (3, .int 20), (0, .ref 7), (1, .int 0)]) rfl rfl (by decide) (by decide) rfl ?_
  refine q_goto rfl ?_
  refine q_iload_n rfl rfl ?_
  refine q_iload_n rfl rfl ?_
  refine q_icmp_ge rfl (fun c => absurd c (by decide)) (fun _ => ?_)
  refine q_aload_n rfl rfl ?_
  refine q_iload_n rfl rfl ?_
  refine q_iload_n rfl rfl ?_
  refine s_bastore (j := 18) rfl o20 (by decide) rfl (fun h21 o21 f21 => ?_)
  have s21 := s20.put f21
  refine s_iinc (y := 19) (lv' := [(2, .int 19), (3, .int 20), (0, .ref 7), (1, .int 0)]) rfl rfl (by decide) (by decide) rfl ?_
  refine q_goto rfl ?_
  refine q_iload_n rfl rfl ?_
  refine q_iload_n rfl rfl ?_
  refine q_icmp_ge rfl (fun c => absurd c (by decide)) (fun _ => ?_)
  refine q_aload_n rfl rfl ?_
  refine q_iload_n rfl rfl ?_
  refine q_iload_n rfl rfl ?_
  refine s_bastore (j := 19) rfl o21 (by decide) rfl (fun h22 o22 f22 => ?_)
  have s22 := s21.put f22
  refine s_iinc (y := 20) (lv' := [(2, .int 20), (3, .int 20), (0, .ref 7), (1, .int 0)]) rfl rfl (by decide) (by decide) rfl ?_
  refine q_goto rfl ?_
  refine q_iload_n rfl rfl ?_
  refine q_iload_n rfl rfl ?_
  refine q_icmp_ge rfl (fun _ => ?_) (fun c => absurd (by decide) c)
  refine q_return rfl rfl ?_
  show aW aiP 15 16 637 59 [(0, .ref 6), (1, .int 19)] [] h22 _
  refine q_aload_n rfl rfl ?_
  have e6_22 := ((((((((((((((((((((o2.ne f3 rfl).ne f4 rfl).ne f5 rfl).ne f6 rfl).ne f7 rfl).ne f8 rfl).ne f9 rfl).ne f10 rfl).ne f11 rfl).ne f12 rfl).ne f13 rfl).ne f14 rfl).ne f15 rfl).ne f16 rfl).ne f17 rfl).ne f18 rfl).ne f19 rfl).ne f20 rfl).ne f21 rfl).ne f22 rfl)
  refine s_get (v := .int 19) rfl e6_22 rfl rfl ?_
  refine q_ireturn rfl rfl ?_
  show aW aiP 0 17 658 233 [(4, .int 0), (3, .ref 233), (2, .ref 191), (1, .ref 6), (0, .ref 0)] [.int 19] h22 _
  refine q_aload_n rfl rfl ?_
  refine q_aload_n rfl rfl ?_
  refine q_iload rfl rfl ?_
  refine q_iconst rfl ?_
  refine s_iadd (k := 1) rfl (by decide) ?_
  have e0_22 := (f22.ne rfl (f21.ne rfl (f20.ne rfl (f19.ne rfl (f18.ne rfl (f17.ne rfl (f16.ne rfl (f15.ne rfl (f14.ne rfl (f13.ne rfl (f12.ne rfl (f11.ne rfl (f10.ne rfl (f9.ne rfl (f8.ne rfl (f7.ne rfl (f6.ne rfl (f5.ne rfl (f4.ne rfl (f3.ne rfl (f2.ne rfl (f1.ne rfl e0))))))))))))))))))))))
  refine s_iaload (j := 1) (v := .int (xs 1)) rfl e0_22 (by decide) rfl (by first | rfl | decide) ?_
  rw [hw]
  have e191_22 := ((((((((((((((((((((((e191.ne f1 rfl).ne f2 rfl).ne f3 rfl).ne f4 rfl).ne f5 rfl).ne f6 rfl).ne f7 rfl).ne f8 rfl).ne f9 rfl).ne f10 rfl).ne f11 rfl).ne f12 rfl).ne f13 rfl).ne f14 rfl).ne f15 rfl).ne f16 rfl).ne f17 rfl).ne f18 rfl).ne f19 rfl).ne f20 rfl).ne f21 rfl).ne f22 rfl)
  refine s_callV (as := [.int 19]) (rest := [.int 19]) (d' := 16) (w' := 636) (lv' := [(0, .ref 191), (1, .int 19)]) rfl e191_22 rfl rfl rfl rfl rfl rfl ?_
  refine q_aload_n rfl rfl ?_
  refine q_iconst rfl ?_
  refine s_put (vs' := [.int 0, .ref 192, .ref 193, .int 0, .ref 194, .ref 195, .ref 196, .ref 197, .ref 198, .ref 199, .ref 200, .ref 201, .ref 202, .ref 203, .ref 204, .ref 205, .int (-1), .int 0, .ref 206, .ref 207, .ref 208, .ref 209, .ref 210, .ref 211, .ref 212, .ref 213, .ref 214, .ref 215, .int 0, .int 0, .int 0, .int 0, .ref 216, .ref 217, .ref 218, .ref 219, .ref 220, .int (-1), .int 0, .int 0, .int 0, .int 0, .int 0, .int 0, .ref 221, .ref 222, .ref 223, .ref 224, .int 0, .ref 225, .int 0, .ref 226, .ref 227, .int 0, .ref 228, .ref 229, .ref 230, .ref 231, .ref 232]) rfl e191_22 rfl rfl rfl rfl (fun h23 o23 f23 => ?_)
  have s23 := s22.put f23
  refine q_iload_n rfl rfl ?_
  refine q_if_lt rfl (fun c => absurd c (by decide)) (fun _ => ?_)
  refine q_iload_n rfl rfl ?_
  refine q_bipush rfl ?_
  refine q_icmp_gt rfl (fun c => absurd c (by decide)) (fun _ => ?_)
  refine q_aload_n rfl rfl ?_
  refine s_get (v := .int 0) rfl o23 rfl rfl ?_
  refine q_iload_n rfl rfl ?_
  refine s_iadd (k := 19) rfl (by decide) ?_
  refine q_sipush rfl ?_
  refine q_icmp_le rfl (fun _ => ?_) (fun c => absurd (by decide) c)
  refine q_iconst rfl ?_
  refine s_istore_n (lv' := [(2, .int 0), (0, .ref 191), (1, .int 19)]) rfl (by decide) rfl ?_
  refine q_iload_n rfl rfl ?_
  refine q_iload_n rfl rfl ?_
  refine q_icmp_ge rfl (fun c => absurd c (by decide)) (fun _ => ?_)
  refine q_aload_n rfl rfl ?_
  refine s_get (v := .ref 193) rfl o23 rfl rfl ?_
  refine q_aload_n rfl rfl ?_
  refine s_get (v := .int 0) rfl o23 rfl rfl ?_
  refine q_aload_n rfl rfl ?_
  refine s_get (v := .ref 192) rfl o23 rfl rfl ?_
  refine q_iload_n rfl rfl ?_
  have e192_23 := (f23.ne rfl (f22.ne rfl (f21.ne rfl (f20.ne rfl (f19.ne rfl (f18.ne rfl (f17.ne rfl (f16.ne rfl (f15.ne rfl (f14.ne rfl (f13.ne rfl (f12.ne rfl (f11.ne rfl (f10.ne rfl (f9.ne rfl (f8.ne rfl (f7.ne rfl (f6.ne rfl (f5.ne rfl (f4.ne rfl (f3.ne rfl (f2.ne rfl (f1.ne rfl e192)))))))))))))))))))))))
  refine s_iaload (j := 0) (v := .int 0) rfl e192_23 (by decide) rfl (by first | rfl | decide) ?_
  have e193_23 := (f23.ne rfl (f22.ne rfl (f21.ne rfl (f20.ne rfl (f19.ne rfl (f18.ne rfl (f17.ne rfl (f16.ne rfl (f15.ne rfl (f14.ne rfl (f13.ne rfl (f12.ne rfl (f11.ne rfl (f10.ne rfl (f9.ne rfl (f8.ne rfl (f7.ne rfl (f6.ne rfl (f5.ne rfl (f4.ne rfl (f3.ne rfl (f2.ne rfl (f1.ne rfl e193)))))))))))))))))))))))
  refine s_iastore (j := 0) rfl e193_23 (by decide) rfl (fun h24 o24 f24 => ?_)
  have s24 := s23.put f24
  refine q_aload_n rfl rfl ?_
  refine q_dup rfl rfl ?_
  have e191_24 := (o23.ne f24 rfl)
  refine s_get (v := .int 0) rfl e191_24 rfl rfl ?_
  refine q_iconst rfl ?_
  refine s_iadd (k := 1) rfl (by decide) ?_
  refine s_put (vs' := [.int 0, .ref 192, .ref 193, .int 1, .ref 194, .ref 195, .ref 196, .ref 197, .ref 198, .ref 199, .ref 200, .ref 201, .ref 202, .ref 203, .ref 204, .ref 205, .int (-1), .int 0, .ref 206, .ref 207, .ref 208, .ref 209, .ref 210, .ref 211, .ref 212, .ref 213, .ref 214, .ref 215, .int 0, .int 0, .int 0, .int 0, .ref 216, .ref 217, .ref 218, .ref 219, .ref 220, .int (-1), .int 0, .int 0, .int 0, .int 0, .int 0, .int 0, .ref 221, .ref 222, .ref 223, .ref 224, .int 0, .ref 225, .int 0, .ref 226, .ref 227, .int 0, .ref 228, .ref 229, .ref 230, .ref 231, .ref 232]) rfl e191_24 rfl rfl rfl rfl (fun h25 o25 f25 => ?_)
  have s25 := s24.put f25
  refine s_iinc (y := 1) (lv' := [(2, .int 1), (0, .ref 191), (1, .int 19)]) rfl rfl (by decide) (by decide) rfl ?_
  refine q_goto rfl ?_
  refine q_iload_n rfl rfl ?_
  refine q_iload_n rfl rfl ?_
  refine q_icmp_ge rfl (fun c => absurd c (by decide)) (fun _ => ?_)
  refine q_aload_n rfl rfl ?_
  refine s_get (v := .ref 193) rfl o25 rfl rfl ?_
  refine q_aload_n rfl rfl ?_
  refine s_get (v := .int 1) rfl o25 rfl rfl ?_
  refine q_aload_n rfl rfl ?_
  refine s_get (v := .ref 192) rfl o25 rfl rfl ?_
  refine q_iload_n rfl rfl ?_
  have e192_25 := (f25.ne rfl (f24.ne rfl e192_23))
  refine s_iaload (j := 1) (v := .int 0) rfl e192_25 (by decide) rfl (by first | rfl | decide) ?_
  have e193_25 := (f25.ne rfl o24)
  refine s_iastore (j := 1) rfl e193_25 (by decide) rfl (fun h26 o26 f26 => ?_)
  have s26 := s25.put f26
  refine q_aload_n rfl rfl ?_
  refine q_dup rfl rfl ?_
  have e191_26 := (o25.ne f26 rfl)
  refine s_get (v := .int 1) rfl e191_26 rfl rfl ?_
  refine q_iconst rfl ?_
  refine s_iadd (k := 2) rfl (by decide) ?_
  refine s_put (vs' := [.int 0, .ref 192, .ref 193, .int 2, .ref 194, .ref 195, .ref 196, .ref 197, .ref 198, .ref 199, .ref 200, .ref 201, .ref 202, .ref 203, .ref 204, .ref 205, .int (-1), .int 0, .ref 206, .ref 207, .ref 208, .ref 209, .ref 210, .ref 211, .ref 212, .ref 213, .ref 214, .ref 215, .int 0, .int 0, .int 0, .int 0, .ref 216, .ref 217, .ref 218, .ref 219, .ref 220, .int (-1), .int 0, .int 0, .int 0, .int 0, .int 0, .int 0, .ref 221, .ref 222, .ref 223, .ref 224, .int 0, .ref 225, .int 0, .ref 226, .ref 227, .int 0, .ref 228, .ref 229, .ref 230, .ref 231, .ref 232]) rfl e191_26 rfl rfl rfl rfl (fun h27 o27 f27 => ?_)
  have s27 := s26.put f27
  refine s_iinc (y := 2) (lv' := [(2, .int 2), (0, .ref 191), (1, .int 19)]) rfl rfl (by decide) (by decide) rfl ?_
  refine q_goto rfl ?_
  refine q_iload_n rfl rfl ?_
  refine q_iload_n rfl rfl ?_
  refine q_icmp_ge rfl (fun c => absurd c (by decide)) (fun _ => ?_)
  refine q_aload_n rfl rfl ?_
  refine s_get (v := .ref 193) rfl o27 rfl rfl ?_
  refine q_aload_n rfl rfl ?_
  refine s_get (v := .int 2) rfl o27 rfl rfl ?_
  refine q_aload_n rfl rfl ?_
  refine s_get (v := .ref 192) rfl o27 rfl rfl ?_
  refine q_iload_n rfl rfl ?_
  have e192_27 := (f27.ne rfl (f26.ne rfl e192_25))
  refine s_iaload (j := 2) (v := .int 0) rfl e192_27 (by decide) rfl (by first | rfl | decide) ?_
  have e193_27 := (f27.ne rfl o26)
  refine s_iastore (j := 2) rfl e193_27 (by decide) rfl (fun h28 o28 f28 => ?_)
  have s28 := s27.put f28
  refine q_aload_n rfl rfl ?_
  refine q_dup rfl rfl ?_
  have e191_28 := (o27.ne f28 rfl)
  refine s_get (v := .int 2) rfl e191_28 rfl rfl ?_
  refine q_iconst rfl ?_
  refine s_iadd (k := 3) rfl (by decide) ?_
  refine s_put (vs' := [.int 0, .ref 192, .ref 193, .int 3, .ref 194, .ref 195, .ref 196, .ref 197, .ref 198, .ref 199, .ref 200, .ref 201, .ref 202, .ref 203, .ref 204, .ref 205, .int (-1), .int 0, .ref 206, .ref 207, .ref 208, .ref 209, .ref 210, .ref 211, .ref 212, .ref 213, .ref 214, .ref 215, .int 0, .int 0, .int 0, .int 0, .ref 216, .ref 217, .ref 218, .ref 219, .ref 220, .int (-1), .int 0, .int 0, .int 0, .int 0, .int 0, .int 0, .ref 221, .ref 222, .ref 223, .ref 224, .int 0, .ref 225, .int 0, .ref 226, .ref 227, .int 0, .ref 228, .ref 229, .ref 230, .ref 231, .ref 232]) rfl e191_28 rfl rfl rfl rfl (fun h29 o29 f29 => ?_)
  have s29 := s28.put f29
  refine s_iinc (y := 3) (lv' := [(2, .int 3), (0, .ref 191), (1, .int 19)]) rfl rfl (by decide) (by decide) rfl ?_
  refine q_goto rfl ?_
  refine q_iload_n rfl rfl ?_
  refine q_iload_n rfl rfl ?_
  refine q_icmp_ge rfl (fun c => absurd c (by decide)) (fun _ => ?_)
  refine q_aload_n rfl rfl ?_
  refine s_get (v := .ref 193) rfl o29 rfl rfl ?_
  refine q_aload_n rfl rfl ?_
  refine s_get (v := .int 3) rfl o29 rfl rfl ?_
  refine q_aload_n rfl rfl ?_
  refine s_get (v := .ref 192) rfl o29 rfl rfl ?_
  refine q_iload_n rfl rfl ?_
  have e192_29 := (f29.ne rfl (f28.ne rfl e192_27))
  refine s_iaload (j := 3) (v := .int 0) rfl e192_29 (by decide) rfl (by first | rfl | decide) ?_
  have e193_29 := (f29.ne rfl o28)
  refine s_iastore (j := 3) rfl e193_29 (by decide) rfl (fun h30 o30 f30 => ?_)
  have s30 := s29.put f30
  refine q_aload_n rfl rfl ?_
  refine q_dup rfl rfl ?_
  have e191_30 := (o29.ne f30 rfl)
  refine s_get (v := .int 3) rfl e191_30 rfl rfl ?_
  refine q_iconst rfl ?_
  refine s_iadd (k := 4) rfl (by decide) ?_
  refine s_put (vs' := [.int 0, .ref 192, .ref 193, .int 4, .ref 194, .ref 195, .ref 196, .ref 197, .ref 198, .ref 199, .ref 200, .ref 201, .ref 202, .ref 203, .ref 204, .ref 205, .int (-1), .int 0, .ref 206, .ref 207, .ref 208, .ref 209, .ref 210, .ref 211, .ref 212, .ref 213, .ref 214, .ref 215, .int 0, .int 0, .int 0, .int 0, .ref 216, .ref 217, .ref 218, .ref 219, .ref 220, .int (-1), .int 0, .int 0, .int 0, .int 0, .int 0, .int 0, .ref 221, .ref 222, .ref 223, .ref 224, .int 0, .ref 225, .int 0, .ref 226, .ref 227, .int 0, .ref 228, .ref 229, .ref 230, .ref 231, .ref 232]) rfl e191_30 rfl rfl rfl rfl (fun h31 o31 f31 => ?_)
  have s31 := s30.put f31
  refine s_iinc (y := 4) (lv' := [(2, .int 4), (0, .ref 191), (1, .int 19)]) rfl rfl (by decide) (by decide) rfl ?_
  refine q_goto rfl ?_
  refine q_iload_n rfl rfl ?_
  refine q_iload_n rfl rfl ?_
  refine q_icmp_ge rfl (fun c => absurd c (by decide)) (fun _ => ?_)
  refine q_aload_n rfl rfl ?_
  refine s_get (v := .ref 193) rfl o31 rfl rfl ?_
  refine q_aload_n rfl rfl ?_
  refine s_get (v := .int 4) rfl o31 rfl rfl ?_
  refine q_aload_n rfl rfl ?_
  refine s_get (v := .ref 192) rfl o31 rfl rfl ?_
  refine q_iload_n rfl rfl ?_
  have e192_31 := (f31.ne rfl (f30.ne rfl e192_29))
  refine s_iaload (j := 4) (v := .int 0) rfl e192_31 (by decide) rfl (by first | rfl | decide) ?_
  have e193_31 := (f31.ne rfl o30)
  refine s_iastore (j := 4) rfl e193_31 (by decide) rfl (fun h32 o32 f32 => ?_)
  have s32 := s31.put f32
  refine q_aload_n rfl rfl ?_
  refine q_dup rfl rfl ?_
  have e191_32 := (o31.ne f32 rfl)
  refine s_get (v := .int 4) rfl e191_32 rfl rfl ?_
  refine q_iconst rfl ?_
  refine s_iadd (k := 5) rfl (by decide) ?_
  refine s_put (vs' := [.int 0, .ref 192, .ref 193, .int 5, .ref 194, .ref 195, .ref 196, .ref 197, .ref 198, .ref 199, .ref 200, .ref 201, .ref 202, .ref 203, .ref 204, .ref 205, .int (-1), .int 0, .ref 206, .ref 207, .ref 208, .ref 209, .ref 210, .ref 211, .ref 212, .ref 213, .ref 214, .ref 215, .int 0, .int 0, .int 0, .int 0, .ref 216, .ref 217, .ref 218, .ref 219, .ref 220, .int (-1), .int 0, .int 0, .int 0, .int 0, .int 0, .int 0, .ref 221, .ref 222, .ref 223, .ref 224, .int 0, .ref 225, .int 0, .ref 226, .ref 227, .int 0, .ref 228, .ref 229, .ref 230, .ref 231, .ref 232]) rfl e191_32 rfl rfl rfl rfl (fun h33 o33 f33 => ?_)
  have s33 := s32.put f33
  refine s_iinc (y := 5) (lv' := [(2, .int 5), (0, .ref 191), (1, .int 19)]) rfl rfl (by decide) (by decide) rfl ?_
  refine q_goto rfl ?_
  refine q_iload_n rfl rfl ?_
  refine q_iload_n rfl rfl ?_
  refine q_icmp_ge rfl (fun c => absurd c (by decide)) (fun _ => ?_)
  refine q_aload_n rfl rfl ?_
  refine s_get (v := .ref 193) rfl o33 rfl rfl ?_
  refine q_aload_n rfl rfl ?_
  refine s_get (v := .int 5) rfl o33 rfl rfl ?_
  refine q_aload_n rfl rfl ?_
  refine s_get (v := .ref 192) rfl o33 rfl rfl ?_
  refine q_iload_n rfl rfl ?_
  have e192_33 := (f33.ne rfl (f32.ne rfl e192_31))
  refine s_iaload (j := 5) (v := .int 0) rfl e192_33 (by decide) rfl (by first | rfl | decide) ?_
  have e193_33 := (f33.ne rfl o32)
  refine s_iastore (j := 5) rfl e193_33 (by decide) rfl (fun h34 o34 f34 => ?_)
  have s34 := s33.put f34
  refine q_aload_n rfl rfl ?_
  refine q_dup rfl rfl ?_
  have e191_34 := (o33.ne f34 rfl)
  refine s_get (v := .int 5) rfl e191_34 rfl rfl ?_
  refine q_iconst rfl ?_
  refine s_iadd (k := 6) rfl (by decide) ?_
  refine s_put (vs' := [.int 0, .ref 192, .ref 193, .int 6, .ref 194, .ref 195, .ref 196, .ref 197, .ref 198, .ref 199, .ref 200, .ref 201, .ref 202, .ref 203, .ref 204, .ref 205, .int (-1), .int 0, .ref 206, .ref 207, .ref 208, .ref 209, .ref 210, .ref 211, .ref 212, .ref 213, .ref 214, .ref 215, .int 0, .int 0, .int 0, .int 0, .ref 216, .ref 217, .ref 218, .ref 219, .ref 220, .int (-1), .int 0, .int 0, .int 0, .int 0, .int 0, .int 0, .ref 221, .ref 222, .ref 223, .ref 224, .int 0, .ref 225, .int 0, .ref 226, .ref 227, .int 0, .ref 228, .ref 229, .ref 230, .ref 231, .ref 232]) rfl e191_34 rfl rfl rfl rfl (fun h35 o35 f35 => ?_)
  have s35 := s34.put f35
  refine s_iinc (y := 6) (lv' := [(2, .int 6), (0, .ref 191), (1, .int 19)]) rfl rfl (by decide) (by decide) rfl ?_
  refine q_goto rfl ?_
  refine q_iload_n rfl rfl ?_
  refine q_iload_n rfl rfl ?_
  refine q_icmp_ge rfl (fun c => absurd c (by decide)) (fun _ => ?_)
  refine q_aload_n rfl rfl ?_
  refine s_get (v := .ref 193) rfl o35 rfl rfl ?_
  refine q_aload_n rfl rfl ?_
  refine s_get (v := .int 6) rfl o35 rfl rfl ?_
  refine q_aload_n rfl rfl ?_
  refine s_get (v := .ref 192) rfl o35 rfl rfl ?_
  refine q_iload_n rfl rfl ?_
  have e192_35 := (f35.ne rfl (f34.ne rfl e192_33))
  refine s_iaload (j := 6) (v := .int 0) rfl e192_35 (by decide) rfl (by first | rfl | decide) ?_
  have e193_35 := (f35.ne rfl o34)
  refine s_iastore (j := 6) rfl e193_35 (by decide) rfl (fun h36 o36 f36 => ?_)
  have s36 := s35.put f36
  refine q_aload_n rfl rfl ?_
  refine q_dup rfl rfl ?_
  have e191_36 := (o35.ne f36 rfl)
  refine s_get (v := .int 6) rfl e191_36 rfl rfl ?_
  refine q_iconst rfl ?_
  refine s_iadd (k := 7) rfl (by decide) ?_
  refine s_put (vs' := [.int 0, .ref 192, .ref 193, .int 7, .ref 194, .ref 195, .ref 196, .ref 197, .ref 198, .ref 199, .ref 200, .ref 201, .ref 202, .ref 203, .ref 204, .ref 205, .int (-1), .int 0, .ref 206, .ref 207, .ref 208, .ref 209, .ref 210, .ref 211, .ref 212, .ref 213, .ref 214, .ref 215, .int 0, .int 0, .int 0, .int 0, .ref 216, .ref 217, .ref 218, .ref 219, .ref 220, .int (-1), .int 0, .int 0, .int 0, .int 0, .int 0, .int 0, .ref 221, .ref 222, .ref 223, .ref 224, .int 0, .ref 225, .int 0, .ref 226, .ref 227, .int 0, .ref 228, .ref 229, .ref 230, .ref 231, .ref 232]) rfl e191_36 rfl rfl rfl rfl (fun h37 o37 f37 => ?_)
  have s37 := s36.put f37
  refine s_iinc (y := 7) (lv' := [(2, .int 7), (0, .ref 191), (1, .int 19)]) rfl rfl (by decide) (by decide) rfl ?_
  refine q_goto rfl ?_
  refine q_iload_n rfl rfl ?_
  refine q_iload_n rfl rfl ?_
  refine q_icmp_ge rfl (fun c => absurd c (by decide)) (fun _ => ?_)
  refine q_aload_n rfl rfl ?_
  refine s_get (v := .ref 193) rfl o37 rfl rfl ?_
  refine q_aload_n rfl rfl ?_
  refine s_get (v := .int 7) rfl o37 rfl rfl ?_
  refine q_aload_n rfl rfl ?_
  refine s_get (v := .ref 192) rfl o37 rfl rfl ?_
  refine q_iload_n rfl rfl ?_
  have e192_37 := (f37.ne rfl (f36.ne rfl e192_35))
  refine s_iaload (j := 7) (v := .int 0) rfl e192_37 (by decide) rfl (by first | rfl | decide) ?_
  have e193_37 := (f37.ne rfl o36)
  refine s_iastore (j := 7) rfl e193_37 (by decide) rfl (fun h38 o38 f38 => ?_)
  have s38 := s37.put f38
  refine q_aload_n rfl rfl ?_
  refine q_dup rfl rfl ?_
  have e191_38 := (o37.ne f38 rfl)
  refine s_get (v := .int 7) rfl e191_38 rfl rfl ?_
  refine q_iconst rfl ?_
  refine s_iadd (k := 8) rfl (by decide) ?_
  refine s_put (vs' := [.int 0, .ref 192, .ref 193, .int 8, .ref 194, .ref 195, .ref 196, .ref 197, .ref 198, .ref 199, .ref 200, .ref 201, .ref 202, .ref 203, .ref 204, .ref 205, .int (-1), .int 0, .ref 206, .ref 207, .ref 208, .ref 209, .ref 210, .ref 211, .ref 212, .ref 213, .ref 214, .ref 215, .int 0, .int 0, .int 0, .int 0, .ref 216, .ref 217, .ref 218, .ref 219, .ref 220, .int (-1), .int 0, .int 0, .int 0, .int 0, .int 0, .int 0, .ref 221, .ref 222, .ref 223, .ref 224, .int 0, .ref 225, .int 0, .ref 226, .ref 227, .int 0, .ref 228, .ref 229, .ref 230, .ref 231, .ref 232]) rfl e191_38 rfl rfl rfl rfl (fun h39 o39 f39 => ?_)
  have s39 := s38.put f39
  refine s_iinc (y := 8) (lv' := [(2, .int 8), (0, .ref 191), (1, .int 19)]) rfl rfl (by decide) (by decide) rfl ?_
  refine q_goto rfl ?_
  refine q_iload_n rfl rfl ?_
  refine q_iload_n rfl rfl ?_
  refine q_icmp_ge rfl (fun c => absurd c (by decide)) (fun _ => ?_)
  refine q_aload_n rfl rfl ?_
  refine s_get (v := .ref 193) rfl o39 rfl rfl ?_
  refine q_aload_n rfl rfl ?_
  refine s_get (v := .int 8) rfl o39 rfl rfl ?_
  refine q_aload_n rfl rfl ?_
  refine s_get (v := .ref 192) rfl o39 rfl rfl ?_
  refine q_iload_n rfl rfl ?_
  have e192_39 := (f39.ne rfl (f38.ne rfl e192_37))
  refine s_iaload (j := 8) (v := .int 0) rfl e192_39 (by decide) rfl (by first | rfl | decide) ?_
  have e193_39 := (f39.ne rfl o38)
  refine s_iastore (j := 8) rfl e193_39 (by decide) rfl (fun h40 o40 f40 => ?_)
  have s40 := s39.put f40
  refine q_aload_n rfl rfl ?_
  refine q_dup rfl rfl ?_
  have e191_40 := (o39.ne f40 rfl)
  refine s_get (v := .int 8) rfl e191_40 rfl rfl ?_
  refine q_iconst rfl ?_
  refine s_iadd (k := 9) rfl (by decide) ?_
  refine s_put (vs' := [.int 0, .ref 192, .ref 193, .int 9, .ref 194, .ref 195, .ref 196, .ref 197, .ref 198, .ref 199, .ref 200, .ref 201, .ref 202, .ref 203, .ref 204, .ref 205, .int (-1), .int 0, .ref 206, .ref 207, .ref 208, .ref 209, .ref 210, .ref 211, .ref 212, .ref 213, .ref 214, .ref 215, .int 0, .int 0, .int 0, .int 0, .ref 216, .ref 217, .ref 218, .ref 219, .ref 220, .int (-1), .int 0, .int 0, .int 0, .int 0, .int 0, .int 0, .ref 221, .ref 222, .ref 223, .ref 224, .int 0, .ref 225, .int 0, .ref 226, .ref 227, .int 0, .ref 228, .ref 229, .ref 230, .ref 231, .ref 232]) rfl e191_40 rfl rfl rfl rfl (fun h41 o41 f41 => ?_)
  have s41 := s40.put f41
  refine s_iinc (y := 9) (lv' := [(2, .int 9), (0, .ref 191), (1, .int 19)]) rfl rfl (by decide) (by decide) rfl ?_
  refine q_goto rfl ?_
  refine q_iload_n rfl rfl ?_
  refine q_iload_n rfl rfl ?_
  refine q_icmp_ge rfl (fun c => absurd c (by decide)) (fun _ => ?_)
  refine q_aload_n rfl rfl ?_
  refine s_get (v := .ref 193) rfl o41 rfl rfl ?_
  refine q_aload_n rfl rfl ?_
  refine s_get (v := .int 9) rfl o41 rfl rfl ?_
  refine q_aload_n rfl rfl ?_
  refine s_get (v := .ref 192) rfl o41 rfl rfl ?_
  refine q_iload_n rfl rfl ?_
  have e192_41 := (f41.ne rfl (f40.ne rfl e192_39))
  refine s_iaload (j := 9) (v := .int 0) rfl e192_41 (by decide) rfl (by first | rfl | decide) ?_
  have e193_41 := (f41.ne rfl o40)
  refine s_iastore (j := 9) rfl e193_41 (by decide) rfl (fun h42 o42 f42 => ?_)
  have s42 := s41.put f42
  refine q_aload_n rfl rfl ?_
  refine q_dup rfl rfl ?_
  have e191_42 := (o41.ne f42 rfl)
  refine s_get (v := .int 9) rfl e191_42 rfl rfl ?_
  refine q_iconst rfl ?_
  refine s_iadd (k := 10) rfl (by decide) ?_
  refine s_put (vs' := [.int 0, .ref 192, .ref 193, .int 10, .ref 194, .ref 195, .ref 196, .ref 197, .ref 198, .ref 199, .ref 200, .ref 201, .ref 202, .ref 203, .ref 204, .ref 205, .int (-1), .int 0, .ref 206, .ref 207, .ref 208, .ref 209, .ref 210, .ref 211, .ref 212, .ref 213, .ref 214, .ref 215, .int 0, .int 0, .int 0, .int 0, .ref 216, .ref 217, .ref 218, .ref 219, .ref 220, .int (-1), .int 0, .int 0, .int 0, .int 0, .int 0, .int 0, .ref 221, .ref 222, .ref 223, .ref 224, .int 0, .ref 225, .int 0, .ref 226, .ref 227, .int 0, .ref 228, .ref 229, .ref 230, .ref 231, .ref 232]) rfl e191_42 rfl rfl rfl rfl (fun h43 o43 f43 => ?_)
  have s43 := s42.put f43
  refine s_iinc (y := 10) (lv' := [(2, .int 10), (0, .ref 191), (1, .int 19)]) rfl rfl (by decide) (by decide) rfl ?_
  refine q_goto rfl ?_
  refine q_iload_n rfl rfl ?_
  refine q_iload_n rfl rfl ?_
  refine q_icmp_ge rfl (fun c => absurd c (by decide)) (fun _ => ?_)
  refine q_aload_n rfl rfl ?_
  refine s_get (v := .ref 193) rfl o43 rfl rfl ?_
  refine q_aload_n rfl rfl ?_
  refine s_get (v := .int 10) rfl o43 rfl rfl ?_
  refine q_aload_n rfl rfl ?_
  refine s_get (v := .ref 192) rfl o43 rfl rfl ?_
  refine q_iload_n rfl rfl ?_
  have e192_43 := (f43.ne rfl (f42.ne rfl e192_41))
  refine s_iaload (j := 10) (v := .int 0) rfl e192_43 (by decide) rfl (by first | rfl | decide) ?_
  have e193_43 := (f43.ne rfl o42)
  refine s_iastore (j := 10) rfl e193_43 (by decide) rfl (fun h44 o44 f44 => ?_)
  have s44 := s43.put f44
  refine q_aload_n rfl rfl ?_
  refine q_dup rfl rfl ?_
  have e191_44 := (o43.ne f44 rfl)
  refine s_get (v := .int 10) rfl e191_44 rfl rfl ?_
  refine q_iconst rfl ?_
  refine s_iadd (k := 11) rfl (by decide) ?_
  refine s_put (vs' := [.int 0, .ref 192, .ref 193, .int 11, .ref 194, .ref 195, .ref 196, .ref 197, .ref 198, .ref 199, .ref 200, .ref 201, .ref 202, .ref 203, .ref 204, .ref 205, .int (-1), .int 0, .ref 206, .ref 207, .ref 208, .ref 209, .ref 210, .ref 211, .ref 212, .ref 213, .ref 214, .ref 215, .int 0, .int 0, .int 0, .int 0, .ref 216, .ref 217, .ref 218, .ref 219, .ref 220, .int (-1), .int 0, .int 0, .int 0, .int 0, .int 0, .int 0, .ref 221, .ref 222, .ref 223, .ref 224, .int 0, .ref 225, .int 0, .ref 226, .ref 227, .int 0, .ref 228, .ref 229, .ref 230, .ref 231, .ref 232]) rfl e191_44 rfl rfl rfl rfl (fun h45 o45 f45 => ?_)
  have s45 := s44.put f45
  refine s_iinc (y := 11) (lv' := [(2, .int 11), (0, .ref 191), (1, .int 19)]) rfl rfl (by decide) (by decide) rfl ?_
  refine q_goto rfl ?_
  refine q_iload_n rfl rfl ?_
  refine q_iload_n rfl rfl ?_
  refine q_icmp_ge rfl (fun c => absurd c (by decide)) (fun _ => ?_)
  refine q_aload_n rfl rfl ?_
  refine s_get (v := .ref 193) rfl o45 rfl rfl ?_
  refine q_aload_n rfl rfl ?_
  refine s_get (v := .int 11) rfl o45 rfl rfl ?_
  refine q_aload_n rfl rfl ?_
  refine s_get (v := .ref 192) rfl o45 rfl rfl ?_
  refine q_iload_n rfl rfl ?_
  have e192_45 := (f45.ne rfl (f44.ne rfl e192_43))
  refine s_iaload (j := 11) (v := .int 0) rfl e192_45 (by decide) rfl (by first | rfl | decide) ?_
  have e193_45 := (f45.ne rfl o44)
  refine s_iastore (j := 11) rfl e193_45 (by decide) rfl (fun h46 o46 f46 => ?_)
  have s46 := s45.put f46
  refine q_aload_n rfl rfl ?_
  refine q_dup rfl rfl ?_
  have e191_46 := (o45.ne f46 rfl)
  refine s_get (v := .int 11) rfl e191_46 rfl rfl ?_
  refine q_iconst rfl ?_
  refine s_iadd (k := 12) rfl (by decide) ?_
  refine s_put (vs' := [.int 0, .ref 192, .ref 193, .int 12, .ref 194, .ref 195, .ref 196, .ref 197, .ref 198, .ref 199, .ref 200, .ref 201, .ref 202, .ref 203, .ref 204, .ref 205, .int (-1), .int 0, .ref 206, .ref 207, .ref 208, .ref 209, .ref 210, .ref 211, .ref 212, .ref 213, .ref 214, .ref 215, .int 0, .int 0, .int 0, .int 0, .ref 216, .ref 217, .ref 218, .ref 219, .ref 220, .int (-1), .int 0, .int 0, .int 0, .int 0, .int 0, .int 0, .ref 221, .ref 222, .ref 223, .ref 224, .int 0, .ref 225, .int 0, .ref 226, .ref 227, .int 0, .ref 228, .ref 229, .ref 230, .ref 231, .ref 232]) rfl e191_46 rfl rfl rfl rfl (fun h47 o47 f47 => ?_)
  have s47 := s46.put f47
  refine s_iinc (y := 12) (lv' := [(2, .int 12), (0, .ref 191), (1, .int 19)]) rfl rfl (by decide) (by decide) rfl ?_
  refine q_goto rfl ?_
  refine q_iload_n rfl rfl ?_
  refine q_iload_n rfl rfl ?_
  refine q_icmp_ge rfl (fun c => absurd c (by decide)) (fun _ => ?_)
  refine q_aload_n rfl rfl ?_
  refine s_get (v := .ref 193) rfl o47 rfl rfl ?_
  refine q_aload_n rfl rfl ?_
  refine s_get (v := .int 12) rfl o47 rfl rfl ?_
  refine q_aload_n rfl rfl ?_
  refine s_get (v := .ref 192) rfl o47 rfl rfl ?_
  refine q_iload_n rfl rfl ?_
  have e192_47 := (f47.ne rfl (f46.ne rfl e192_45))
  refine s_iaload (j := 12) (v := .int 0) rfl e192_47 (by decide) rfl (by first | rfl | decide) ?_
  have e193_47 := (f47.ne rfl o46)
  refine s_iastore (j := 12) rfl e193_47 (by decide) rfl (fun h48 o48 f48 => ?_)
  have s48 := s47.put f48
  refine q_aload_n rfl rfl ?_
  refine q_dup rfl rfl ?_
  have e191_48 := (o47.ne f48 rfl)
  refine s_get (v := .int 12) rfl e191_48 rfl rfl ?_
  refine q_iconst rfl ?_
  refine s_iadd (k := 13) rfl (by decide) ?_
  refine s_put (vs' := [.int 0, .ref 192, .ref 193, .int 13, .ref 194, .ref 195, .ref 196, .ref 197, .ref 198, .ref 199, .ref 200, .ref 201, .ref 202, .ref 203, .ref 204, .ref 205, .int (-1), .int 0, .ref 206, .ref 207, .ref 208, .ref 209, .ref 210, .ref 211, .ref 212, .ref 213, .ref 214, .ref 215, .int 0, .int 0, .int 0, .int 0, .ref 216, .ref 217, .ref 218, .ref 219, .ref 220, .int (-1), .int 0, .int 0, .int 0, .int 0, .int 0, .int 0, .ref 221, .ref 222, .ref 223, .ref 224, .int 0, .ref 225, .int 0, .ref 226, .ref 227, .int 0, .ref 228, .ref 229, .ref 230, .ref 231, .ref 232]) rfl e191_48 rfl rfl rfl rfl (fun h49 o49 f49 => ?_)
  have s49 := s48.put f49
  refine s_iinc (y := 13) (lv' := [(2, .int 13), (0, .ref 191), (1, .int 19)]) rfl rfl (by decide) (by decide) rfl ?_
  refine q_goto rfl ?_
  refine q_iload_n rfl rfl ?_
  refine q_iload_n rfl rfl ?_
  refine q_icmp_ge rfl (fun c => absurd c (by decide)) (fun _ => ?_)
  refine q_aload_n rfl rfl ?_
  refine s_get (v := .ref 193) rfl o49 rfl rfl ?_
  refine q_aload_n rfl rfl ?_
  refine s_get (v := .int 13) rfl o49 rfl rfl ?_
  refine q_aload_n rfl rfl ?_
  refine s_get (v := .ref 192) rfl o49 rfl rfl ?_
  refine q_iload_n rfl rfl ?_
  have e192_49 := (f49.ne rfl (f48.ne rfl e192_47))
  refine s_iaload (j := 13) (v := .int 0) rfl e192_49 (by decide) rfl (by first | rfl | decide) ?_
  have e193_49 := (f49.ne rfl o48)
  refine s_iastore (j := 13) rfl e193_49 (by decide) rfl (fun h50 o50 f50 => ?_)
  have s50 := s49.put f50
  refine q_aload_n rfl rfl ?_
  refine q_dup rfl rfl ?_
  have e191_50 := (o49.ne f50 rfl)
  refine s_get (v := .int 13) rfl e191_50 rfl rfl ?_
  refine q_iconst rfl ?_
  refine s_iadd (k := 14) rfl (by decide) ?_
  refine s_put (vs' := [.int 0, .ref 192, .ref 193, .int 14, .ref 194, .ref 195, .ref 196, .ref 197, .ref 198, .ref 199, .ref 200, .ref 201, .ref 202, .ref 203, .ref 204, .ref 205, .int (-1), .int 0, .ref 206, .ref 207, .ref 208, .ref 209, .ref 210, .ref 211, .ref 212, .ref 213, .ref 214, .ref 215, .int 0, .int 0, .int 0, .int 0, .ref 216, .ref 217, .ref 218, .ref 219, .ref 220, .int (-1), .int 0, .int 0, .int 0, .int 0, .int 0, .int 0, .ref 221, .ref 222, .ref 223, .ref 224, .int 0, .ref 225, .int 0, .ref 226, .ref 227, .int 0, .ref 228, .ref 229, .ref 230, .ref 231, .ref 232]) rfl e191_50 rfl rfl rfl rfl (fun h51 o51 f51 => ?_)
  have s51 := s50.put f51
  refine s_iinc (y := 14) (lv' := [(2, .int 14), (0, .ref 191), (1, .int 19)]) rfl rfl (by decide) (by decide) rfl ?_
  refine q_goto rfl ?_
  refine q_iload_n rfl rfl ?_
  refine q_iload_n rfl rfl ?_
  refine q_icmp_ge rfl (fun c => absurd c (by decide)) (fun _ => ?_)
  refine q_aload_n rfl rfl ?_
  refine s_get (v := .ref 193) rfl o51 rfl rfl ?_
  refine q_aload_n rfl rfl ?_
  refine s_get (v := .int 14) rfl o51 rfl rfl ?_
  refine q_aload_n rfl rfl ?_
  refine s_get (v := .ref 192) rfl o51 rfl rfl ?_
  refine q_iload_n rfl rfl ?_
  have e192_51 := (f51.ne rfl (f50.ne rfl e192_49))
  refine s_iaload (j := 14) (v := .int 0) rfl e192_51 (by decide) rfl (by first | rfl | decide) ?_
  have e193_51 := (f51.ne rfl o50)
  refine s_iastore (j := 14) rfl e193_51 (by decide) rfl (fun h52 o52 f52 => ?_)
  have s52 := s51.put f52
  refine q_aload_n rfl rfl ?_
  refine q_dup rfl rfl ?_
  have e191_52 := (o51.ne f52 rfl)
  refine s_get (v := .int 14) rfl e191_52 rfl rfl ?_
  refine q_iconst rfl ?_
  refine s_iadd (k := 15) rfl (by decide) ?_
  refine s_put (vs' := [.int 0, .ref 192, .ref 193, .int 15, .ref 194, .ref 195, .ref 196, .ref 197, .ref 198, .ref 199, .ref 200, .ref 201, .ref 202, .ref 203, .ref 204, .ref 205, .int (-1), .int 0, .ref 206, .ref 207, .ref 208, .ref 209, .ref 210, .ref 211, .ref 212, .ref 213, .ref 214, .ref 215, .int 0, .int 0, .int 0, .int 0, .ref 216, .ref 217, .ref 218, .ref 219, .ref 220, .int (-1), .int 0, .int 0, .int 0, .int 0, .int 0, .int 0, .ref 221, .ref 222, .ref 223, .ref 224, .int 0, .ref 225, .int 0, .ref 226, .ref 227, .int 0, .ref 228, .ref 229, .ref 230, .ref 231, .ref 232]) rfl e191_52 rfl rfl rfl rfl (fun h53 o53 f53 => ?_)
  have s53 := s52.put f53
  refine s_iinc (y := 15) (lv' := [(2, .int 15), (0, .ref 191), (1, .int 19)]) rfl rfl (by decide) (by decide) rfl ?_
  refine q_goto rfl ?_
  refine q_iload_n rfl rfl ?_
  refine q_iload_n rfl rfl ?_
  refine q_icmp_ge rfl (fun c => absurd c (by decide)) (fun _ => ?_)
  refine q_aload_n rfl rfl ?_
  refine s_get (v := .ref 193) rfl o53 rfl rfl ?_
  refine q_aload_n rfl rfl ?_
  refine s_get (v := .int 15) rfl o53 rfl rfl ?_
  refine q_aload_n rfl rfl ?_
  refine s_get (v := .ref 192) rfl o53 rfl rfl ?_
  refine q_iload_n rfl rfl ?_
  have e192_53 := (f53.ne rfl (f52.ne rfl e192_51))
  refine s_iaload (j := 15) (v := .int 0) rfl e192_53 (by decide) rfl (by first | rfl | decide) ?_
  have e193_53 := (f53.ne rfl o52)
  refine s_iastore (j := 15) rfl e193_53 (by decide) rfl (fun h54 o54 f54 => ?_)
  have s54 := s53.put f54
  refine q_aload_n rfl rfl ?_
  refine q_dup rfl rfl ?_
  have e191_54 := (o53.ne f54 rfl)
  refine s_get (v := .int 15) rfl e191_54 rfl rfl ?_
  refine q_iconst rfl ?_
  refine s_iadd (k := 16) rfl (by decide) ?_
  refine s_put (vs' := [.int 0, .ref 192, .ref 193, .int 16, .ref 194, .ref 195, .ref 196, .ref 197, .ref 198, .ref 199, .ref 200, .ref 201, .ref 202, .ref 203, .ref 204, .ref 205, .int (-1), .int 0, .ref 206, .ref 207, .ref 208, .ref 209, .ref 210, .ref 211, .ref 212, .ref 213, .ref 214, .ref 215, .int 0, .int 0, .int 0, .int 0, .ref 216, .ref 217, .ref 218, .ref 219, .ref 220, .int (-1), .int 0, .int 0, .int 0, .int 0, .int 0, .int 0, .ref 221, .ref 222, .ref 223, .ref 224, .int 0, .ref 225, .int 0, .ref 226, .ref 227, .int 0, .ref 228, .ref 229, .ref 230, .ref 231, .ref 232]) rfl e191_54 rfl rfl rfl rfl (fun h55 o55 f55 => ?_)
  have s55 := s54.put f55
  refine s_iinc (y := 16) (lv' := [(2, .int 16), (0, .ref 191), (1, .int 19)]) rfl rfl (by decide) (by decide) rfl ?_
  refine q_goto rfl ?_
  refine q_iload_n rfl rfl ?_
  refine q_iload_n rfl rfl ?_
  refine q_icmp_ge rfl (fun c => absurd c (by decide)) (fun _ => ?_)
  refine q_aload_n rfl rfl ?_
  refine s_get (v := .ref 193) rfl o55 rfl rfl ?_
  refine q_aload_n rfl rfl ?_
  refine s_get (v := .int 16) rfl o55 rfl rfl ?_
  refine q_aload_n rfl rfl ?_
  refine s_get (v := .ref 192) rfl o55 rfl rfl ?_
  refine q_iload_n rfl rfl ?_
  have e192_55 := (f55.ne rfl (f54.ne rfl e192_53))
  refine s_iaload (j := 16) (v := .int 0) rfl e192_55 (by decide) rfl (by first | rfl | decide) ?_
  have e193_55 := (f55.ne rfl o54)
  refine s_iastore (j := 16) rfl e193_55 (by decide) rfl (fun h56 o56 f56 => ?_)
  have s56 := s55.put f56
  refine q_aload_n rfl rfl ?_
  refine q_dup rfl rfl ?_
  have e191_56 := (o55.ne f56 rfl)
  refine s_get (v := .int 16) rfl e191_56 rfl rfl ?_
  refine q_iconst rfl ?_
  refine s_iadd (k := 17) rfl (by decide) ?_
  refine s_put (vs' := [.int 0, .ref 192, .ref 193, .int 17, .ref 194, .ref 195, .ref 196, .ref 197, .ref 198, .ref 199, .ref 200, .ref 201, .ref 202, .ref 203, .ref 204, .ref 205, .int (-1), .int 0, .ref 206, .ref 207, .ref 208, .ref 209, .ref 210, .ref 211, .ref 212, .ref 213, .ref 214, .ref 215, .int 0, .int 0, .int 0, .int 0, .ref 216, .ref 217, .ref 218, .ref 219, .ref 220, .int (-1), .int 0, .int 0, .int 0, .int 0, .int 0, .int 0, .ref 221, .ref 222, .ref 223, .ref 224, .int 0, .ref 225, .int 0, .ref 226, .ref 227, .int 0, .ref 228, .ref 229, .ref 230, .ref 231, .ref 232]) rfl e191_56 rfl rfl rfl rfl (fun h57 o57 f57 => ?_)
  have s57 := s56.put f57
  refine s_iinc (y := 17) (lv' := [(2, .int 17), (0, .ref 191), (1, .int 19)]) rfl rfl (by decide) (by decide) rfl ?_
  refine q_goto rfl ?_
  refine q_iload_n rfl rfl ?_
  refine q_iload_n rfl rfl ?_
  refine q_icmp_ge rfl (fun c => absurd c (by decide)) (fun _ => ?_)
  refine q_aload_n rfl rfl ?_
  refine s_get (v := .ref 193) rfl o57 rfl rfl ?_
  refine q_aload_n rfl rfl ?_
  refine s_get (v := .int 17) rfl o57 rfl rfl ?_
  refine q_aload_n rfl rfl ?_
  refine s_get (v := .ref 192) rfl o57 rfl rfl ?_
  refine q_iload_n rfl rfl ?_
  have e192_57 := (f57.ne rfl (f56.ne rfl e192_55))
  refine s_iaload (j := 17) (v := .int 0) rfl e192_57 (by decide) rfl (by first | rfl | decide) ?_
  have e193_57 := (f57.ne rfl o56)
  refine s_iastore (j := 17) rfl e193_57 (by decide) rfl (fun h58 o58 f58 => ?_)
  have s58 := s57.put f58
  refine q_aload_n rfl rfl ?_
  refine q_dup rfl rfl ?_
  have e191_58 := (o57.ne f58 rfl)
  refine s_get (v := .int 17) rfl e191_58 rfl rfl ?_
  refine q_iconst rfl ?_
  refine s_iadd (k := 18) rfl (by decide) ?_
  refine s_put (vs' := [.int 0, .ref 192, .ref 193, .int 18, .ref 194, .ref 195, .ref 196, .ref 197, .ref 198, .ref 199, .ref 200, .ref 201, .ref 202, .ref 203, .ref 204, .ref 205, .int (-1), .int 0, .ref 206, .ref 207, .ref 208, .ref 209, .ref 210, .ref 211, .ref 212, .ref 213, .ref 214, .ref 215, .int 0, .int 0, .int 0, .int 0, .ref 216, .ref 217, .ref 218, .ref 219, .ref 220, .int (-1), .int 0, .int 0, .int 0, .int 0, .int 0, .int 0, .ref 221, .ref 222, .ref 223, .ref 224, .int 0, .ref 225, .int 0, .ref 226, .ref 227, .int 0, .ref 228, .ref 229, .ref 230, .ref 231, .ref 232]) rfl e191_58 rfl rfl rfl rfl (fun h59 o59 f59 => ?_)
  have s59 := s58.put f59
  refine s_iinc (y := 18) (lv' := [(2, .int 18), (0, .ref 191), (1, .int 19)]) rfl rfl (by decide) (by decide) rfl ?_
  refine q_goto rfl ?_
  refine q_iload_n rfl rfl ?_
  refine q_iload_n rfl rfl ?_
  refine q_icmp_ge rfl (fun c => absurd c (by decide)) (fun _ => ?_)
  refine q_aload_n rfl rfl ?_
  refine s_get (v := .ref 193) rfl o59 rfl rfl ?_
  refine q_aload_n rfl rfl ?_
  refine s_get (v := .int 18) rfl o59 rfl rfl ?_
  refine q_aload_n rfl rfl ?_
  refine s_get (v := .ref 192) rfl o59 rfl rfl ?_
  refine q_iload_n rfl rfl ?_
  have e192_59 := (f59.ne rfl (f58.ne rfl e192_57))
  refine s_iaload (j := 18) (v := .int 0) rfl e192_59 (by decide) rfl (by first | rfl | decide) ?_
  have e193_59 := (f59.ne rfl o58)
  refine s_iastore (j := 18) rfl e193_59 (by decide) rfl (fun h60 o60 f60 => ?_)
  have s60 := s59.put f60
  refine q_aload_n rfl rfl ?_
  refine q_dup rfl rfl ?_
  have e191_60 := (o59.ne f60 rfl)
  refine s_get (v := .int 18) rfl e191_60 rfl rfl ?_
  refine q_iconst rfl ?_
  refine s_iadd (k := 19) rfl (by decide) ?_
  refine s_put (vs' := [.int 0, .ref 192, .ref 193, .int 19, .ref 194, .ref 195, .ref 196, .ref 197, .ref 198, .ref 199, .ref 200, .ref 201, .ref 202, .ref 203, .ref 204, .ref 205, .int (-1), .int 0, .ref 206, .ref 207, .ref 208, .ref 209, .ref 210, .ref 211, .ref 212, .ref 213, .ref 214, .ref 215, .int 0, .int 0, .int 0, .int 0, .ref 216, .ref 217, .ref 218, .ref 219, .ref 220, .int (-1), .int 0, .int 0, .int 0, .int 0, .int 0, .int 0, .ref 221, .ref 222, .ref 223, .ref 224, .int 0, .ref 225, .int 0, .ref 226, .ref 227, .int 0, .ref 228, .ref 229, .ref 230, .ref 231, .ref 232]) rfl e191_60 rfl rfl rfl rfl (fun h61 o61 f61 => ?_)
  have s61 := s60.put f61
  refine s_iinc (y := 19) (lv' := [(2, .int 19), (0, .ref 191), (1, .int 19)]) rfl rfl (by decide) (by decide) rfl ?_
  refine q_goto rfl ?_
  refine q_iload_n rfl rfl ?_
  refine q_iload_n rfl rfl ?_
  refine q_icmp_ge rfl (fun _ => ?_) (fun c => absurd (by decide) c)
  refine q_iconst rfl ?_
  refine s_istore_n (lv' := [(2, .int 0), (0, .ref 191), (1, .int 19)]) rfl (by decide) rfl ?_
  refine q_iload_n rfl rfl ?_
  refine q_bipush rfl ?_
  refine q_icmp_ge rfl (fun c => absurd c (by decide)) (fun _ => ?_)
  refine q_aload_n rfl rfl ?_
  refine s_get (v := .ref 192) rfl o61 rfl rfl ?_
  refine q_iload_n rfl rfl ?_
  refine q_iconst rfl ?_
  have e192_61 := (f61.ne rfl (f60.ne rfl e192_59))
  refine s_iastore (j := 0) rfl e192_61 (by decide) rfl (fun h62 o62 f62 => ?_)
  have s62 := s61.put f62
  refine s_iinc (y := 1) (lv' := [(2, .int 1), (0, .ref 191), (1, .int 19)]) rfl rfl (by decide) (by decide) rfl ?_
  refine q_goto rfl ?_
  refine q_iload_n rfl rfl ?_
  refine q_bipush rfl ?_
  refine q_icmp_ge rfl (fun c => absurd c (by decide)) (fun _ => ?_)
  refine q_aload_n rfl rfl ?_
  have e191_62 := (o61.ne f62 rfl)
  refine s_get (v := .ref 192) rfl e191_62 rfl rfl ?_
  refine q_iload_n rfl rfl ?_
  refine q_iconst rfl ?_
  refine s_iastore (j := 1) rfl o62 (by decide) rfl (fun h63 o63 f63 => ?_)
  have s63 := s62.put f63
  refine s_iinc (y := 2) (lv' := [(2, .int 2), (0, .ref 191), (1, .int 19)]) rfl rfl (by decide) (by decide) rfl ?_
  refine q_goto rfl ?_
  refine q_iload_n rfl rfl ?_
  refine q_bipush rfl ?_
  refine q_icmp_ge rfl (fun c => absurd c (by decide)) (fun _ => ?_)
  refine q_aload_n rfl rfl ?_
  have e191_63 := (e191_62.ne f63 rfl)
  refine s_get (v := .ref 192) rfl e191_63 rfl rfl ?_
  refine q_iload_n rfl rfl ?_
  refine q_iconst rfl ?_
  refine s_iastore (j := 2) rfl o63 (by decide) rfl (fun h64 o64 f64 => ?_)
  have s64 := s63.put f64
  refine s_iinc (y := 3) (lv' := [(2, .int 3), (0, .ref 191), (1, .int 19)]) rfl rfl (by decide) (by decide) rfl ?_
  refine q_goto rfl ?_
  refine q_iload_n rfl rfl ?_
  refine q_bipush rfl ?_
  refine q_icmp_ge rfl (fun c => absurd c (by decide)) (fun _ => ?_)
  refine q_aload_n rfl rfl ?_
  have e191_64 := (e191_63.ne f64 rfl)
  refine s_get (v := .ref 192) rfl e191_64 rfl rfl ?_
  refine q_iload_n rfl rfl ?_
  refine q_iconst rfl ?_
  refine s_iastore (j := 3) rfl o64 (by decide) rfl (fun h65 o65 f65 => ?_)
  have s65 := s64.put f65
  refine s_iinc (y := 4) (lv' := [(2, .int 4), (0, .ref 191), (1, .int 19)]) rfl rfl (by decide) (by decide) rfl ?_
  refine q_goto rfl ?_
  refine q_iload_n rfl rfl ?_
  refine q_bipush rfl ?_
  refine q_icmp_ge rfl (fun c => absurd c (by decide)) (fun _ => ?_)
  refine q_aload_n rfl rfl ?_
  have e191_65 := (e191_64.ne f65 rfl)
  refine s_get (v := .ref 192) rfl e191_65 rfl rfl ?_
  refine q_iload_n rfl rfl ?_
  refine q_iconst rfl ?_
  refine s_iastore (j := 4) rfl o65 (by decide) rfl (fun h66 o66 f66 => ?_)
  have s66 := s65.put f66
  refine s_iinc (y := 5) (lv' := [(2, .int 5), (0, .ref 191), (1, .int 19)]) rfl rfl (by decide) (by decide) rfl ?_
  refine q_goto rfl ?_
  refine q_iload_n rfl rfl ?_
  refine q_bipush rfl ?_
  refine q_icmp_ge rfl (fun c => absurd c (by decide)) (fun _ => ?_)
  refine q_aload_n rfl rfl ?_
  have e191_66 := (e191_65.ne f66 rfl)
  refine s_get (v := .ref 192) rfl e191_66 rfl rfl ?_
  refine q_iload_n rfl rfl ?_
  refine q_iconst rfl ?_
  refine s_iastore (j := 5) rfl o66 (by decide) rfl (fun h67 o67 f67 => ?_)
  have s67 := s66.put f67
  refine s_iinc (y := 6) (lv' := [(2, .int 6), (0, .ref 191), (1, .int 19)]) rfl rfl (by decide) (by decide) rfl ?_
  refine q_goto rfl ?_
  refine q_iload_n rfl rfl ?_
  refine q_bipush rfl ?_
  refine q_icmp_ge rfl (fun c => absurd c (by decide)) (fun _ => ?_)
  refine q_aload_n rfl rfl ?_
  have e191_67 := (e191_66.ne f67 rfl)
  refine s_get (v := .ref 192) rfl e191_67 rfl rfl ?_
  refine q_iload_n rfl rfl ?_
  refine q_iconst rfl ?_
  refine s_iastore (j := 6) rfl o67 (by decide) rfl (fun h68 o68 f68 => ?_)
  have s68 := s67.put f68
  refine s_iinc (y := 7) (lv' := [(2, .int 7), (0, .ref 191), (1, .int 19)]) rfl rfl (by decide) (by decide) rfl ?_
  refine q_goto rfl ?_
  refine q_iload_n rfl rfl ?_
  refine q_bipush rfl ?_
  refine q_icmp_ge rfl (fun c => absurd c (by decide)) (fun _ => ?_)
  refine q_aload_n rfl rfl ?_
  have e191_68 := (e191_67.ne f68 rfl)
  refine s_get (v := .ref 192) rfl e191_68 rfl rfl ?_
  refine q_iload_n rfl rfl ?_
  refine q_iconst rfl ?_
  refine s_iastore (j := 7) rfl o68 (by decide) rfl (fun h69 o69 f69 => ?_)
  have s69 := s68.put f69
  refine s_iinc (y := 8) (lv' := [(2, .int 8), (0, .ref 191), (1, .int 19)]) rfl rfl (by decide) (by decide) rfl ?_
  refine q_goto rfl ?_
  refine q_iload_n rfl rfl ?_
  refine q_bipush rfl ?_
  refine q_icmp_ge rfl (fun c => absurd c (by decide)) (fun _ => ?_)
  refine q_aload_n rfl rfl ?_
  have e191_69 := (e191_68.ne f69 rfl)
  refine s_get (v := .ref 192) rfl e191_69 rfl rfl ?_
  refine q_iload_n rfl rfl ?_
  refine q_iconst rfl ?_
  refine s_iastore (j := 8) rfl o69 (by decide) rfl (fun h70 o70 f70 => ?_)
  have s70 := s69.put f70
  refine s_iinc (y := 9) (lv' := [(2, .int 9), (0, .ref 191), (1, .int 19)]) rfl rfl (by decide) (by decide) rfl ?_
  refine q_goto rfl ?_
  refine q_iload_n rfl rfl ?_
  refine q_bipush rfl ?_
  refine q_icmp_ge rfl (fun c => absurd c (by decide)) (fun _ => ?_)
  refine q_aload_n rfl rfl ?_
  have e191_70 := (e191_69.ne f70 rfl)
  refine s_get (v := .ref 192) rfl e191_70 rfl rfl ?_
  refine q_iload_n rfl rfl ?_
  refine q_iconst rfl ?_
  refine s_iastore (j := 9) rfl o70 (by decide) rfl (fun h71 o71 f71 => ?_)
  have s71 := s70.put f71
  refine s_iinc (y := 10) (lv' := [(2, .int 10), (0, .ref 191), (1, .int 19)]) rfl rfl (by decide) (by decide) rfl ?_
  refine q_goto rfl ?_
  refine q_iload_n rfl rfl ?_
  refine q_bipush rfl ?_
  refine q_icmp_ge rfl (fun c => absurd c (by decide)) (fun _ => ?_)
  refine q_aload_n rfl rfl ?_
  have e191_71 := (e191_70.ne f71 rfl)
  refine s_get (v := .ref 192) rfl e191_71 rfl rfl ?_
  refine q_iload_n rfl rfl ?_
  refine q_iconst rfl ?_
  refine s_iastore (j := 10) rfl o71 (by decide) rfl (fun h72 o72 f72 => ?_)
  have s72 := s71.put f72
  refine s_iinc (y := 11) (lv' := [(2, .int 11), (0, .ref 191), (1, .int 19)]) rfl rfl (by decide) (by decide) rfl ?_
  refine q_goto rfl ?_
  refine q_iload_n rfl rfl ?_
  refine q_bipush rfl ?_
  refine q_icmp_ge rfl (fun c => absurd c (by decide)) (fun _ => ?_)
  refine q_aload_n rfl rfl ?_
  have e191_72 := (e191_71.ne f72 rfl)
  refine s_get (v := .ref 192) rfl e191_72 rfl rfl ?_
  refine q_iload_n rfl rfl ?_
  refine q_iconst rfl ?_
  refine s_iastore (j := 11) rfl o72 (by decide) rfl (fun h73 o73 f73 => ?_)
  have s73 := s72.put f73
  refine s_iinc (y := 12) (lv' := [(2, .int 12), (0, .ref 191), (1, .int 19)]) rfl rfl (by decide) (by decide) rfl ?_
  refine q_goto rfl ?_
  refine q_iload_n rfl rfl ?_
  refine q_bipush rfl ?_
  refine q_icmp_ge rfl (fun c => absurd c (by decide)) (fun _ => ?_)
  refine q_aload_n rfl rfl ?_
  have e191_73 := (e191_72.ne f73 rfl)
  refine s_get (v := .ref 192) rfl e191_73 rfl rfl ?_
  refine q_iload_n rfl rfl ?_
  refine q_iconst rfl ?_
  refine s_iastore (j := 12) rfl o73 (by decide) rfl (fun h74 o74 f74 => ?_)
  have s74 := s73.put f74
  refine s_iinc (y := 13) (lv' := [(2, .int 13), (0, .ref 191), (1, .int 19)]) rfl rfl (by decide) (by decide) rfl ?_
  refine q_goto rfl ?_
  refine q_iload_n rfl rfl ?_
  refine q_bipush rfl ?_
  refine q_icmp_ge rfl (fun c => absurd c (by decide)) (fun _ => ?_)
  refine q_aload_n rfl rfl ?_
  have e191_74 := (e191_73.ne f74 rfl)
  refine s_get (v := .ref 192) rfl e191_74 rfl rfl ?_
  refine q_iload_n rfl rfl ?_
  refine q_iconst rfl ?_
  refine s_iastore (j := 13) rfl o74 (by decide) rfl (fun h75 o75 f75 => ?_)
  have s75 := s74.put f75
  refine s_iinc (y := 14) (lv' := [(2, .int 14), (0, .ref 191), (1, .int 19)]) rfl rfl (by decide) (by decide) rfl ?_
  refine q_goto rfl ?_
  refine q_iload_n rfl rfl ?_
  refine q_bipush rfl ?_
  refine q_icmp_ge rfl (fun c => absurd c (by decide)) (fun _ => ?_)
  refine q_aload_n rfl rfl ?_
  have e191_75 := (e191_74.ne f75 rfl)
  refine s_get (v := .ref 192) rfl e191_75 rfl rfl ?_
  refine q_iload_n rfl rfl ?_
  refine q_iconst rfl ?_
  refine s_iastore (j := 14) rfl o75 (by decide) rfl (fun h76 o76 f76 => ?_)
  have s76 := s75.put f76
  refine s_iinc (y := 15) (lv' := [(2, .int 15), (0, .ref 191), (1, .int 19)]) rfl rfl (by decide) (by decide) rfl ?_
  refine q_goto rfl ?_
  refine q_iload_n rfl rfl ?_
  refine q_bipush rfl ?_
  refine q_icmp_ge rfl (fun c => absurd c (by decide)) (fun _ => ?_)
  refine q_aload_n rfl rfl ?_
  have e191_76 := (e191_75.ne f76 rfl)
  refine s_get (v := .ref 192) rfl e191_76 rfl rfl ?_
  refine q_iload_n rfl rfl ?_
  refine q_iconst rfl ?_
  refine s_iastore (j := 15) rfl o76 (by decide) rfl (fun h77 o77 f77 => ?_)
  have s77 := s76.put f77
  refine s_iinc (y := 16) (lv' := [(2, .int 16), (0, .ref 191), (1, .int 19)]) rfl rfl (by decide) (by decide) rfl ?_
  refine q_goto rfl ?_
  refine q_iload_n rfl rfl ?_
  refine q_bipush rfl ?_
  refine q_icmp_ge rfl (fun c => absurd c (by decide)) (fun _ => ?_)
  refine q_aload_n rfl rfl ?_
  have e191_77 := (e191_76.ne f77 rfl)
  refine s_get (v := .ref 192) rfl e191_77 rfl rfl ?_
  refine q_iload_n rfl rfl ?_
  refine q_iconst rfl ?_
  refine s_iastore (j := 16) rfl o77 (by decide) rfl (fun h78 o78 f78 => ?_)
  have s78 := s77.put f78
  refine s_iinc (y := 17) (lv' := [(2, .int 17), (0, .ref 191), (1, .int 19)]) rfl rfl (by decide) (by decide) rfl ?_
  refine q_goto rfl ?_
  refine q_iload_n rfl rfl ?_
  refine q_bipush rfl ?_
  refine q_icmp_ge rfl (fun c => absurd c (by decide)) (fun _ => ?_)
  refine q_aload_n rfl rfl ?_
  have e191_78 := (e191_77.ne f78 rfl)
  refine s_get (v := .ref 192) rfl e191_78 rfl rfl ?_
  refine q_iload_n rfl rfl ?_
  refine q_iconst rfl ?_
  refine s_iastore (j := 17) rfl o78 (by decide) rfl (fun h79 o79 f79 => ?_)
  have s79 := s78.put f79
  refine s_iinc (y := 18) (lv' := [(2, .int 18), (0, .ref 191), (1, .int 19)]) rfl rfl (by decide) (by decide) rfl ?_
  refine q_goto rfl ?_
  refine q_iload_n rfl rfl ?_
  refine q_bipush rfl ?_
  refine q_icmp_ge rfl (fun c => absurd c (by decide)) (fun _ => ?_)
  refine q_aload_n rfl rfl ?_
  have e191_79 := (e191_78.ne f79 rfl)
  refine s_get (v := .ref 192) rfl e191_79 rfl rfl ?_
  refine q_iload_n rfl rfl ?_
  refine q_iconst rfl ?_
  refine s_iastore (j := 18) rfl o79 (by decide) rfl (fun h80 o80 f80 => ?_)
  have s80 := s79.put f80
  refine s_iinc (y := 19) (lv' := [(2, .int 19), (0, .ref 191), (1, .int 19)]) rfl rfl (by decide) (by decide) rfl ?_
  refine q_goto rfl ?_
  refine q_iload_n rfl rfl ?_
  refine q_bipush rfl ?_
  refine q_icmp_ge rfl (fun c => absurd c (by decide)) (fun _ => ?_)
  refine q_aload_n rfl rfl ?_
  have e191_80 := (e191_79.ne f80 rfl)
  refine s_get (v := .ref 192) rfl e191_80 rfl rfl ?_
  refine q_iload_n rfl rfl ?_
  refine q_iconst rfl ?_
  refine s_iastore (j := 19) rfl o80 (by decide) rfl (fun h81 o81 f81 => ?_)
  have s81 := s80.put f81
  refine s_iinc (y := 20) (lv' := [(2, .int 20), (0, .ref 191), (1, .int 19)]) rfl rfl (by decide) (by decide) rfl ?_
  refine q_goto rfl ?_
  refine q_iload_n rfl rfl ?_
  refine q_bipush rfl ?_
  refine q_icmp_ge rfl (fun _ => ?_) (fun c => absurd (by decide) c)
  refine q_aload_n rfl rfl ?_
  have e191_81 := (e191_80.ne f81 rfl)
  refine s_get (v := .int 19) rfl e191_81 rfl rfl ?_
  refine q_ireturn rfl rfl ?_
  show aW aiP 0 17 658 243 [(4, .int 0), (3, .ref 233), (2, .ref 191), (1, .ref 6), (0, .ref 0)] [.int 19, .int 19] h81 _
  refine q_icmp_eq rfl (fun _ => ?_) (fun c => absurd (by decide) c)
  refine s_iinc (y := 6) (lv' := [(4, .int 6), (3, .ref 233), (2, .ref 191), (1, .ref 6), (0, .ref 0)]) rfl rfl (by decide) (by decide) rfl ?_
  refine q_goto rfl ?_
  refine q_iload rfl rfl ?_
  refine q_aload_n rfl rfl ?_
  have e0_81 := (f81.ne rfl (f80.ne rfl (f79.ne rfl (f78.ne rfl (f77.ne rfl (f76.ne rfl (f75.ne rfl (f74.ne rfl (f73.ne rfl (f72.ne rfl (f71.ne rfl (f70.ne rfl (f69.ne rfl (f68.ne rfl (f67.ne rfl (f66.ne rfl (f65.ne rfl (f64.ne rfl (f63.ne rfl (f62.ne rfl (f61.ne rfl (f60.ne rfl (f59.ne rfl (f58.ne rfl (f57.ne rfl (f56.ne rfl (f55.ne rfl (f54.ne rfl (f53.ne rfl (f52.ne rfl (f51.ne rfl (f50.ne rfl (f49.ne rfl (f48.ne rfl (f47.ne rfl (f46.ne rfl (f45.ne rfl (f44.ne rfl (f43.ne rfl (f42.ne rfl (f41.ne rfl (f40.ne rfl (f39.ne rfl (f38.ne rfl (f37.ne rfl (f36.ne rfl (f35.ne rfl (f34.ne rfl (f33.ne rfl (f32.ne rfl (f31.ne rfl (f30.ne rfl (f29.ne rfl (f28.ne rfl (f27.ne rfl (f26.ne rfl (f25.ne rfl (f24.ne rfl (f23.ne rfl e0_22)))))))))))))))))))))))))))))))))))))))))))))))))))))))))))
  refine s_alen (x := 6) rfl e0_81 rfl (by decide) ?_
  refine q_bipush rfl ?_
  refine s_isub (k := 0) rfl (by decide) ?_
  refine q_icmp_gt rfl (fun _ => ?_) (fun c => absurd (by decide) c)
  refine q_iconst rfl ?_
  refine q_ireturn rfl rfl ?_
  exact ⟨rfl, s81.bd rfl⟩
set_option maxRecDepth 20000 in
set_option maxHeartbeats 4000000 in
theorem p_case1_20 {xs : Nat → Int32} {h : ai_H} (F : Fresh 6 xs h) (hk : xs 0 &&& 31 = 1) (hw : xs 1 = 20) : aW aiP 0 17 658 33 [(4, .int 0), (3, .ref 233), (2, .ref 191), (1, .ref 6), (0, .ref 0)] [] h p_Q := by
  obtain ⟨e0, e1, ⟨g2, e2⟩, ⟨g3, e3⟩, ⟨g4, e4⟩, e5, e6, e7, e8, e9, e51, e93, e135, e177, e178, e179, e180, e181, e182, e183, e184, e185, e186, e187, e188, e189, e190, e191, e192, e193, e194, e195, e196, e197, e198, e199, e200, e201, e202, e203, e204, e205, e206, e207, e208, e209, e210, e211, e212, e213, e214, e215, e216, e217, e218, e219, e220, e221, e222, e223, e224, e225, e226, e227, ⟨g228, e228⟩, ⟨g229, e229⟩, e230, e231, e232, e233, s0⟩ := F
  refine q_aload_n rfl rfl ?_
  refine q_iload rfl rfl ?_
  refine s_iaload (j := 0) (v := .int (xs 0)) rfl e0 (by decide) rfl (by first | rfl | decide) ?_
  refine q_bipush rfl ?_
  refine s_iand (k := ((xs 0) &&& (31 : Int32))) rfl rfl ?_
  rw [hk]
  show aW aiP 0 17 658 40 [(4, .int 0), (3, .ref 233), (2, .ref 191), (1, .ref 6), (0, .ref 0)] [.int 1] h _
  refine s_sw (tg := 223) rfl rfl ?_
  refine q_aload_n rfl rfl ?_
  refine q_aload_n rfl rfl ?_
  refine q_iload rfl rfl ?_
  refine q_iconst rfl ?_
  refine s_iadd (k := 1) rfl (by decide) ?_
  refine s_iaload (j := 1) (v := .int (xs 1)) rfl e0 (by decide) rfl (by first | rfl | decide) ?_
  rw [hw]
  refine s_callV (as := [.int 20]) (rest := []) (d' := 16) (w' := 637) (lv' := [(0, .ref 6), (1, .int 20)]) rfl e6 rfl rfl rfl rfl rfl rfl ?_
  refine q_iload_n rfl rfl ?_
  refine q_if_lt rfl (fun c => absurd c (by decide)) (fun _ => ?_)
  refine q_iload_n rfl rfl ?_
  refine q_bipush rfl ?_
  refine q_icmp_gt rfl (fun c => absurd c (by decide)) (fun _ => ?_)
  refine q_aload_n rfl rfl ?_
  refine s_get (v := .int 0) rfl e6 rfl rfl ?_
  refine q_iload_n rfl rfl ?_
  refine s_iadd (k := 20) rfl (by decide) ?_
  refine q_sipush rfl ?_
  refine q_icmp_le rfl (fun _ => ?_) (fun c => absurd (by decide) c)
  refine q_aload_n rfl rfl ?_
  refine s_get (v := .ref 7) rfl e6 rfl rfl ?_
  refine q_iconst rfl ?_
  refine q_aload_n rfl rfl ?_
  refine s_get (v := .ref 8) rfl e6 rfl rfl ?_
  refine q_aload_n rfl rfl ?_
  refine s_get (v := .int 0) rfl e6 rfl rfl ?_
  refine q_iload_n rfl rfl ?_
  refine s_copy (sp := 0) (dp := 0) (k := 20) rfl e7 e8 (by decide) (by decide) (by decide) rfl (by decide) (by decide) (by decide) (fun i _ => rfl) (fun h1 o1 f1 => ?_)
  have s1 := s0.put f1
  refine q_aload_n rfl rfl ?_
  refine q_dup rfl rfl ?_
  have e6_1 := (e6.ne f1 rfl)
  refine s_get (v := .int 0) rfl e6_1 rfl rfl ?_
  refine q_iload_n rfl rfl ?_
  refine s_iadd (k := 20) rfl (by decide) ?_
  refine s_put (vs' := [.ref 7, .ref 8, .int 20, .ref 9, .int (-1), .ref 51, .ref 93, .ref 135, .ref 177, .ref 180, .int 0, .ref 183, .ref 186, .ref 189]) rfl e6_1 rfl rfl rfl rfl (fun h2 o2 f2 => ?_)
  have s2 := s1.put f2
  refine q_aload_n rfl rfl ?_
  refine s_get (v := .ref 7) rfl o2 rfl rfl ?_
  refine q_iconst rfl ?_
  refine s_callS (as := [.ref 7, .int 0]) (rest := []) (d' := 15) (w' := 614) (lv' := [(0, .ref 7), (1, .int 0)]) rfl rfl rfl rfl rfl rfl rfl rfl ?_
  refine q_iconst rfl ?_
  refine s_istore_n (lv' := [(2, .int 0), (0, .ref 7), (1, .int 0)]) rfl (by decide) rfl ?_
  refine q_aload_n rfl rfl ?_
  have e7_2 := (f2.ne rfl (f1.ne rfl e7))
  refine s_alen (x := 20) rfl e7_2 rfl (by decide) ?_
  refine s_istore_n (lv' := [(3, .int 20), (2, .int 0), (0, .ref 7), (1, .int 0)]) rfl (by decide) rfl ?_
  refine q_iload_n rfl rfl ?_
  refine q_iload_n rfl rfl ?_
  refine q_icmp_ge rfl (fun c => absurd c (by decide)) (fun _ => ?_)
  refine q_aload_n rfl rfl ?_
  refine q_iload_n rfl rfl ?_
  refine q_iload_n rfl rfl ?_
  refine s_bastore (j := 0) rfl e7_2 (by decide) rfl (fun h3 o3 f3 => ?_)
  have s3 := s2.put f3
  refine s_iinc (y := 1) (lv' := [(2, .int 1), (3, .int 20), (0, .ref 7), (1, .int 0)]) rfl rfl (by decide) (by decide) rfl ?_
  refine q_goto rfl ?_
  refine q_iload_n rfl rfl ?_
  refine q_iload_n rfl rfl ?_
  refine q_icmp_ge rfl (fun c => absurd c (by decide)) (fun _ => ?_)
  refine q_aload_n rfl rfl ?_
  refine q_iload_n rfl rfl ?_
  refine q_iload_n rfl rfl ?_
  refine s_bastore (j := 1) rfl o3 (by decide) rfl (fun h4 o4 f4 => ?_)
  have s4 := s3.put f4
  refine s_iinc (y := 2) (lv' := [(2, .int 2), (3, .int 20), (0, .ref 7), (1, .int 0)]) rfl rfl (by decide) (by decide) rfl ?_
  refine q_goto rfl ?_
  refine q_iload_n rfl rfl ?_
  refine q_iload_n rfl rfl ?_
  refine q_icmp_ge rfl (fun c => absurd c (by decide)) (fun _ => ?_)
  refine q_aload_n rfl rfl ?_
  refine q_iload_n rfl rfl ?_
  refine q_iload_n rfl rfl ?_
  refine s_bastore (j := 2) rfl o4 (by decide) rfl (fun h5 o5 f5 => ?_)
  have s5 := s4.put f5
  refine s_iinc (y := 3) (lv' := [(2, .int 3), (3, .int 20), (0, .ref 7), (1, .int 0)]) rfl rfl (by decide) (by decide) rfl ?_
  refine q_goto rfl ?_
  refine q_iload_n rfl rfl ?_
  refine q_iload_n rfl rfl ?_
  refine q_icmp_ge rfl (fun c => absurd c (by decide)) (fun _ => ?_)
  refine q_aload_n rfl rfl ?_
  refine q_iload_n rfl rfl ?_
  refine q_iload_n rfl rfl ?_
  refine s_bastore (j := 3) rfl o5 (by decide) rfl (fun h6 o6 f6 => ?_)
  have s6 := s5.put f6
  refine s_iinc (y := 4) (lv' := [(2, .int 4), (3, .int 20), (0, .ref 7), (1, .int 0)]) rfl rfl (by decide) (by decide) rfl ?_
  refine q_goto rfl ?_
  refine q_iload_n rfl rfl ?_
  refine q_iload_n rfl rfl ?_
  refine q_icmp_ge rfl (fun c => absurd c (by decide)) (fun _ => ?_)
  refine q_aload_n rfl rfl ?_
  refine q_iload_n rfl rfl ?_
  refine q_iload_n rfl rfl ?_
  refine s_bastore (j := 4) rfl o6 (by decide) rfl (fun h7 o7 f7 => ?_)
  have s7 := s6.put f7
  refine s_iinc (y := 5) (lv' := [(2, .int 5), (3, .int 20), (0, .ref 7), (1, .int 0)]) rfl rfl (by decide) (by decide) rfl ?_
  refine q_goto rfl ?_
  refine q_iload_n rfl rfl ?_
  refine q_iload_n rfl rfl ?_
  refine q_icmp_ge rfl (fun c => absurd c (by decide)) (fun _ => ?_)
  refine q_aload_n rfl rfl ?_
  refine q_iload_n rfl rfl ?_
  refine q_iload_n rfl rfl ?_
  refine s_bastore (j := 5) rfl o7 (by decide) rfl (fun h8 o8 f8 => ?_)
  have s8 := s7.put f8
  refine s_iinc (y := 6) (lv' := [(2, .int 6), (3, .int 20), (0, .ref 7), (1, .int 0)]) rfl rfl (by decide) (by decide) rfl ?_
  refine q_goto rfl ?_
  refine q_iload_n rfl rfl ?_
  refine q_iload_n rfl rfl ?_
  refine q_icmp_ge rfl (fun c => absurd c (by decide)) (fun _ => ?_)
  refine q_aload_n rfl rfl ?_
  refine q_iload_n rfl rfl ?_
  refine q_iload_n rfl rfl ?_
  refine s_bastore (j := 6) rfl o8 (by decide) rfl (fun h9 o9 f9 => ?_)
  have s9 := s8.put f9
  refine s_iinc (y := 7) (lv' := [(2, .int 7), (3, .int 20), (0, .ref 7), (1, .int 0)]) rfl rfl (by decide) (by decide) rfl ?_
  refine q_goto rfl ?_
  refine q_iload_n rfl rfl ?_
  refine q_iload_n rfl rfl ?_
  refine q_icmp_ge rfl (fun c => absurd c (by decide)) (fun _ => ?_)
  refine q_aload_n rfl rfl ?_
  refine q_iload_n rfl rfl ?_
  refine q_iload_n rfl rfl ?_
  refine s_bastore (j := 7) rfl o9 (by decide) rfl (fun h10 o10 f10 => ?_)
  have s10 := s9.put f10
  refine s_iinc (y := 8) (lv' := [(2, .int 8), (3, .int 20), (0, .ref 7), (1, .int 0)]) rfl rfl (by decide) (by decide) rfl ?_
  refine q_goto rfl ?_
  refine q_iload_n rfl rfl ?_
  refine q_iload_n rfl rfl ?_
  refine q_icmp_ge rfl (fun c => absurd c (by decide)) (fun _ => ?_)
  refine q_aload_n rfl rfl ?_
  refine q_iload_n rfl rfl ?_
  refine q_iload_n rfl rfl ?_
  refine s_bastore (j := 8) rfl o10 (by decide) rfl (fun h11 o11 f11 => ?_)
  have s11 := s10.put f11
  refine s_iinc (y := 9) (lv' := [(2, .int 9), (3, .int 20), (0, .ref 7), (1, .int 0)]) rfl rfl (by decide) (by decide) rfl ?_
  refine q_goto rfl ?_
  refine q_iload_n rfl rfl ?_
  refine q_iload_n rfl rfl ?_
  refine q_icmp_ge rfl (fun c => absurd c (by decide)) (fun _ => ?_)
  refine q_aload_n rfl rfl ?_
  refine q_iload_n rfl rfl ?_
  refine q_iload_n rfl rfl ?_
  refine s_bastore (j := 9) rfl o11 (by decide) rfl (fun h12 o12 f12 => ?_)
  have s12 := s11.put f12
  refine s_iinc (y := 10) (lv' := [(2, .int 10), (3, .int 20), (0, .ref 7), (1, .int 0)]) rfl rfl (by decide) (by decide) rfl ?_
  refine q_goto rfl ?_
  refine q_iload_n rfl rfl ?_
  refine q_iload_n rfl rfl ?_
  refine q_icmp_ge rfl (fun c => absurd c (by decide)) (fun _ => ?_)
  refine q_aload_n rfl rfl ?_
  refine q_iload_n rfl rfl ?_
  refine q_iload_n rfl rfl ?_
  refine s_bastore (j := 10) rfl o12 (by decide) rfl (fun h13 o13 f13 => ?_)
  have s13 := s12.put f13
  refine s_iinc (y := 11) (lv' := [(2, .int 11), (3, .int 20), (0, .ref 7), (1, .int 0)]) rfl rfl (by decide) (by decide) rfl ?_
  refine q_goto rfl ?_
  refine q_iload_n rfl rfl ?_
  refine q_iload_n rfl rfl ?_
  refine q_icmp_ge rfl (fun c => absurd c (by decide)) (fun _ => ?_)
  refine q_aload_n rfl rfl ?_
  refine q_iload_n rfl rfl ?_
  refine q_iload_n rfl rfl ?_
  refine s_bastore (j := 11) rfl o13 (by decide) rfl (fun h14 o14 f14 => ?_)
  have s14 := s13.put f14
  refine s_iinc (y := 12) (lv' := [(2, .int 12), (3, .int 20), (0, .ref 7), (1, .int 0)]) rfl rfl (by decide) (by decide) rfl ?_
  refine q_goto rfl ?_
  refine q_iload_n rfl rfl ?_
  refine q_iload_n rfl rfl ?_
  refine q_icmp_ge rfl (fun c => absurd c (by decide)) (fun _ => ?_)
  refine q_aload_n rfl rfl ?_
  refine q_iload_n rfl rfl ?_
  refine q_iload_n rfl rfl ?_
  refine s_bastore (j := 12) rfl o14 (by decide) rfl (fun h15 o15 f15 => ?_)
  have s15 := s14.put f15
  refine s_iinc (y := 13) (lv' := [(2, .int 13), (3, .int 20), (0, .ref 7), (1, .int 0)]) rfl rfl (by decide) (by decide) rfl ?_
  refine q_goto rfl ?_
  refine q_iload_n rfl rfl ?_
  refine q_iload_n rfl rfl ?_
  refine q_icmp_ge rfl (fun c => absurd c (by decide)) (fun _ => ?_)
  refine q_aload_n rfl rfl ?_
  refine q_iload_n rfl rfl ?_
  refine q_iload_n rfl rfl ?_
  refine s_bastore (j := 13) rfl o15 (by decide) rfl (fun h16 o16 f16 => ?_)
  have s16 := s15.put f16
  refine s_iinc (y := 14) (lv' := [(2, .int 14), (3, .int 20), (0, .ref 7), (1, .int 0)]) rfl rfl (by decide) (by decide) rfl ?_
  refine q_goto rfl ?_
  refine q_iload_n rfl rfl ?_
  refine q_iload_n rfl rfl ?_
  refine q_icmp_ge rfl (fun c => absurd c (by decide)) (fun _ => ?_)
  refine q_aload_n rfl rfl ?_
  refine q_iload_n rfl rfl ?_
  refine q_iload_n rfl rfl ?_
  refine s_bastore (j := 14) rfl o16 (by decide) rfl (fun h17 o17 f17 => ?_)
  have s17 := s16.put f17
  refine s_iinc (y := 15) (lv' := [(2, .int 15), (3, .int 20), (0, .ref 7), (1, .int 0)]) rfl rfl (by decide) (by decide) rfl ?_
  refine q_goto rfl ?_
  refine q_iload_n rfl rfl ?_
  refine q_iload_n rfl rfl ?_
  refine q_icmp_ge rfl (fun c => absurd c (by decide)) (fun _ => ?_)
  refine q_aload_n rfl rfl ?_
  refine q_iload_n rfl rfl ?_
  refine q_iload_n rfl rfl ?_
  refine s_bastore (j := 15) rfl o17 (by decide) rfl (fun h18 o18 f18 => ?_)
  have s18 := s17.put f18
  refine s_iinc (y := 16) (lv' := [(2, .int 16), (3, .int 20), (0, .ref 7), (1, .int 0)]) rfl rfl (by decide) (by decide) rfl ?_
  refine q_goto rfl ?_
  refine q_iload_n rfl rfl ?_
  refine q_iload_n rfl rfl ?_
  refine q_icmp_ge rfl (fun c => absurd c (by decide)) (fun _ => ?_)
  refine q_aload_n rfl rfl ?_
  refine q_iload_n rfl rfl ?_
  refine q_iload_n rfl rfl ?_
  refine s_bastore (j := 16) rfl o18 (by decide) rfl (fun h19 o19 f19 => ?_)
  have s19 := s18.put f19
  refine s_iinc (y := 17) (lv' := [(2, .int 17), (3, .int 20), (0, .ref 7), (1, .int 0)]) rfl rfl (by decide) (by decide) rfl ?_
  refine q_goto rfl ?_
  refine q_iload_n rfl rfl ?_
  refine q_iload_n rfl rfl ?_
  refine q_icmp_ge rfl (fun c => absurd c (by decide)) (fun _ => ?_)
  refine q_aload_n rfl rfl ?_
  refine q_iload_n rfl rfl ?_
  refine q_iload_n rfl rfl ?_
  refine s_bastore (j := 17) rfl o19 (by decide) rfl (fun h20 o20 f20 => ?_)
  have s20 := s19.put f20
  refine s_iinc (y := 18) (lv' := [(2, .int 18), (3, .int 20), (0, .ref 7), (1, .int 0)]) rfl rfl (by decide) (by decide) rfl ?_
  refine q_goto rfl ?_
  refine q_iload_n rfl rfl ?_
  refine q_iload_n rfl rfl ?_
  refine q_icmp_ge rfl (fun c => absurd c (by decide)) (fun _ => ?_)
  refine q_aload_n rfl rfl ?_
  refine q_iload_n rfl rfl ?_
  refine q_iload_n rfl rfl ?_
  refine s_bastore (j := 18) rfl o20 (by decide) rfl (fun h21 o21 f21 => ?_)
  have s21 := s20.put f21
  refine s_iinc (y := 19) (lv' := [(2, .int 19), (3, .int 20), (0, .ref 7), (1, .int 0)]) rfl rfl (by decide) (by decide) rfl ?_
  refine q_goto rfl ?_
  refine q_iload_n rfl rfl ?_
  refine q_iload_n rfl rfl ?_
  refine q_icmp_ge rfl (fun c => absurd c (by decide)) (fun _ => ?_)
  refine q_aload_n rfl rfl ?_
  refine q_iload_n rfl rfl ?_
  refine q_iload_n rfl rfl ?_
  refine s_bastore (j := 19) rfl o21 (by decide) rfl (fun h22 o22 f22 => ?_)
  have s22 := s21.put f22
  refine s_iinc (y := 20) (lv' := [(2, .int 20), (3, .int 20), (0, .ref 7), (1, .int 0)]) rfl rfl (by decide) (by decide) rfl ?_
  refine q_goto rfl ?_
  refine q_iload_n rfl rfl ?_
  refine q_iload_n rfl rfl ?_
  refine q_icmp_ge rfl (fun _ => ?_) (fun c => absurd (by decide) c)
  refine q_return rfl rfl ?_
  show aW aiP 15 16 637 59 [(0, .ref 6), (1, .int 20)] [] h22 _
  refine q_aload_n rfl rfl ?_
  have e6_22 := ((((((((((((((((((((o2.ne f3 rfl).ne f4 rfl).ne f5 rfl).ne f6 rfl).ne f7 rfl).ne f8 rfl).ne f9 rfl).ne f10 rfl).ne f11 rfl).ne f12 rfl).ne f13 rfl).ne f14 rfl).ne f15 rfl).ne f16 rfl).ne f17 rfl).ne f18 rfl).ne f19 rfl).ne f20 rfl).ne f21 rfl).ne f22 rfl)
  refine s_get (v := .int 20) rfl e6_22 rfl rfl ?_
  refine q_ireturn rfl rfl ?_
  show aW aiP 0 17 658 233 [(4, .int 0), (3, .ref 233), (2, .ref 191), (1, .ref 6), (0, .ref 0)] [.int 20] h22 _
  refine q_aload_n rfl rfl ?_
  refine q_aload_n rfl rfl ?_
  refine q_iload rfl rfl ?_
  refine q_iconst rfl ?_
  refine s_iadd (k := 1) rfl (by decide) ?_
  have e0_22 := (f22.ne rfl (f21.ne rfl (f20.ne rfl (f19.ne rfl (f18.ne rfl (f17.ne rfl (f16.ne rfl (f15.ne rfl (f14.ne rfl (f13.ne rfl (f12.ne rfl (f11.ne rfl (f10.ne rfl (f9.ne rfl (f8.ne rfl (f7.ne rfl (f6.ne rfl (f5.ne rfl (f4.ne rfl (f3.ne rfl (f2.ne rfl (f1.ne rfl e0))))))))))))))))))))))
  refine s_iaload (j := 1) (v := .int (xs 1)) rfl e0_22 (by decide) rfl (by first | rfl | decide) ?_
  rw [hw]
  have e191_22 := ((((((((((((((((((((((e191.ne f1 rfl).ne f2 rfl).ne f3 rfl).ne f4 rfl).ne f5 rfl).ne f6 rfl).ne f7 rfl).ne f8 rfl).ne f9 rfl).ne f10 rfl).ne f11 rfl).ne f12 rfl).ne f13 rfl).ne f14 rfl).ne f15 rfl).ne f16 rfl).ne f17 rfl).ne f18 rfl).ne f19 rfl).ne f20 rfl).ne f21 rfl).ne f22 rfl)
  refine s_callV (as := [.int 20]) (rest := [.int 20]) (d' := 16) (w' := 636) (lv' := [(0, .ref 191), (1, .int 20)]) rfl e191_22 rfl rfl rfl rfl rfl rfl ?_
  refine q_aload_n rfl rfl ?_
  refine q_iconst rfl ?_
  refine s_put (vs' := [.int 0, .ref 192, .ref 193, .int 0, .ref 194, .ref 195, .ref 196, .ref 197, .ref 198, .ref 199, .ref 200, .ref 201, .ref 202, .ref 203, .ref 204, .ref 205, .int (-1), .int 0, .ref 206, .ref 207, .ref 208, .ref 209, .ref 210, .ref 211, .ref 212, .ref 213, .ref 214, .ref 215, .int 0, .int 0, .int 0, .int 0, .ref 216, .ref 217, .ref 218, .ref 219, .ref 220, .int (-1), .int 0, .int 0, .int 0, .int 0, .int 0, .int 0, .ref 221, .ref 222, .ref 223, .ref 224, .int 0, .ref 225, .int 0, .ref 226, .ref 227, .int 0, .ref 228, .ref 229, .ref 230, .ref 231, .ref 232]) rfl e191_22 rfl rfl rfl rfl (fun h23 o23 f23 => ?_)
  have s23 := s22.put f23
  refine q_iload_n rfl rfl ?_
  refine q_if_lt rfl (fun c => absurd c (by decide)) (fun _ => ?_)
  refine q_iload_n rfl rfl ?_
  refine q_bipush rfl ?_
  refine q_icmp_gt rfl (fun c => absurd c (by decide)) (fun _ => ?_)
  refine q_aload_n rfl rfl ?_
  refine s_get (v := .int 0) rfl o23 rfl rfl ?_
  refine q_iload_n rfl rfl ?_
  refine s_iadd (k := 20) rfl (by decide) ?_
  refine q_sipush rfl ?_
  refine q_icmp_le rfl (fun _ => ?_) (fun c => absurd (by decide) c)
  refine q_iconst rfl ?_
  refine s_istore_n (lv' := [(2, .int 0), (0, .ref 191), (1, .int 20)]) rfl (by decide) rfl ?_
  refine q_iload_n rfl rfl ?_
  refine q_iload_n rfl rfl ?_
  refine q_icmp_ge rfl (fun c => absurd c (by decide)) (fun _ => ?_)
  refine q_aload_n rfl rfl ?_
  refine s_get (v := .ref 193) rfl o23 rfl rfl ?_
  refine q_aload_n rfl rfl ?_
  refine s_get (v := .int 0) rfl o23 rfl rfl ?_
  refine q_aload_n rfl rfl ?_
  refine s_get (v := .ref 192) rfl o23 rfl rfl ?_
  refine q_iload_n rfl rfl ?_
  have e192_23 := (f23.ne rfl (f22.ne rfl (f21.ne rfl (f20.ne rfl (f19.ne rfl (f18.ne rfl (f17.ne rfl (f16.ne rfl (f15.ne rfl (f14.ne rfl (f13.ne rfl (f12.ne rfl (f11.ne rfl (f10.ne rfl (f9.ne rfl (f8.ne rfl (f7.ne rfl (f6.ne rfl (f5.ne rfl (f4.ne rfl (f3.ne rfl (f2.ne rfl (f1.ne rfl e192)))))))))))))))))))))))
  refine s_iaload (j := 0) (v := .int 0) rfl e192_23 (by decide) rfl (by first | rfl | decide) ?_
  have e193_23 := (f23.ne rfl (f22.ne rfl (f21.ne rfl (f20.ne rfl (f19.ne rfl (f18.ne rfl (f17.ne rfl (f16.ne rfl (f15.ne rfl (f14.ne rfl (f13.ne rfl (f12.ne rfl (f11.ne rfl (f10.ne rfl (f9.ne rfl (f8.ne rfl (f7.ne rfl (f6.ne rfl (f5.ne rfl (f4.ne rfl (f3.ne rfl (f2.ne rfl (f1.ne rfl e193)))))))))))))))))))))))
  refine s_iastore (j := 0) rfl e193_23 (by decide) rfl (fun h24 o24 f24 => ?_)
  have s24 := s23.put f24
  refine q_aload_n rfl rfl ?_
  refine q_dup rfl rfl ?_
  have e191_24 := (o23.ne f24 rfl)
  refine s_get (v := .int 0) rfl e191_24 rfl rfl ?_
  refine q_iconst rfl ?_
  refine s_iadd (k := 1) rfl (by decide) ?_
  refine s_put (vs' := [.int 0, .ref 192, .ref 193, .int 1, .ref 194, .ref 195, .ref 196, .ref 197, .ref 198, .ref 199, .ref 200, .ref 201, .ref 202, .ref 203, .ref 204, .ref 205, .int (-1), .int 0, .ref 206, .ref 207, .ref 208, .ref 209, .ref 210, .ref 211, .ref 212, .ref 213, .ref 214, .ref 215, .int 0, .int 0, .int 0, .int 0, .ref 216, .ref 217, .ref 218, .ref 219, .ref 220, .int (-1), .int 0, .int 0, .int 0, .int 0, .int 0, .int 0, .ref 221, .ref 222, .ref 223, .ref 224, .int 0, .ref 225, .int 0, .ref 226, .ref 227, .int 0, .ref 228, .ref 229, .ref 230, .ref 231, .ref 232]) rfl e191_24 rfl rfl rfl rfl (fun h25 o25 f25 => ?_)
  have s25 := s24.put f25
  refine s_iinc (y := 1) (lv' := [(2, .int 1), (0, .ref 191), (1, .int 20)]) rfl rfl (by decide) (by decide) rfl ?_
  refine q_goto rfl ?_
  refine q_iload_n rfl rfl ?_
  refine q_iload_n rfl rfl ?_
  refine q_icmp_ge rfl (fun c => absurd c (by decide)) (fun _ => ?_)
  refine q_aload_n rfl rfl ?_
  refine s_get (v := .ref 193) rfl o25 rfl rfl ?_
  refine q_aload_n rfl rfl ?_
  refine s_get (v := .int 1) rfl o25 rfl rfl ?_
  refine q_aload_n rfl rfl ?_
  refine s_get (v := .ref 192) rfl o25 rfl rfl ?_
  refine q_iload_n rfl rfl ?_
  have e192_25 := (f25.ne rfl (f24.ne rfl e192_23))
  refine s_iaload (j := 1) (v := .int 0) rfl e192_25 (by decide) rfl (by first | rfl | decide) ?_
  have e193_25 := (f25.ne rfl o24)
  refine s_iastore (j := 1) rfl e193_25 (by decide) rfl (fun h26 o26 f26 => ?_)
  have s26 := s25.put f26
  refine q_aload_n rfl rfl ?_
  refine q_dup rfl rfl ?_
  have e191_26 := (o25.ne f26 rfl)
  refine s_get (v := .int 1) rfl e191_26 rfl rfl ?_
  refine q_iconst rfl ?_
  refine s_iadd (k := 2) rfl (by decide) ?_
  refine s_put (vs' := [.int 0, .ref 192, .ref 193, .int 2, .ref 194, .ref 195, .ref 196, .ref 197, .ref 198, .ref 199, .ref 200, .ref 201, .ref 202, .ref 203, .ref 204, .ref 205, .int (-1), .int 0, .ref 206, .ref 207, .ref 208, .ref 209, .ref 210, .ref 211, .ref 212, .ref 213, .ref 214, .ref 215, .int 0, .int 0, .int 0, .int 0, .ref 216, .ref 217, .ref 218, .ref 219, .ref 220, .int (-1), .int 0, .int 0, .int 0, .int 0, .int 0, .int 0, .ref 221, .ref 222, .ref 223, .ref 224, .int 0, .ref 225, .int 0, .ref 226, .ref 227, .int 0, .ref 228, .ref 229, .ref 230, .ref 231, .ref 232]) rfl e191_26 rfl rfl rfl rfl (fun h27 o27 f27 => ?_)
  have s27 := s26.put f27
  refine s_iinc (y := 2) (lv' := [(2, .int 2), (0, .ref 191), (1, .int 20)]) rfl rfl (by decide) (by decide) rfl ?_
  refine q_goto rfl ?_
  refine q_iload_n rfl rfl ?_
  refine q_iload_n rfl rfl ?_
  refine q_icmp_ge rfl (fun c => absurd c (by decide)) (fun _ => ?_)
  refine q_aload_n rfl rfl ?_
  refine s_get (v := .ref 193) rfl o27 rfl rfl ?_
  refine q_aload_n rfl rfl ?_
  refine s_get (v := .int 2) rfl o27 rfl rfl ?_
  refine q_aload_n rfl rfl ?_
  refine s_get (v := .ref 192) rfl o27 rfl rfl ?_
  refine q_iload_n rfl rfl ?_
  have e192_27 := (f27.ne rfl (f26.ne rfl e192_25))
  refine s_iaload (j := 2) (v := .int 0) rfl e192_27 (by decide) rfl (by first | rfl | decide) ?_
  have e193_27 := (f27.ne rfl o26)
  refine s_iastore (j := 2) rfl e193_27 (by decide) rfl (fun h28 o28 f28 => ?_)
  have s28 := s27.put f28
  refine q_aload_n rfl rfl ?_
  refine q_dup rfl rfl ?_
  have e191_28 := (o27.ne f28 rfl)
  refine s_get (v := .int 2) rfl e191_28 rfl rfl ?_
  refine q_iconst rfl ?_
  refine s_iadd (k := 3) rfl (by decide) ?_
  refine s_put (vs' := [.int 0, .ref 192, .ref 193, .int 3, .ref 194, .ref 195, .ref 196, .ref 197, .ref 198, .ref 199, .ref 200, .ref 201, .ref 202, .ref 203, .ref 204, .ref 205, .int (-1), .int 0, .ref 206, .ref 207, .ref 208, .ref 209, .ref 210, .ref 211, .ref 212, .ref 213, .ref 214, .ref 215, .int 0, .int 0, .int 0, .int 0, .ref 216, .ref 217, .ref 218, .ref 219, .ref 220, .int (-1), .int 0, .int 0, .int 0, .int 0, .int 0, .int 0, .ref 221, .ref 222, .ref 223, .ref 224, .int 0, .ref 225, .int 0, .ref 226, .ref 227, .int 0, .ref 228, .ref 229, .ref 230, .ref 231, .ref 232]) rfl e191_28 rfl rfl rfl rfl (fun h29 o29 f29 => ?_)
  have s29 := s28.put f29
  refine s_iinc (y := 3) (lv' := [(2, .int 3), (0, .ref 191), (1, .int 20)]) rfl rfl (by decide) (by decide) rfl ?_
  refine q_goto rfl ?_
  refine q_iload_n rfl rfl ?_
  refine q_iload_n rfl rfl ?_
  refine q_icmp_ge rfl (fun c => absurd c (by decide)) (fun _ => ?_)
  refine q_aload_n rfl rfl ?_
  refine s_get (v := .ref 193) rfl o29 rfl rfl ?_
  refine q_aload_n rfl rfl ?_
  refine s_get (v := .int 3) rfl o29 rfl rfl ?_
  refine q_aload_n rfl rfl ?_
  refine s_get (v := .ref 192) rfl o29 rfl rfl ?_
  refine q_iload_n rfl rfl ?_
  have e192_29 := (f29.ne rfl (f28.ne rfl e192_27))
  refine s_iaload (j := 3) (v := .int 0) rfl e192_29 (by decide) rfl (by first | rfl | decide) ?_
  have e193_29 := (f29.ne rfl o28)
  refine s_iastore (j := 3) rfl e193_29 (by decide) rfl (fun h30 o30 f30 => ?_)
  have s30 := s29.put f30
  refine q_aload_n rfl rfl ?_
  refine q_dup rfl rfl ?_
  have e191_30 := (o29.ne f30 rfl)
  refine s_get (v := .int 3) rfl e191_30 rfl rfl ?_
  refine q_iconst rfl ?_
  refine s_iadd (k := 4) rfl (by decide) ?_
  refine s_put (vs' := [.int 0, .ref 192, .ref 193, .int 4, .ref 194, .ref 195, .ref 196, .ref 197, .ref 198, .ref 199, .ref 200, .ref 201, .ref 202, .ref 203, .ref 204, .ref 205, .int (-1), .int 0, .ref 206, .ref 207, .ref 208, .ref 209, .ref 210, .ref 211, .ref 212, .ref 213, .ref 214, .ref 215, .int 0, .int 0, .int 0, .int 0, .ref 216, .ref 217, .ref 218, .ref 219, .ref 220, .int (-1), .int 0, .int 0, .int 0, .int 0, .int 0, .int 0, .ref 221, .ref 222, .ref 223, .ref 224, .int 0, .ref 225, .int 0, .ref 226, .ref 227, .int 0, .ref 228, .ref 229, .ref 230, .ref 231, .ref 232]) rfl e191_30 rfl rfl rfl rfl (fun h31 o31 f31 => ?_)
  have s31 := s30.put f31
  refine s_iinc (y := 4) (lv' := [(2, .int 4), (0, .ref 191), (1, .int 20)]) rfl rfl (by decide) (by decide) rfl ?_
  refine q_goto rfl ?_
  refine q_iload_n rfl rfl ?_
  refine q_iload_n rfl rfl ?_
  refine q_icmp_ge rfl (fun c => absurd c (by decide)) (fun _ => ?_)
  refine q_aload_n rfl rfl ?_
  refine s_get (v := .ref 193) rfl o31 rfl rfl ?_
  refine q_aload_n rfl rfl ?_
  refine s_get (v := .int 4) rfl o31 rfl rfl ?_
  refine q_aload_n rfl rfl ?_
  refine s_get (v := .ref 192) rfl o31 rfl rfl ?_
  refine q_iload_n rfl rfl ?_
  have e192_31 := (f31.ne rfl (f30.ne rfl e192_29))
  refine s_iaload (j := 4) (v := .int 0) rfl e192_31 (by decide) rfl (by first | rfl | decide) ?_
  have e193_31 := (f31.ne rfl o30)
  refine s_iastore (j := 4) rfl e193_31 (by decide) rfl (fun h32 o32 f32 => ?_)
  have s32 := s31.put f32
  refine q_aload_n rfl rfl ?_
  refine q_dup rfl rfl ?_
  have e191_32 := (o31.ne f32 rfl)
  refine s_get (v := .int 4) rfl e191_32 rfl rfl ?_
  refine q_iconst rfl ?_
  refine s_iadd (k := 5) rfl (by decide) ?_
  refine s_put (vs' := [.int 0, .ref 192, .ref 193, .int 5, .ref 194, .ref 195, .ref 196, .ref 197, .ref 198, .ref 199, .ref 200, .ref 201, .ref 202, .ref 203, .ref 204, .ref 205, .int (-1), .int 0, .ref 206, .ref 207, .ref 208, .ref 209, .ref 210, .ref 211, .ref 212, .ref 213, .ref 214, .ref 215, .int 0, .int 0, .int 0, .int 0, .ref 216, .ref 217, .ref 218, .ref 219, .ref 220, .int (-1), .int 0, .int 0, .int 0, .int 0, .int 0, .int 0, .ref 221, .ref 222, .ref 223, .ref 224, .int 0, .ref 225, .int 0, .ref 226, .ref 227, .int 0, .ref 228, .ref 229, .ref 230, .ref 231, .ref 232]) rfl e191_32 rfl rfl rfl rfl (fun h33 o33 f33 => ?_)
  have s33 := s32.put f33
  refine s_iinc (y := 5) (lv' := [(2, .int 5), (0, .ref 191), (1, .int 20)]) rfl rfl (by decide) (by decide) rfl ?_
  refine q_goto rfl ?_
  refine q_iload_n rfl rfl ?_
  refine q_iload_n rfl rfl ?_
  refine q_icmp_ge rfl (fun c => absurd c (by decide)) (fun _ => ?_)
  refine q_aload_n rfl rfl ?_
  refine s_get (v := .ref 193) rfl o33 rfl rfl ?_
  refine q_aload_n rfl rfl ?_
  refine s_get (v := .int 5) rfl o33 rfl rfl ?_
  refine q_aload_n rfl rfl ?_
  refine s_get (v := .ref 192) rfl o33 rfl rfl ?_
  refine q_iload_n rfl rfl ?_
  have e192_33 := (f33.ne rfl (f32.ne rfl e192_31))
  refine s_iaload (j := 5) (v := .int 0) rfl e192_33 (by decide) rfl (by first | rfl | decide) ?_
  have e193_33 := (f33.ne rfl o32)
  refine s_iastore (j := 5) rfl e193_33 (by decide) rfl (fun h34 o34 f34 => ?_)
  have s34 := s33.put f34
  refine q_aload_n rfl rfl ?_
  refine q_dup rfl rfl ?_
  have e191_34 := (o33.ne f34 rfl)
  refine s_get (v := .int 5) rfl e191_34 rfl rfl ?_
  refine q_iconst rfl ?_
  refine s_iadd (k := 6) rfl (by decide) ?_
  refine s_put (vs' := [.int 0, .ref 192, .ref 193, .int 6, .ref 194, .ref 195, .ref 196, .ref 197, .ref 198, .ref 199, .ref 200, .ref 201, .ref 202, .ref 203, .ref 204, .ref 205, .int (-1), .int 0, .ref 206, .ref 207, .ref 208, .ref 209, .ref 210, .ref 211, .ref 212, .ref 213, .ref 214, .ref 215, .int 0, .int 0, .int 0, .int 0, .ref 216, .ref 217, .ref 218, .ref 219, .ref 220, .int (-1), .int 0, .int 0, .int 0, .int 0, .int 0, .int 0, .ref 221, .ref 222, .ref 223, .ref 224, .int 0, .ref 225, .int 0, .ref 226, .ref 227, .int 0, .ref 228, .ref 229, .ref 230, .ref 231, .ref 232]) rfl e191_34 rfl rfl rfl rfl (fun h35 o35 f35 => ?_)
  have s35 := s34.put f35
  refine s_iinc (y := 6) (lv' := [(2, .int 6), (0, .ref 191), (1, .int 20)]) rfl rfl (by decide) (by decide) rfl ?_
  refine q_goto rfl ?_
  refine q_iload_n rfl rfl ?_
  refine q_iload_n rfl rfl ?_
  refine q_icmp_ge rfl (fun c => absurd c (by decide)) (fun _ => ?_)
  refine q_aload_n rfl rfl ?_
  refine s_get (v := .ref 193) rfl o35 rfl rfl ?_
  refine q_aload_n rfl rfl ?_
  refine s_get (v := .int 6) rfl o35 rfl rfl ?_
  refine q_aload_n rfl rfl ?_
  refine s_get (v := .ref 192) rfl o35 rfl rfl ?_
  refine q_iload_n rfl rfl ?_
  have e192_35 := (f35.ne rfl (f34.ne rfl e192_33))
  refine s_iaload (j := 6) (v := .int 0) rfl e192_35 (by decide) rfl (by first | rfl | decide) ?_
  have e193_35 := (f35.ne rfl o34)
  refine s_iastore (j := 6) rfl e193_35 (by decide) rfl (fun h36 o36 f36 => ?_)
  have s36 := s35.put f36
  refine q_aload_n rfl rfl ?_
  refine q_dup rfl rfl ?_
  have e191_36 := (o35.ne f36 rfl)
  refine s_get (v := .int 6) rfl e191_36 rfl rfl ?_
  refine q_iconst rfl ?_
  refine s_iadd (k := 7) rfl (by decide) ?_
  refine s_put (vs' := [.int 0, .ref 192, .ref 193, .int 7, .ref 194, .ref 195, .ref 196, .ref 197, .ref 198, .ref 199, .ref 200, .ref 201, .ref 202, .ref 203, .ref 204, .ref 205, .int (-1), .int 0, .ref 206, .ref 207, .ref 208, .ref 209, .ref 210, .ref 211, .ref 212, .ref 213, .ref 214, .ref 215, .int 0, .int 0, .int 0, .int 0, .ref 216, .ref 217, .ref 218, .ref 219, .ref 220, .int (-1), .int 0, .int 0, .int 0, .int 0, .int 0, .int 0, .ref 221, .ref 222, .ref 223, .ref 224, .int 0, .ref 225, .int 0, .ref 226, .ref 227, .int 0, .ref 228, .ref 229, .ref 230, .ref 231, .ref 232]) rfl e191_36 rfl rfl rfl rfl (fun h37 o37 f37 => ?_)
  have s37 := s36.put f37
  refine s_iinc (y := 7) (lv' := [(2, .int 7), (0, .ref 191), (1, .int 20)]) rfl rfl (by decide) (by decide) rfl ?_
  refine q_goto rfl ?_
  refine q_iload_n rfl rfl ?_
  refine q_iload_n rfl rfl ?_
  refine q_icmp_ge rfl (fun c => absurd c (by decide)) (fun _ => ?_)
  refine q_aload_n rfl rfl ?_
  refine s_get (v := .ref 193) rfl o37 rfl rfl ?_
  refine q_aload_n rfl rfl ?_
  refine s_get (v := .int 7) rfl o37 rfl rfl ?_
  refine q_aload_n rfl rfl ?_
  refine s_get (v := .ref 192) rfl o37 rfl rfl ?_
  refine q_iload_n rfl rfl ?_
  have e192_37 := (f37.ne rfl (f36.ne rfl e192_35))
  refine s_iaload (j := 7) (v := .int 0) rfl e192_37 (by decide) rfl (by first | rfl | decide) ?_
  have e193_37 := (f37.ne rfl o36)
  refine s_iastore (j := 7) rfl e193_37 (by decide) rfl (fun h38 o38 f38 => ?_)
  have s38 := s37.put f38
  refine q_aload_n rfl rfl ?_
  refine q_dup rfl rfl ?_
  have e191_38 := (o37.ne f38 rfl)
  refine s_get (v := .int 7) rfl e191_38 rfl rfl ?_
  refine q_iconst rfl ?_
  refine s_iadd (k := 8) rfl (by decide) ?_
  refine s_put (vs' := [.int 0, .ref 192, .ref 193, .int 8, .ref 194, .ref 195, .ref 196, .ref 197, .ref 198, .ref 199, .ref 200, .ref 201, .ref 202, .ref 203, .ref 204, .ref 205, .int (-1), .int 0, .ref 206, .ref 207, .ref 208, .ref 209, .ref 210, .ref 211, .ref 212, .ref 213, .ref 214, .ref 215, .int 0, .int 0, .int 0, .int 0, .ref 216, .ref 217, .ref 218, .ref 219, .ref 220, .int (-1), .int 0, .int 0, .int 0, .int 0, .int 0, .int 0, .ref 221, .ref 222, .ref 223, .ref 224, .int 0, .ref 225, .int 0, .ref 226, .ref 227, .int 0, .ref 228, .ref 229, .ref 230, .ref 231, .ref 232]) rfl e191_38 rfl rfl rfl rfl (fun h39 o39 f39 => ?_)
  have s39 := s38.put f39
  refine s_iinc (y := 8) (lv' := [(2, .int 8), (0, .ref 191), (1, .int 20)]) rfl rfl (by decide) (by decide) rfl ?_
  refine q_goto rfl ?_
  refine q_iload_n rfl rfl ?_
  refine q_iload_n rfl rfl ?_
  refine q_icmp_ge rfl (fun c => absurd c (by decide)) (fun _ => ?_)
  refine q_aload_n rfl rfl ?_
  refine s_get (v := .ref 193) rfl o39 rfl rfl ?_
  refine q_aload_n rfl rfl ?_
  refine s_get (v := .int 8) rfl o39 rfl rfl ?_
  refine q_aload_n rfl rfl ?_
  refine s_get (v := .ref 192) rfl o39 rfl rfl ?_
  refine q_iload_n rfl rfl ?_
  have e192_39 := (f39.ne rfl (f38.ne rfl e192_37))
  refine s_iaload (j := 8) (v := .int 0) rfl e192_39 (by decide) rfl (by first | rfl | decide) ?_
  have e193_39 := (f39.ne rfl o38)
  refine s_iastore (j := 8) rfl e193_39 (by decide) rfl (fun h40 o40 f40 => ?_)
  have s40 := s39.put f40
  refine q_aload_n rfl rfl ?_
  refine q_dup rfl rfl ?_
  have e191_40 := (o39.ne f40 rfl)
  refine s_get (v := .int 8) rfl e191_40 rfl rfl ?_
  refine q_iconst rfl ?_
  refine s_iadd (k := 9) rfl (by decide) ?_
  refine s_put (vs' := [.int 0, .ref 192, .ref 193, .int 9, .ref 194, .ref 195, .ref 196, .ref 197, .ref 198, .ref 199, .ref 200, .ref 201, .ref 202, .ref 203, .ref 204, .ref 205, .int (-1), .int 0, .ref 206, .ref 207, .ref 208, .ref 209, .ref 210, .ref 211, .ref 212, .ref 213, .ref 214, .ref 215, .int 0, .int 0, .int 0, .int 0, .ref 216, .ref 217, .ref 218, .ref 219, .ref 220, .int (-1), .int 0, .int 0, .int 0, .int 0, .int 0, .int 0, .ref 221, .ref 222, .ref 223, .ref 224, .int 0, .ref 225, .int 0, .ref 226, .ref 227, .int 0, .ref 228, .ref 229, .ref 230, .ref 231, .ref 232]) rfl e191_40 rfl rfl rfl rfl (fun h41 o41 f41 => ?_)
  have s41 := s40.put f41
  refine s_iinc (y := 9) (lv' := [(2, .int 9), (0, .ref 191), (1, .int 20)]) rfl rfl (by decide) (by decide) rfl ?_
  refine q_goto rfl ?_
  refine q_iload_n rfl rfl ?_
  refine q_iload_n rfl rfl ?_
  refine q_icmp_ge rfl (fun c => absurd c (by decide)) (fun _ => ?_)
  refine q_aload_n rfl rfl ?_
  refine s_get (v := .ref 193) rfl o41 rfl rfl ?_
  refine q_aload_n rfl rfl ?_
  refine s_get (v := .int 9) rfl o41 rfl rfl ?_
  refine q_aload_n rfl rfl ?_
  refine s_get (v := .ref 192) rfl o41 rfl rfl ?_
  refine q_iload_n rfl rfl ?_
  have e192_41 := (f41.ne rfl (f40.ne rfl e192_39))
  refine s_iaload (j := 9) (v := .int 0) rfl e192_41 (by decide) rfl (by first | rfl | decide) ?_
  have e193_41 := (f41.ne rfl o40)
  refine s_iastore (j := 9) rfl e193_41 (by decide) rfl (fun h42 o42 f42 => ?_)
  have s42 := s41.put f42
  refine q_aload_n rfl rfl ?_
  refine q_dup rfl rfl ?_
  have e191_42 := (o41.ne f42 rfl)
  refine s_get (v := .int 9) rfl e191_42 rfl rfl ?_
  refine q_iconst rfl ?_
  refine s_iadd (k := 10) rfl (by decide) ?_
  refine s_put (vs' := [.int 0, .ref 192, .ref 193, .int 10, .ref 194, .ref 195, .ref 196, .ref 197, .ref 198, .ref 199, .ref 200, .ref 201, .ref 202, .ref 203, .ref 204, .ref 205, .int (-1), .int 0, .ref 206, .ref 207, .ref 208, .ref 209, .ref 210, .ref 211, .ref 212, .ref 213, .ref 214, .ref 215, .int 0, .int 0, .int 0, .int 0, .ref 216, .ref 217, .ref 218, .ref 219, .ref 220, .int (-1), .int 0, .int 0, .int 0, .int 0, .int 0, .int 0, .ref 221, .ref 222, .ref 223, .ref 224, .int 0, .ref 225, .int 0, .ref 226, .ref 227, .int 0, .ref 228, .ref 229, .ref 230, .ref 231, .ref 232]) rfl e191_42 rfl rfl rfl rfl (fun h43 o43 f43 => ?_)
  have s43 := s42.put f43
  refine s_iinc (y := 10) (lv' := [(2, .int 10), (0, .ref 191), (1, .int 20)]) rfl rfl (by decide) (by decide) rfl ?_
  refine q_goto rfl ?_
  refine q_iload_n rfl rfl ?_
  refine q_iload_n rfl rfl ?_
  refine q_icmp_ge rfl (fun c => absurd c (by decide)) (fun _ => ?_)
  refine q_aload_n rfl rfl ?_
  refine s_get (v := .ref 193) rfl o43 rfl rfl ?_
  refine q_aload_n rfl rfl ?_
  refine s_get (v := .int 10) rfl o43 rfl rfl ?_
  refine q_aload_n rfl rfl ?_
  refine s_get (v := .ref 192) rfl o43 rfl rfl ?_
  refine q_iload_n rfl rfl ?_
  have e192_43 := (f43.ne rfl (f42.ne rfl e192_41))
  refine s_iaload (j := 10) (v := .int 0) rfl e192_43 (by decide) rfl (by first | rfl | decide) ?_
  have e193_43 := (f43.ne rfl o42)
  refine s_iastore (j := 10) rfl e193_43 (by decide) rfl (fun h44 o44 f44 => ?_)
  have s44 := s43.put f44
  refine q_aload_n rfl rfl ?_
  refine q_dup rfl rfl ?_
  have e191_44 := (o43.ne f44 rfl)
  refine s_get (v := .int 10) rfl e191_44 rfl rfl ?_
  refine q_iconst rfl ?_
  refine s_iadd (k := 11) rfl (by decide) ?_
  refine s_put (vs' := [.int 0, .ref 192, .ref 193, .int 11, .ref 194, .ref 195, .ref 196, .ref 197, .ref 198, .ref 199, .ref 200, .ref 201, .ref 202, .ref 203, .ref 204, .ref 205, .int (-1), .int 0, .ref 206, .ref 207, .ref 208, .ref 209, .ref 210, .ref 211, .ref 212, .ref 213, .ref 214, .ref 215, .int 0, .int 0, .int 0, .int 0, .ref 216, .ref 217, .ref 218, .ref 219, .ref 220, .int (-1), .int 0, .int 0, .int 0, .int 0, .int 0, .int 0, .ref 221, .ref 222, .ref 223, .ref 224, .int 0, .ref 225, .int 0, .ref 226, .ref 227, .int 0, .ref 228, .ref 229, .ref 230, .ref 231, .ref 232]) rfl e191_44 rfl rfl rfl rfl (fun h45 o45 f45 => ?_)
  have s45 := s44.put f45
  refine s_iinc (y := 11) (lv' := [(2, .int 11), (0, .ref 191), (1, .int 20)]) rfl rfl (by decide) (by decide) rfl ?_
  refine q_goto rfl ?_
  refine q_iload_n rfl rfl ?_
  refine q_iload_n rfl rfl ?_
  refine q_icmp_ge rfl (fun c => absurd c (by decide)) (fun _ => ?_)
  refine q_aload_n rfl rfl ?_
  refine s_get (v := .ref 193) rfl o45 rfl rfl ?_
  refine q_aload_n rfl rfl ?_
  refine s_get (v := .int 11) rfl o45 rfl rfl ?_
  refine q_aload_n rfl rfl ?_
  refine s_get (v := .ref 192) rfl o45 rfl rfl ?_
  refine q_iload_n rfl rfl ?_
  have e192_45 := (f45.ne rfl (f44.ne rfl e192_43))
  refine s_iaload (j := 11) (v := .int 0) rfl e192_45 (by decide) rfl (by first | rfl | decide) ?_
  have e193_45 := (f45.ne rfl o44)
  refine s_iastore (j := 11) rfl e193_45 (by decide) rfl (fun h46 o46 f46 => ?_)
  have s46 := s45.put f46
  refine q_aload_n rfl rfl ?_
  refine q_dup rfl rfl ?_
  have e191_46 := (o45.ne f46 rfl)
  refine s_get (v := .int 11) rfl e191_46 rfl rfl ?_
  refine q_iconst rfl ?_
  refine s_iadd (k := 12) rfl (by decide) ?_
  refine s_put (vs' := [.int 0, .ref 192, .ref 193, .int 12, .ref 194, .ref 195, .ref 196, .ref 197, .ref 198, .ref 199, .ref 200, .ref 201, .ref 202, .ref 203, .ref 204, .ref 205, .int (-1), .int 0, .ref 206, .ref 207, .ref 208, .ref 209, .ref 210, .ref 211, .ref 212, .ref 213, .ref 214, .ref 215, .int 0, .int 0, .int 0, .int 0, .ref 216, .ref 217, .ref 218, .ref 219, .ref 220, .int (-1), .int 0, .int 0, .int 0, .int 0, .int 0, .int 0, .ref 221, .ref 222, .ref 223, .ref 224, .int 0, .ref 225, .int 0, .ref 226, .ref 227, .int 0, .ref 228, .ref 229, .ref 230, .ref 231, .ref 232]) rfl e191_46 rfl rfl rfl rfl (fun h47 o47 f47 => ?_)
  have s47 := s46.put f47
  refine s_iinc (y := 12) (lv' := [(2, .int 12), (0, .ref 191), (1, .int 20)]) rfl rfl (by decide) (by decide) rfl ?_
  refine q_goto rfl ?_
  refine q_iload_n rfl rfl ?_
  refine q_iload_n rfl rfl ?_
  refine q_icmp_ge rfl (fun c => absurd c (by decide)) (fun _ => ?_)
  refine q_aload_n rfl rfl ?_
  refine s_get (v := .ref 193) rfl o47 rfl rfl ?_
  refine q_aload_n rfl rfl ?_
  refine s_get (v := .int 12) rfl o47 rfl rfl ?_
  refine q_aload_n rfl rfl ?_
  refine s_get (v := .ref 192) rfl o47 rfl rfl ?_
  refine q_iload_n rfl rfl ?_
  have e192_47 := (f47.ne rfl (f46.ne rfl e192_45))
  refine s_iaload (j := 12) (v := .int 0) rfl e192_47 (by decide) rfl (by first | rfl | decide) ?_
  have e193_47 := (f47.ne rfl o46)
  refine s_iastore (j := 12) rfl e193_47 (by decide) rfl (fun h48 o48 f48 => ?_)
  have s48 := s47.put f48
  refine q_aload_n rfl rfl ?_
  refine q_dup rfl rfl ?_
  have e191_48 := (o47.ne f48 rfl)
  refine s_get (v := .int 12) rfl e191_48 rfl rfl ?_
  refine q_iconst rfl ?_
  refine s_iadd (k := 13) rfl (by decide) ?_
  refine s_put (vs' := [.int 0, .ref 192, .ref 193, .int 13, .ref 194, .ref 195, .ref 196, .ref 197, .ref 198, .ref 199, .ref 200, .ref 201, .ref 202, .ref 203, .ref 204, .ref 205, .int (-1), .int 0, .ref 206, .ref 207, .ref 208, .ref 209, .ref 210, .ref 211, .ref 212, .ref 213, .ref 214, .ref 215, .int 0, .int 0, .int 0, .int 0, .ref 216, .ref 217, .ref 218, .ref 219, .ref 220, .int (-1), .int 0, .int 0, .int 0, .int 0, .int 0, .int 0, .ref 221, .ref 222, .ref 223, .ref 224, .int 0, .ref 225, .int 0, .ref 226, .ref 227, .int 0, .ref 228, .ref 229, .ref 230, .ref 231, .ref 232]) rfl e191_48 rfl rfl rfl rfl (fun h49 o49 f49 => ?_)
  have s49 := s48.put f49
  refine s_iinc (y := 13) (lv' := [(2, .int 13), (0, .ref 191), (1, .int 20)]) rfl rfl (by decide) (by decide) rfl ?_
  refine q_goto rfl ?_
  refine q_iload_n rfl rfl ?_
  refine q_iload_n rfl rfl ?_
  refine q_icmp_ge rfl (fun c => absurd c (by decide)) (fun _ => ?_)
  refine q_aload_n rfl rfl ?_
  refine s_get (v := .ref 193) rfl o49 rfl rfl ?_
  refine q_aload_n rfl rfl ?_
  refine s_get (v := .int 13) rfl o49 rfl rfl ?_
  refine q_aload_n rfl rfl ?_
  refine s_get (v := .ref 192) rfl o49 rfl rfl ?_
  refine q_iload_n rfl rfl ?_
  have e192_49 := (f49.ne rfl (f48.ne rfl e192_47))
  refine s_iaload (j := 13) (v := .int 0) rfl e192_49 (by decide) rfl (by first | rfl | decide) ?_
  have e193_49 := (f49.ne rfl o48)
  refine s_iastore (j := 13) rfl e193_49 (by decide) rfl (fun h50 o50 f50 => ?_)
  have s50 := s49.put f50
  refine q_aload_n rfl rfl ?_
  refine q_dup rfl rfl ?_
  have e191_50 := (o49.ne f50 rfl)
  refine s_get (v := .int 13) rfl e191_50 rfl rfl ?_
  refine q_iconst rfl ?_
  refine s_iadd (k := 14) rfl (by decide) ?_
  refine s_put (vs' := [.int 0, .ref 192, .ref 193, .int 14, .ref 194, .ref 195, .ref 196, .ref 197, .ref 198, .ref 199, .ref 200, .ref 201, .ref 202, .ref 203, .ref 204, .ref 205, .int (-1), .int 0, .ref 206, .ref 207, .ref 208, .ref 209, .ref 210, .ref 211, .ref 212, .ref 213, .ref 214, .ref 215, .int 0, .int 0, .int 0, .int 0, .ref 216, .ref 217, .ref 218, .ref 219, .ref 220, .int (-1), .int 0, .int 0, .int 0, .int 0, .int 0, .int 0, .ref 221, .ref 222, .ref 223, .ref 224, .int 0, .ref 225, .int 0, .ref 226, .ref 227, .int 0, .ref 228, .ref 229, .ref 230, .ref 231, .ref 232]) rfl e191_50 rfl rfl rfl rfl (fun h51 o51 f51 => ?_)
  have s51 := s50.put f51
  refine s_iinc (y := 14) (lv' := [(2, .int 14), (0, .ref 191), (1, .int 20)]) rfl rfl (by decide) (by decide) rfl ?_
  refine q_goto rfl ?_
  refine q_iload_n rfl rfl ?_
  refine q_iload_n rfl rfl ?_
  refine q_icmp_ge rfl (fun c => absurd c (by decide)) (fun _ => ?_)
  refine q_aload_n rfl rfl ?_
  refine s_get (v := .ref 193) rfl o51 rfl rfl ?_
  refine q_aload_n rfl rfl ?_
  refine s_get (v := .int 14) rfl o51 rfl rfl ?_
  refine q_aload_n rfl rfl ?_
  refine s_get (v := .ref 192) rfl o51 rfl rfl ?_
  refine q_iload_n rfl rfl ?_
  have e192_51 := (f51.ne rfl (f50.ne rfl e192_49))
  refine s_iaload (j := 14) (v := .int 0) rfl e192_51 (by decide) rfl (by first | rfl | decide) ?_
  have e193_51 := (f51.ne rfl o50)
  refine s_iastore (j := 14) rfl e193_51 (by decide) rfl (fun h52 o52 f52 => ?_)
  have s52 := s51.put f52
  refine q_aload_n rfl rfl ?_
  refine q_dup rfl rfl ?_
  have e191_52 := (o51.ne f52 rfl)
  refine s_get (v := .int 14) rfl e191_52 rfl rfl ?_
  refine q_iconst rfl ?_
  refine s_iadd (k := 15) rfl (by decide) ?_
  refine s_put (vs' := [.int 0, .ref 192, .ref 193, .int 15, .ref 194, .ref 195, .ref 196, .ref 197, .ref 198, .ref 199, .ref 200, .ref 201, .ref 202, .ref 203, .ref 204, .ref 205, .int (-1), .int 0, .ref 206, .ref 207, .ref 208, .ref 209, .ref 210, .ref 211, .ref 212, .ref 213, .ref 214, .ref 215, .int 0, .int 0, .int 0, .int 0, .ref 216, .ref 217, .ref 218, .ref 219, .ref 220, .int (-1), .int 0, .int 0, .int 0, .int 0, .int 0, .int 0, .ref 221, .ref 222, .ref 223, .ref 224, .int 0, .ref 225, .int 0, .ref 226, .ref 227, .int 0, .ref 228, .ref 229, .ref 230, .ref 231, .ref 232]) rfl e191_52 rfl rfl rfl rfl (fun h53 o53 f53 => ?_)
  have s53 := s52.put f53
  refine s_iinc (y := 15) (lv' := [(2, .int 15), (0, .ref 191), (1, .int 20)]) rfl rfl (by decide) (by decide) rfl ?_
  refine q_goto rfl ?_
  refine q_iload_n rfl rfl ?_
  refine q_iload_n rfl rfl ?_
  refine q_icmp_ge rfl (fun c => absurd c (by decide)) (fun _ => ?_)
  refine q_aload_n rfl rfl ?_
  refine s_get (v := .ref 193) rfl o53 rfl rfl ?_
  refine q_aload_n rfl rfl ?_
  refine s_get (v := .int 15) rfl o53 rfl rfl ?_
  refine q_aload_n rfl rfl ?_
  refine s_get (v := .ref 192) rfl o53 rfl rfl ?_
  refine q_iload_n rfl rfl ?_
  have e192_53 := (f53.ne rfl (f52.ne rfl e192_51))
  refine s_iaload (j := 15) (v := .int 0) rfl e192_53 (by decide) rfl (by first | rfl | decide) ?_
  have e193_53 := (f53.ne rfl o52)
  refine s_iastore (j := 15) rfl e193_53 (by decide) rfl (fun h54 o54 f54 => ?_)
  have s54 := s53.put f54
  refine q_aload_n rfl rfl ?_
  refine q_dup rfl rfl ?_
  have e191_54 := (o53.ne f54 rfl)
  refine s_get (v := .int 15) rfl e191_54 rfl rfl ?_
  refine q_iconst rfl ?_
  refine s_iadd (k := 16) rfl (by decide) ?_
  refine s_put (vs' := [.int 0, .ref 192, .ref 193, .int 16, .ref 194, .ref 195, .ref 196, .ref 197, .ref 198, .ref 199, .ref 200, .ref 201, .ref 202, .ref 203, .ref 204, .ref 205, .int (-1), .int 0, .ref 206, .ref 207, .ref 208, .ref 209, .ref 210, .ref 211, .ref 212, .ref 213, .ref 214, .ref 215, .int 0, .int 0, .int 0, .int 0, .ref 216, .ref 217, .ref 218, .ref 219, .ref 220, .int (-1), .int 0, .int 0, .int 0, .int 0, .int 0, .int 0, .ref 221, .ref 222, .ref 223, .ref 224, .int 0, .ref 225, .int 0, .ref 226, .ref 227, .int 0, .ref 228, .ref 229, .ref 230, .ref 231, .ref 232]) rfl e191_54 rfl rfl rfl rfl (fun h55 o55 f55 => ?_)
  have s55 := s54.put f55
  refine s_iinc (y := 16) (lv' := [(2, .int 16), (0, .ref 191), (1, .int 20)]) rfl rfl (by decide) (by decide) rfl ?_
  refine q_goto rfl ?_
  refine q_iload_n rfl rfl ?_
  refine q_iload_n rfl rfl ?_
  refine q_icmp_ge rfl (fun c => absurd c (by decide)) (fun _ => ?_)
  refine q_aload_n rfl rfl ?_
  refine s_get (v := .ref 193) rfl o55 rfl rfl ?_
  refine q_aload_n rfl rfl ?_
  refine s_get (v := .int 16) rfl o55 rfl rfl ?_
  refine q_aload_n rfl rfl ?_
  refine s_get (v := .ref 192) rfl o55 rfl rfl ?_
  refine q_iload_n rfl rfl ?_
  have e192_55 := (f55.ne rfl (f54.ne rfl e192_53))
  refine s_iaload (j := 16) (v := .int 0) rfl e192_55 (by decide) rfl (by first | rfl | decide) ?_
  have e193_55 := (f55.ne rfl o54)
  refine s_iastore (j := 16) rfl e193_55 (by decide) rfl (fun h56 o56 f56 => ?_)
  have s56 := s55.put f56
  refine q_aload_n rfl rfl ?_
  refine q_dup rfl rfl ?_
  have e191_56 := (o55.ne f56 rfl)
  refine s_get (v := .int 16) rfl e191_56 rfl rfl ?_
  refine q_iconst rfl ?_
  refine s_iadd (k := 17) rfl (by decide) ?_
  refine s_put (vs' := [.int 0, .ref 192, .ref 193, .int 17, .ref 194, .ref 195, .ref 196, .ref 197, .ref 198, .ref 199, .ref 200, .ref 201, .ref 202, .ref 203, .ref 204, .ref 205, .int (-1), .int 0, .ref 206, .ref 207, .ref 208, .ref 209, .ref 210, .ref 211, .ref 212, .ref 213, .ref 214, .ref 215, .int 0, .int 0, .int 0, .int 0, .ref 216, .ref 217, .ref 218, .ref 219, .ref 220, .int (-1), .int 0, .int 0, .int 0, .int 0, .int 0, .int 0, .ref 221, .ref 222, .ref 223, .ref 224, .int 0, .ref 225, .int 0, .ref 226, .ref 227, .int 0, .ref 228, .ref 229, .ref 230, .ref 231, .ref 232]) rfl e191_56 rfl rfl rfl rfl (fun h57 o57 f57 => ?_)
  have s57 := s56.put f57
  refine s_iinc (y := 17) (lv' := [(2, .int 17), (0, .ref 191), (1, .int 20)]) rfl rfl (by decide) (by decide) rfl ?_
  refine q_goto rfl ?_
  refine q_iload_n rfl rfl ?_
  refine q_iload_n rfl rfl ?_
  refine q_icmp_ge rfl (fun c => absurd c (by decide)) (fun _ => ?_)
  refine q_aload_n rfl rfl ?_
  refine s_get (v := .ref 193) rfl o57 rfl rfl ?_
  refine q_aload_n rfl rfl ?_
  refine s_get (v := .int 17) rfl o57 rfl rfl ?_
  refine q_aload_n rfl rfl ?_
  refine s_get (v := .ref 192) rfl o57 rfl rfl ?_
  refine q_iload_n rfl rfl ?_
  have e192_57 := (f57.ne rfl (f56.ne rfl e192_55))
  refine s_iaload (j := 17) (v := .int 0) rfl e192_57 (by decide) rfl (by first | rfl | decide) ?_
  have e193_57 := (f57.ne rfl o56)
  refine s_iastore (j := 17) rfl e193_57 (by decide) rfl (fun h58 o58 f58 => ?_)
  have s58 := s57.put f58
  refine q_aload_n rfl rfl ?_
  refine q_dup rfl rfl ?_
  have e191_58 := (o57.ne f58 rfl)
  refine s_get (v := .int 17) rfl e191_58 rfl rfl ?_
  refine q_iconst rfl ?_
  refine s_iadd (k := 18) rfl (by decide) ?_
  refine s_put (vs' := [.int 0, .ref 192, .ref 193, .int 18, .ref 194, .ref 195, .ref 196, .ref 197, .ref 198, .ref 199, .ref 200, .ref 201, .ref 202, .ref 203, .ref 204, .ref 205, .int (-1), .int 0, .ref 206, .ref 207, .ref 208, .ref 209, .ref 210, .ref 211, .ref 212, .ref 213, .ref 214, .ref 215, .int 0, .int 0, .int 0, .int 0, .ref 216, .ref 217, .ref 218, .ref 219, .ref 220, .int (-1), .int 0, .int 0, .int 0, .int 0, .int 0, .int 0, .ref 221, .ref 222, .ref 223, .ref 224, .int 0, .ref 225, .int 0, .ref 226, .ref 227, .int 0, .ref 228, .ref 229, .ref 230, .ref 231, .ref 232]) rfl e191_58 rfl rfl rfl rfl (fun h59 o59 f59 => ?_)
  have s59 := s58.put f59
  refine s_iinc (y := 18) (lv' := [(2, .int 18), (0, .ref 191), (1, .int 20)]) rfl rfl (by decide) (by decide) rfl ?_
  refine q_goto rfl ?_
  refine q_iload_n rfl rfl ?_
  refine q_iload_n rfl rfl ?_
  refine q_icmp_ge rfl (fun c => absurd c (by decide)) (fun _ => ?_)
  refine q_aload_n rfl rfl ?_
  refine s_get (v := .ref 193) rfl o59 rfl rfl ?_
  refine q_aload_n rfl rfl ?_
  refine s_get (v := .int 18) rfl o59 rfl rfl ?_
  refine q_aload_n rfl rfl ?_
  refine s_get (v := .ref 192) rfl o59 rfl rfl ?_
  refine q_iload_n rfl rfl ?_
  have e192_59 := (f59.ne rfl (f58.ne rfl e192_57))
  refine s_iaload (j := 18) (v := .int 0) rfl e192_59 (by decide) rfl (by first | rfl | decide) ?_
  have e193_59 := (f59.ne rfl o58)
  refine s_iastore (j := 18) rfl e193_59 (by decide) rfl (fun h60 o60 f60 => ?_)
  have s60 := s59.put f60
  refine q_aload_n rfl rfl ?_
  refine q_dup rfl rfl ?_
  have e191_60 := (o59.ne f60 rfl)
  refine s_get (v := .int 18) rfl e191_60 rfl rfl ?_
  refine q_iconst rfl ?_
  refine s_iadd (k := 19) rfl (by decide) ?_
  refine s_put (vs' := [.int 0, .ref 192, .ref 193, .int 19, .ref 194, .ref 195, .ref 196, .ref 197, .ref 198, .ref 199, .ref 200, .ref 201, .ref 202, .ref 203, .ref 204, .ref 205, .int (-1), .int 0, .ref 206, .ref 207, .ref 208, .ref 209, .ref 210, .ref 211, .ref 212, .ref 213, .ref 214, .ref 215, .int 0, .int 0, .int 0, .int 0, .ref 216, .ref 217, .ref 218, .ref 219, .ref 220, .int (-1), .int 0, .int 0, .int 0, .int 0, .int 0, .int 0, .ref 221, .ref 222, .ref 223, .ref 224, .int 0, .ref 225, .int 0, .ref 226, .ref 227, .int 0, .ref 228, .ref 229, .ref 230, .ref 231, .ref 232]) rfl e191_60 rfl rfl rfl rfl (fun h61 o61 f61 => ?_)
  have s61 := s60.put f61
  refine s_iinc (y := 19) (lv' := [(2, .int 19), (0, .ref 191), (1, .int 20)]) rfl rfl (by decide) (by decide) rfl ?_
  refine q_goto rfl ?_
  refine q_iload_n rfl rfl ?_
  refine q_iload_n rfl rfl ?_
  refine q_icmp_ge rfl (fun c => absurd c (by decide)) (fun _ => ?_)
  refine q_aload_n rfl rfl ?_
  refine s_get (v := .ref 193) rfl o61 rfl rfl ?_
  refine q_aload_n rfl rfl ?_
  refine s_get (v := .int 19) rfl o61 rfl rfl ?_
  refine q_aload_n rfl rfl ?_
  refine s_get (v := .ref 192) rfl o61 rfl rfl ?_
  refine q_iload_n rfl rfl ?_
  have e192_61 := (f61.ne rfl (f60.ne rfl e192_59))
  refine s_iaload (j := 19) (v := .int 0) rfl e192_61 (by decide) rfl (by first | rfl | decide) ?_
  have e193_61 := (f61.ne rfl o60)
  refine s_iastore (j := 19) rfl e193_61 (by decide) rfl (fun h62 o62 f62 => ?_)
  have s62 := s61.put f62
  refine q_aload_n rfl rfl ?_
  refine q_dup rfl rfl ?_
  have e191_62 := (o61.ne f62 rfl)
  refine s_get (v := .int 19) rfl e191_62 rfl rfl ?_
  refine q_iconst rfl ?_
  refine s_iadd (k := 20) rfl (by decide) ?_
  refine s_put (vs' := [.int 0, .ref 192, .ref 193, .int 20, .ref 194, .ref 195, .ref 196, .ref 197, .ref 198, .ref 199, .ref 200, .ref 201, .ref 202, .ref 203, .ref 204, .ref 205, .int (-1), .int 0, .ref 206, .ref 207, .ref 208, .ref 209, .ref 210, .ref 211, .ref 212, .ref 213, .ref 214, .ref 215, .int 0, .int 0, .int 0, .int 0, .ref 216, .ref 217, .ref 218, .ref 219, .ref 220, .int (-1), .int 0, .int 0, .int 0, .int 0, .int 0, .int 0, .ref 221, .ref 222, .ref 223, .ref 224, .int 0, .ref 225, .int 0, .ref 226, .ref 227, .int 0, .ref 228, .ref 229, .ref 230, .ref 231, .ref 232]) rfl e191_62 rfl rfl rfl rfl (fun h63 o63 f63 => ?_)
  have s63 := s62.put f63
  refine s_iinc (y := 20) (lv' := [(2, .int 20), (0, .ref 191), (1, .int 20)]) rfl rfl (by decide) (by decide) rfl ?_
  refine q_goto rfl ?_
  refine q_iload_n rfl rfl ?_
  refine q_iload_n rfl rfl ?_
  refine q_icmp_ge rfl (fun _ => ?_) (fun c => absurd (by decide) c)
  refine q_iconst rfl ?_
  refine s_istore_n (lv' := [(2, .int 0), (0, .ref 191), (1, .int 20)]) rfl (by decide) rfl ?_
  refine q_iload_n rfl rfl ?_
  refine q_bipush rfl ?_
  refine q_icmp_ge rfl (fun c => absurd c (by decide)) (fun _ => ?_)
  refine q_aload_n rfl rfl ?_
  refine s_get (v := .ref 192) rfl o63 rfl rfl ?_
  refine q_iload_n rfl rfl ?_
  refine q_iconst rfl ?_
  have e192_63 := (f63.ne rfl (f62.ne rfl e192_61))
  refine s_iastore (j := 0) rfl e192_63 (by decide) rfl (fun h64 o64 f64 => ?_)
  have s64 := s63.put f64
  refine s_iinc (y := 1) (lv' := [(2, .int 1), (0, .ref 191), (1, .int 20)]) rfl rfl (by decide) (by decide) rfl ?_
  refine q_goto rfl ?_
  refine q_iload_n rfl rfl ?_
  refine q_bipush rfl ?_
  refine q_icmp_ge rfl (fun c => absurd c (by decide)) (fun _ => ?_)
  refine q_aload_n rfl rfl ?_
  have e191_64 := (o63.ne f64 rfl)
  refine s_get (v := .ref 192) rfl e191_64 rfl rfl ?_
  refine q_iload_n rfl rfl ?_
  refine q_iconst rfl ?_
  refine s_iastore (j := 1) rfl o64 (by decide) rfl (fun h65 o65 f65 => ?_)
  have s65 := s64.put f65
  refine s_iinc (y := 2) (lv' := [(2, .int 2), (0, .ref 191), (1, .int 20)]) rfl rfl (by decide) (by decide) rfl ?_
  refine q_goto rfl ?_
  refine q_iload_n rfl rfl ?_
  refine q_bipush rfl ?_
  refine q_icmp_ge rfl (fun c => absurd c (by decide)) (fun _ => ?_)
  refine q_aload_n rfl rfl ?_
  have e191_65 := (e191_64.ne f65 rfl)
  refine s_get (v := .ref 192) rfl e191_65 rfl rfl ?_
  refine q_iload_n rfl rfl ?_
  refine q_iconst rfl ?_
  refine s_iastore (j := 2) rfl o65 (by decide) rfl (fun h66 o66 f66 => ?_)
  have s66 := s65.put f66
  refine s_iinc (y := 3) (lv' := [(2, .int 3), (0, .ref 191), (1, .int 20)]) rfl rfl (by decide) (by decide) rfl ?_
  refine q_goto rfl ?_
  refine q_iload_n rfl rfl ?_
  refine q_bipush rfl ?_
  refine q_icmp_ge rfl (fun c => absurd c (by decide)) (fun _ => ?_)
  refine q_aload_n rfl rfl ?_
  have e191_66 := (e191_65.ne f66 rfl)
  refine s_get (v := .ref 192) rfl e191_66 rfl rfl ?_
  refine q_iload_n rfl rfl ?_
  refine q_iconst rfl ?_
  refine s_iastore (j := 3) rfl o66 (by decide) rfl (fun h67 o67 f67 => ?_)
  have s67 := s66.put f67
  refine s_iinc (y := 4) (lv' := [(2, .int 4), (0, .ref 191), (1, .int 20)]) rfl rfl (by decide) (by decide) rfl ?_
  refine q_goto rfl ?_
  refine q_iload_n rfl rfl ?_
  refine q_bipush rfl ?_
  refine q_icmp_ge rfl (fun c => absurd c (by decide)) (fun _ => ?_)
  refine q_aload_n rfl rfl ?_
  have e191_67 := (e191_66.ne f67 rfl)
  refine s_get (v := .ref 192) rfl e191_67 rfl rfl ?_
  refine q_iload_n rfl rfl ?_
  refine q_iconst rfl ?_
  refine s_iastore (j := 4) rfl o67 (by decide) rfl (fun h68 o68 f68 => ?_)
  have s68 := s67.put f68
  refine s_iinc (y := 5) (lv' := [(2, .int 5), (0, .ref 191), (1, .int 20)]) rfl rfl (by decide) (by decide) rfl ?_
  refine q_goto rfl ?_
  refine q_iload_n rfl rfl ?_
  refine q_bipush rfl ?_
  refine q_icmp_ge rfl (fun c => absurd c (by decide)) (fun _ => ?_)
  refine q_aload_n rfl rfl ?_
  have e191_68 := (e191_67.ne f68 rfl)
  refine s_get (v := .ref 192) rfl e191_68 rfl rfl ?_
  refine q_iload_n rfl rfl ?_
  refine q_iconst rfl ?_
  refine s_iastore (j := 5) rfl o68 (by decide) rfl (fun h69 o69 f69 => ?_)
  have s69 := s68.put f69
  refine s_iinc (y := 6) (lv' := [(2, .int 6), (0, .ref 191), (1, .int 20)]) rfl rfl (by decide) (by decide) rfl ?_
  refine q_goto rfl ?_
  refine q_iload_n rfl rfl ?_
  refine q_bipush rfl ?_
  refine q_icmp_ge rfl (fun c => absurd c (by decide)) (fun _ => ?_)
  refine q_aload_n rfl rfl ?_
  have e191_69 := (e191_68.ne f69 rfl)
  refine s_get (v := .ref 192) rfl e191_69 rfl rfl ?_
  refine q_iload_n rfl rfl ?_
  refine q_iconst rfl ?_
  refine s_iastore (j := 6) rfl o69 (by decide) rfl (fun h70 o70 f70 => ?_)
  have s70 := s69.put f70
  refine s_iinc (y := 7) (lv' := [(2, .int 7), (0, .ref 191), (1, .int 20)]) rfl rfl (by decide) (by decide) rfl ?_
  refine q_goto rfl ?_
  refine q_iload_n rfl rfl ?_
  refine q_bipush rfl ?_
  refine q_icmp_ge rfl (fun c => absurd c (by decide)) (fun _ => ?_)
  refine q_aload_n rfl rfl ?_
  have e191_70 := (e191_69.ne f70 rfl)
  refine s_get (v := .ref 192) rfl e191_70 rfl rfl ?_
  refine q_iload_n rfl rfl ?_
  refine q_iconst rfl ?_
  refine s_iastore (j := 7) rfl o70 (by decide) rfl (fun h71 o71 f71 => ?_)
  have s71 := s70.put f71
  refine s_iinc (y := 8) (lv' := [(2, .int 8), (0, .ref 191), (1, .int 20)]) rfl rfl (by decide) (by decide) rfl ?_
  refine q_goto rfl ?_
  refine q_iload_n rfl rfl ?_
  refine q_bipush rfl ?_
  refine q_icmp_ge rfl (fun c => absurd c (by decide)) (fun _ => ?_)
  refine q_aload_n rfl rfl ?_
  have e191_71 := (e191_70.ne f71 rfl)
  refine s_get (v := .ref 192) rfl e191_71 rfl rfl ?_
  refine q_iload_n rfl rfl ?_
  refine q_iconst rfl ?_
  refine s_iastore (j := 8) rfl o71 (by decide) rfl (fun h72 o72 f72 => ?_)
  have s72 := s71.put f72
  refine s_iinc (y := 9) (lv' := [(2, .int 9), (0, .ref 191), (1, .int 20)]) rfl rfl (by decide) (by decide) rfl ?_
  refine q_goto rfl ?_
  refine q_iload_n rfl rfl ?_
  refine q_bipush rfl ?_
  refine q_icmp_ge rfl (fun c => absurd c (by decide)) (fun _ => ?_)
  refine q_aload_n rfl rfl ?_
  have e191_72 := (e191_71.ne f72 rfl)
  refine s_get (v := .ref 192) rfl e191_72 rfl rfl ?_
  refine q_iload_n rfl rfl ?_
  refine q_iconst rfl ?_
  refine s_iastore (j := 9) rfl o72 (by decide) rfl (fun h73 o73 f73 => ?_)
  have s73 := s72.put f73
  refine s_iinc (y := 10) (lv' := [(2, .int 10), (0, .ref 191), (1, .int 20)]) rfl rfl (by decide) (by decide) rfl ?_
  refine q_goto rfl ?_
  refine q_iload_n rfl rfl ?_
  refine q_bipush rfl ?_
  refine q_icmp_ge rfl (fun c => absurd c (by decide)) (fun _ => ?_)
  refine q_aload_n rfl rfl ?_
  have e191_73 := (e191_72.ne f73 rfl)
  refine s_get (v := .ref 192) rfl e191_73 rfl rfl ?_
  refine q_iload_n rfl rfl ?_
  refine q_iconst rfl ?_
  refine s_iastore (j := 10) rfl o73 (by decide) rfl (fun h74 o74 f74 => ?_)
  have s74 := s73.put f74
  refine s_iinc (y := 11) (lv' := [(2, .int 11), (0, .ref 191), (1, .int 20)]) rfl rfl (by decide) (by decide) rfl ?_
  refine q_goto rfl ?_
  refine q_iload_n rfl rfl ?_
  refine q_bipush rfl ?_
  refine q_icmp_ge rfl (fun c => absurd c (by decide)) (fun _ => ?_)
  refine q_aload_n rfl rfl ?_
  have e191_74 := (e191_73.ne f74 rfl)
  refine s_get (v := .ref 192) rfl e191_74 rfl rfl ?_
  refine q_iload_n rfl rfl ?_
  refine q_iconst rfl ?_
  refine s_iastore (j := 11) rfl o74 (by decide) rfl (fun h75 o75 f75 => ?_)
  have s75 := s74.put f75
  refine s_iinc (y := 12) (lv' := [(2, .int 12), (0, .ref 191), (1, .int 20)]) rfl rfl (by decide) (by decide) rfl ?_
  refine q_goto rfl ?_
  refine q_iload_n rfl rfl ?_
  refine q_bipush rfl ?_
  refine q_icmp_ge rfl (fun c => absurd c (by decide)) (fun _ => ?_)
  refine q_aload_n rfl rfl ?_
  have e191_75 := (e191_74.ne f75 rfl)
  refine s_get (v := .ref 192) rfl e191_75 rfl rfl ?_
  refine q_iload_n rfl rfl ?_
  refine q_iconst rfl ?_
  refine s_iastore (j := 12) rfl o75 (by decide) rfl (fun h76 o76 f76 => ?_)
  have s76 := s75.put f76
  refine s_iinc (y := 13) (lv' := [(2, .int 13), (0, .ref 191), (1, .int 20)]) rfl rfl (by decide) (by decide) rfl ?_
  refine q_goto rfl ?_
  refine q_iload_n rfl rfl ?_
  refine q_bipush rfl ?_
  refine q_icmp_ge rfl (fun c => absurd c (by decide)) (fun _ => ?_)
  refine q_aload_n rfl rfl ?_
  have e191_76 := (e191_75.ne f76 rfl)
  refine s_get (v := .ref 192) rfl e191_76 rfl rfl ?_
  refine q_iload_n rfl rfl ?_
  refine q_iconst rfl ?_
  refine s_iastore (j := 13) rfl o76 (by decide) rfl (fun h77 o77 f77 => ?_)
  have s77 := s76.put f77
  refine s_iinc (y := 14) (lv' := [(2, .int 14), (0, .ref 191), (1, .int 20)]) rfl rfl (by decide) (by decide) rfl ?_
  refine q_goto rfl ?_
  refine q_iload_n rfl rfl ?_
  refine q_bipush rfl ?_
  refine q_icmp_ge rfl (fun c => absurd c (by decide)) (fun _ => ?_)
  refine q_aload_n rfl rfl ?_
  have e191_77 := (e191_76.ne f77 rfl)
  refine s_get (v := .ref 192) rfl e191_77 rfl rfl ?_
  refine q_iload_n rfl rfl ?_
  refine q_iconst rfl ?_
  refine s_iastore (j := 14) rfl o77 (by decide) rfl (fun h78 o78 f78 => ?_)
  have s78 := s77.put f78
  refine s_iinc (y := 15) (lv' := [(2, .int 15), (0, .ref 191), (1, .int 20)]) rfl rfl (by decide) (by decide) rfl ?_
  refine q_goto rfl ?_
  refine q_iload_n rfl rfl ?_
  refine q_bipush rfl ?_
  refine q_icmp_ge rfl (fun c => absurd c (by decide)) (fun _ => ?_)
  refine q_aload_n rfl rfl ?_
  have e191_78 := (e191_77.ne f78 rfl)
  refine s_get (v := .ref 192) rfl e191_78 rfl rfl ?_
  refine q_iload_n rfl rfl ?_
  refine q_iconst rfl ?_
  refine s_iastore (j := 15) rfl o78 (by decide) rfl (fun h79 o79 f79 => ?_)
  have s79 := s78.put f79
  refine s_iinc (y := 16) (lv' := [(2, .int 16), (0, .ref 191), (1, .int 20)]) rfl rfl (by decide) (by decide) rfl ?_
  refine q_goto rfl ?_
  refine q_iload_n rfl rfl ?_
  refine q_bipush rfl ?_
  refine q_icmp_ge rfl (fun c => absurd c (by decide)) (fun _ => ?_)
  refine q_aload_n rfl rfl ?_
  have e191_79 := (e191_78.ne f79 rfl)
  refine s_get (v := .ref 192) rfl e191_79 rfl rfl ?_
  refine q_iload_n rfl rfl ?_
  refine q_iconst rfl ?_
  refine s_iastore (j := 16) rfl o79 (by decide) rfl (fun h80 o80 f80 => ?_)
  have s80 := s79.put f80
  refine s_iinc (y := 17) (lv' := [(2, .int 17), (0, .ref 191), (1, .int 20)]) rfl rfl (by decide) (by decide) rfl ?_
  refine q_goto rfl ?_
  refine q_iload_n rfl rfl ?_
  refine q_bipush rfl ?_
  refine q_icmp_ge rfl (fun c => absurd c (by decide)) (fun _ => ?_)
  refine q_aload_n rfl rfl ?_
  have e191_80 := (e191_79.ne f80 rfl)
  refine s_get (v := .ref 192) rfl e191_80 rfl rfl ?_
  refine q_iload_n rfl rfl ?_
  refine q_iconst rfl ?_
  refine s_iastore (j := 17) rfl o80 (by decide) rfl (fun h81 o81 f81 => ?_)
  have s81 := s80.put f81
  refine s_iinc (y := 18) (lv' := [(2, .int 18), (0, .ref 191), (1, .int 20)]) rfl rfl (by decide) (by decide) rfl ?_
  refine q_goto rfl ?_
  refine q_iload_n rfl rfl ?_
  refine q_bipush rfl ?_
  refine q_icmp_ge rfl (fun c => absurd c (by decide)) (fun _ => ?_)
  refine q_aload_n rfl rfl ?_
  have e191_81 := (e191_80.ne f81 rfl)
  refine s_get (v := .ref 192) rfl e191_81 rfl rfl ?_
  refine q_iload_n rfl rfl ?_
  refine q_iconst rfl ?_
  refine s_iastore (j := 18) rfl o81 (by decide) rfl (fun h82 o82 f82 => ?_)
  have s82 := s81.put f82
  refine s_iinc (y := 19) (lv' := [(2, .int 19), (0, .ref 191), (1, .int 20)]) rfl rfl (by decide) (by decide) rfl ?_
  refine q_goto rfl ?_
  refine q_iload_n rfl rfl ?_
  refine q_bipush rfl ?_
  refine q_icmp_ge rfl (fun c => absurd c (by decide)) (fun _ => ?_)
  refine q_aload_n rfl rfl ?_
  have e191_82 := (e191_81.ne f82 rfl)
  refine s_get (v := .ref 192) rfl e191_82 rfl rfl ?_
  refine q_iload_n rfl rfl ?_
  refine q_iconst rfl ?_
  refine s_iastore (j := 19) rfl o82 (by decide) rfl (fun h83 o83 f83 => ?_)
  have s83 := s82.put f83
  refine s_iinc (y := 20) (lv' := [(2, .int 20), (0, .ref 191), (1, .int 20)]) rfl rfl (by decide) (by decide) rfl ?_
  refine q_goto rfl ?_
  refine q_iload_n rfl rfl ?_
  refine q_bipush rfl ?_
  refine q_icmp_ge rfl (fun _ => ?_) (fun c => absurd (by decide) c)
  refine q_aload_n rfl rfl ?_
  have e191_83 := (e191_82.ne f83 rfl)
  refine s_get (v := .int 20) rfl e191_83 rfl rfl ?_
  refine q_ireturn rfl rfl ?_
  show aW aiP 0 17 658 243 [(4, .int 0), (3, .ref 233), (2, .ref 191), (1, .ref 6), (0, .ref 0)] [.int 20, .int 20] h83 _
  refine q_icmp_eq rfl (fun _ => ?_) (fun c => absurd (by decide) c)
  refine s_iinc (y := 6) (lv' := [(4, .int 6), (3, .ref 233), (2, .ref 191), (1, .ref 6), (0, .ref 0)]) rfl rfl (by decide) (by decide) rfl ?_
  refine q_goto rfl ?_
  refine q_iload rfl rfl ?_
  refine q_aload_n rfl rfl ?_
  have e0_83 := (f83.ne rfl (f82.ne rfl (f81.ne rfl (f80.ne rfl (f79.ne rfl (f78.ne rfl (f77.ne rfl (f76.ne rfl (f75.ne rfl (f74.ne rfl (f73.ne rfl (f72.ne rfl (f71.ne rfl (f70.ne rfl (f69.ne rfl (f68.ne rfl (f67.ne rfl (f66.ne rfl (f65.ne rfl (f64.ne rfl (f63.ne rfl (f62.ne rfl (f61.ne rfl (f60.ne rfl (f59.ne rfl (f58.ne rfl (f57.ne rfl (f56.ne rfl (f55.ne rfl (f54.ne rfl (f53.ne rfl (f52.ne rfl (f51.ne rfl (f50.ne rfl (f49.ne rfl (f48.ne rfl (f47.ne rfl (f46.ne rfl (f45.ne rfl (f44.ne rfl (f43.ne rfl (f42.ne rfl (f41.ne rfl (f40.ne rfl (f39.ne rfl (f38.ne rfl (f37.ne rfl (f36.ne rfl (f35.ne rfl (f34.ne rfl (f33.ne rfl (f32.ne rfl (f31.ne rfl (f30.ne rfl (f29.ne rfl (f28.ne rfl (f27.ne rfl (f26.ne rfl (f25.ne rfl (f24.ne rfl (f23.ne rfl e0_22)))))))))))))))))))))))))))))))))))))))))))))))))))))))))))))
  refine s_alen (x := 6) rfl e0_83 rfl (by decide) ?_
  refine q_bipush rfl ?_
  refine s_isub (k := 0) rfl (by decide) ?_
  refine q_icmp_gt rfl (fun _ => ?_) (fun c => absurd (by decide) c)
  refine q_iconst rfl ?_
  refine q_ireturn rfl rfl ?_
  exact ⟨rfl, s83.bd rfl⟩
