/-! case 4 of the law; made by wip/tools/p1.py -/
set_option maxRecDepth 20000 in
set_option maxHeartbeats 4000000 in
theorem p_case4 {xs : Nat → Int32} {h : ai_H} (F : Fresh 6 xs h) (hk : xs 0 &&& 31 = 4) : aW aiP 0 17 658 33 [(4, .int 0), (3, .ref 233), (2, .ref 191), (1, .ref 6), (0, .ref 0)] [] h p_Q := by
  have s0 := F.2.2.2.2.2.2.2.2.2.2.2.2.2.2.2.2.2.2.2.2.2.2.2.2.2.2.2.2.2.2.2.2.2.2.2.2.2.2.2.2.2.2.2.2.2.2.2.2.2.2.2.2.2.2.2.2.2.2.2.2.2.2.2.2.2.2.2.2.2.2
  refine q_aload_n rfl rfl ?_
  refine q_iload rfl rfl ?_
  have e0 := F.1
  refine s_iaload (j := 0) (v := .int (xs 0)) rfl e0 (by decide) rfl (by first | rfl | decide) ?_
  refine q_bipush rfl ?_
  refine s_iand (k := ((xs 0) &&& (31 : Int32))) rfl rfl ?_
  rw [hk]
  show aW aiP 0 17 658 40 [(4, .int 0), (3, .ref 233), (2, .ref 191), (1, .ref 6), (0, .ref 0)] [.int 4] h _
  refine s_sw (tg := 341) rfl rfl ?_
  refine q_aload_n rfl rfl ?_
  refine q_aload_n rfl rfl ?_
  refine q_iload rfl rfl ?_
  refine q_iconst rfl ?_
  refine s_iadd (k := 1) rfl (by decide) ?_
  refine s_iaload (j := 1) (v := .int (xs 1)) rfl e0 (by decide) rfl (by first | rfl | decide) ?_
  refine q_aload_n rfl rfl ?_
  refine s_callS (as := [.ref 6, .int (xs 1), .ref 233]) (rest := []) (d' := 16) (w' := 635) (lv' := [(0, .ref 6), (1, .int (xs 1)), (2, .ref 233)]) rfl rfl rfl rfl rfl rfl rfl rfl ?_
  refine q_aload_n rfl rfl ?_
  refine q_iconst rfl ?_
  refine q_aload_n rfl rfl ?_
  refine q_iload_n rfl rfl ?_
  have e6 := F.2.2.2.2.2.2.1
  refine s_callV (as := [.int (xs 1)]) (rest := [.int 0, .ref 233]) (d' := 15) (w' := 608) (lv' := [(0, .ref 6), (1, .int (xs 1))]) rfl e6 rfl rfl rfl rfl rfl rfl ?_
  refine q_aload_n rfl rfl ?_
  refine s_get (v := .int 0) rfl e6 rfl rfl ?_
  refine q_iconst rfl ?_
  refine q_icmp_ne rfl (fun _ => ?_) (fun c => absurd (by decide) c)
  refine q_aload_n rfl rfl ?_
  refine s_get (v := .int 0) rfl e6 rfl rfl ?_
  refine s_istore_n (lv' := [(2, .int 0), (0, .ref 6), (1, .int (xs 1))]) rfl (by decide) rfl ?_
  refine q_aload_n rfl rfl ?_
  refine q_iconst rfl ?_
  refine s_put (vs' := [.ref 7, .ref 8, .int 0, .ref 9, .int (-1), .ref 51, .ref 93, .ref 135, .ref 177, .ref 180, .int 0, .ref 183, .ref 186, .ref 189]) rfl e6 rfl rfl rfl rfl (fun h1 o1 f1 => ?_)
  have s1 := s0.put f1
  refine q_aload_n rfl rfl ?_
  refine s_get (v := .ref 9) rfl o1 rfl rfl ?_
  refine q_aload_n rfl rfl ?_
  refine s_get (v := .int (-1)) rfl o1 rfl rfl ?_
  have e9 := F.2.2.2.2.2.2.2.2.2.1
  have e9_1 := (e9.ne f1 rfl)
  refine s_callV (as := [.int (-1)]) (rest := []) (d' := 14) (w' := 587) (lv' := [(0, .ref 9), (1, .int (-1))]) rfl e9_1 rfl rfl rfl rfl rfl rfl ?_
  refine q_iload_n rfl rfl ?_
  refine q_if_lt rfl (fun _ => ?_) (fun c => absurd (by decide) c)
  refine q_null rfl ?_
  refine q_goto rfl ?_
  refine q_areturn rfl rfl rfl ?_
  show aW aiP 69 15 608 37 [(2, .int 0), (0, .ref 6), (1, .int (xs 1))] [.null] h1 _
  refine s_astore_nN (lv' := [(3, .null), (2, .int 0), (0, .ref 6), (1, .int (xs 1))]) rfl (by decide) rfl ?_
  refine q_aload_nN rfl rfl ?_
  refine q_ifnullN rfl ?_
  refine s_thr rfl rfl rfl ?_
  refine ⟨rfl, Or.inl ⟨15, rfl, fun h2 f2 l2 => ?_⟩⟩
  have s2 := Hs.exc s1 f2 l2
  show aW aiP 68 16 635 15 [(0, .ref 6), (1, .int (xs 1)), (2, .ref 233)] [.ref (h1.length)] h2 _
  refine s_astore_n (lv' := [(3, .ref (h1.length)), (0, .ref 6), (1, .int (xs 1)), (2, .ref 233)]) rfl (by decide) rfl ?_
  refine q_iconst rfl ?_
  refine q_ireturn rfl rfl ?_
  show aW aiP 0 17 658 352 [(4, .int 0), (3, .ref 233), (2, .ref 191), (1, .ref 6), (0, .ref 0)] [.int 2] h2 _
  refine s_istore (lv' := [(5, .int 2), (4, .int 0), (3, .ref 233), (2, .ref 191), (1, .ref 6), (0, .ref 0)]) rfl (by decide) rfl ?_
  refine q_aload_n rfl rfl ?_
  refine q_aload_n rfl rfl ?_
  refine q_iload rfl rfl ?_
  refine q_iconst rfl ?_
  refine s_iadd (k := 1) rfl (by decide) ?_
  have e0_2 := (f2.nw (f1.ne rfl e0))
  refine s_iaload (j := 1) (v := .int (xs 1)) rfl e0_2 (by decide) rfl (by first | rfl | decide) ?_
  have e191 := F.2.2.2.2.2.2.2.2.2.2.2.2.2.2.2.2.2.2.2.2.2.2.2.2.2.2.2.1
  have e191_2 := ((e191.ne f1 rfl).nw f2)
  refine s_callV (as := [.int (xs 1)]) (rest := []) (d' := 16) (w' := 632) (lv' := [(0, .ref 191), (1, .int (xs 1))]) rfl e191_2 rfl rfl rfl rfl rfl rfl ?_
  refine q_aload_n rfl rfl ?_
  refine s_get (v := .int 0) rfl e191_2 rfl rfl ?_
  refine q_iconst rfl ?_
  refine q_icmp_ne rfl (fun _ => ?_) (fun c => absurd (by decide) c)
  refine q_aload_n rfl rfl ?_
  refine s_get (v := .int 0) rfl e191_2 rfl rfl ?_
  refine s_istore_n (lv' := [(2, .int 0), (0, .ref 191), (1, .int (xs 1))]) rfl (by decide) rfl ?_
  refine q_aload_n rfl rfl ?_
  refine q_iconst rfl ?_
  refine s_put (vs' := [.int 0, .ref 192, .ref 193, .int 0, .ref 194, .ref 195, .ref 196, .ref 197, .ref 198, .ref 199, .ref 200, .ref 201, .ref 202, .ref 203, .ref 204, .ref 205, .int (-1), .int 0, .ref 206, .ref 207, .ref 208, .ref 209, .ref 210, .ref 211, .ref 212, .ref 213, .ref 214, .ref 215, .int 0, .int 0, .int 0, .int 0, .ref 216, .ref 217, .ref 218, .ref 219, .ref 220, .int (-1), .int 0, .int 0, .int 0, .int 0, .int 0, .int 0, .ref 221, .ref 222, .ref 223, .ref 224, .int 0, .ref 225, .int 0, .ref 226, .ref 227, .int 0, .ref 228, .ref 229, .ref 230, .ref 231, .ref 232]) rfl e191_2 rfl rfl rfl rfl (fun h3 o3 f3 => ?_)
  have s3 := s2.put f3
  refine q_aload_n rfl rfl ?_
  refine s_get (v := .int (-1)) rfl o3 rfl rfl ?_
  refine q_if_lt rfl (fun _ => ?_) (fun c => absurd (by decide) c)
  refine q_aload_n rfl rfl ?_
  refine q_iconst rfl ?_
  refine s_callV (as := [.int 2]) (rest := []) (d' := 15) (w' := 611) (lv' := [(0, .ref 191), (1, .int 2)]) rfl o3 rfl rfl rfl rfl rfl rfl ?_
  refine q_aload_n rfl rfl ?_
  refine q_iload_n rfl rfl ?_
  refine s_put (vs' := [.int 2, .ref 192, .ref 193, .int 0, .ref 194, .ref 195, .ref 196, .ref 197, .ref 198, .ref 199, .ref 200, .ref 201, .ref 202, .ref 203, .ref 204, .ref 205, .int (-1), .int 0, .ref 206, .ref 207, .ref 208, .ref 209, .ref 210, .ref 211, .ref 212, .ref 213, .ref 214, .ref 215, .int 0, .int 0, .int 0, .int 0, .ref 216, .ref 217, .ref 218, .ref 219, .ref 220, .int (-1), .int 0, .int 0, .int 0, .int 0, .int 0, .int 0, .ref 221, .ref 222, .ref 223, .ref 224, .int 0, .ref 225, .int 0, .ref 226, .ref 227, .int 0, .ref 228, .ref 229, .ref 230, .ref 231, .ref 232]) rfl o3 rfl rfl rfl rfl (fun h4 o4 f4 => ?_)
  have s4 := s3.put f4
  refine q_iconst rfl ?_
  refine q_ireturn rfl rfl ?_
  show aW aiP 232 16 632 49 [(2, .int 0), (0, .ref 191), (1, .int (xs 1))] [.int 0] h4 _
  refine q_ireturn rfl rfl ?_
  show aW aiP 0 17 658 364 [(5, .int 2), (4, .int 0), (3, .ref 233), (2, .ref 191), (1, .ref 6), (0, .ref 0)] [.int 0] h4 _
  refine s_istore (lv' := [(6, .int 0), (5, .int 2), (4, .int 0), (3, .ref 233), (2, .ref 191), (1, .ref 6), (0, .ref 0)]) rfl (by decide) rfl ?_
  refine q_aload_n rfl rfl ?_
  refine s_callV (as := []) (rest := []) (d' := 16) (w' := 638) (lv' := [(0, .ref 191)]) rfl o4 rfl rfl rfl rfl rfl rfl ?_
  refine q_aload_n rfl rfl ?_
  refine s_get (v := .int 2) rfl o4 rfl rfl ?_
  refine q_ireturn rfl rfl ?_
  show aW aiP 0 17 658 370 [(6, .int 0), (5, .int 2), (4, .int 0), (3, .ref 233), (2, .ref 191), (1, .ref 6), (0, .ref 0)] [.int 2] h4 _
  refine q_iload rfl rfl ?_
  refine q_icmp_eq rfl (fun _ => ?_) (fun c => absurd (by decide) c)
  refine q_iload rfl rfl ?_
  refine q_if_ne rfl (fun _ => ?_) (fun c => absurd (by decide) c)
  refine q_goto rfl ?_
  refine s_iinc (y := 6) (lv' := [(4, .int 6), (6, .int 0), (5, .int 2), (3, .ref 233), (2, .ref 191), (1, .ref 6), (0, .ref 0)]) rfl rfl (by decide) (by decide) rfl ?_
  refine q_goto rfl ?_
  refine q_iload rfl rfl ?_
  refine q_aload_n rfl rfl ?_
  have e0_4 := (f4.ne rfl (f3.ne rfl e0_2))
  refine s_alen (x := 6) rfl e0_4 rfl (by decide) ?_
  refine q_bipush rfl ?_
  refine s_isub (k := 0) rfl (by decide) ?_
  refine q_icmp_gt rfl (fun _ => ?_) (fun c => absurd (by decide) c)
  refine q_iconst rfl ?_
  refine q_ireturn rfl rfl ?_
  exact ⟨rfl, s4.bd rfl⟩
