/-! case 1 of the law; made by wip/tools/p1.py -/
set_option maxRecDepth 20000 in
set_option maxHeartbeats 4000000 in
theorem p_case1n {xs : Nat → Int32} {h : ai_H} (F : Fresh 6 xs h) (hk : xs 0 &&& 31 = 1) (hw : xs 1 < 0) : aW aiP 0 17 658 33 [(4, .int 0), (3, .ref 233), (2, .ref 191), (1, .ref 6), (0, .ref 0)] [] h p_Q := by
  have s0 := F.2.2.2.2.2.2.2.2.2.2.2.2.2.2.2.2.2.2.2.2.2.2.2.2.2.2.2.2.2.2.2.2.2.2.2.2.2.2.2.2.2.2.2.2.2.2.2.2.2.2.2.2.2.2.2.2.2.2.2.2.2.2.2.2.2.2.2.2.2.2
  refine q_aload_n rfl rfl ?_
  refine q_iload rfl rfl ?_
  have e0 := F.1
  refine s_iaload (j := 0) (v := .int (xs 0)) rfl e0 (by decide) rfl (by first | rfl | decide) ?_
  refine q_bipush rfl ?_
  refine s_iand (k := ((xs 0) &&& (31 : Int32))) rfl rfl ?_
  rw [hk]
  show aW aiP 0 17 658 40 [(4, .int 0), (3, .ref 233), (2, .ref 191), (1, .ref 6), (0, .ref 0)] [.int 1] h _
  refine s_sw (tg := 223) rfl rfl ?_
  refine q_aload_n rfl rfl ?_
  refine q_aload_n rfl rfl ?_
  refine q_iload rfl rfl ?_
  refine q_iconst rfl ?_
  refine s_iadd (k := 1) rfl (by decide) ?_
  refine s_iaload (j := 1) (v := .int (xs 1)) rfl e0 (by decide) rfl (by first | rfl | decide) ?_
  have e6 := F.2.2.2.2.2.2.1
  refine s_callV (as := [.int (xs 1)]) (rest := []) (d' := 16) (w' := 637) (lv' := [(0, .ref 6), (1, .int (xs 1))]) rfl e6 rfl rfl rfl rfl rfl rfl ?_
  refine q_iload_n rfl rfl ?_
  refine q_if_lt rfl (fun _ => ?_) (fun c => absurd hw c)
  refine q_iconst rfl ?_
  refine q_ireturn rfl rfl ?_
  show aW aiP 0 17 658 233 [(4, .int 0), (3, .ref 233), (2, .ref 191), (1, .ref 6), (0, .ref 0)] [.int (-1)] h _
  refine q_aload_n rfl rfl ?_
  refine q_aload_n rfl rfl ?_
  refine q_iload rfl rfl ?_
  refine q_iconst rfl ?_
  refine s_iadd (k := 1) rfl (by decide) ?_
  refine s_iaload (j := 1) (v := .int (xs 1)) rfl e0 (by decide) rfl (by first | rfl | decide) ?_
  have e191 := F.2.2.2.2.2.2.2.2.2.2.2.2.2.2.2.2.2.2.2.2.2.2.2.2.2.2.2.1
  refine s_callV (as := [.int (xs 1)]) (rest := [.int (-1)]) (d' := 16) (w' := 636) (lv' := [(0, .ref 191), (1, .int (xs 1))]) rfl e191 rfl rfl rfl rfl rfl rfl ?_
  refine q_aload_n rfl rfl ?_
  refine q_iconst rfl ?_
  refine s_put (vs' := [.int 0, .ref 192, .ref 193, .int 0, .ref 194, .ref 195, .ref 196, .ref 197, .ref 198, .ref 199, .ref 200, .ref 201, .ref 202, .ref 203, .ref 204, .ref 205, .int (-1), .int 0, .ref 206, .ref 207, .ref 208, .ref 209, .ref 210, .ref 211, .ref 212, .ref 213, .ref 214, .ref 215, .int 0, .int 0, .int 0, .int 0, .ref 216, .ref 217, .ref 218, .ref 219, .ref 220, .int (-1), .int 0, .int 0, .int 0, .int 0, .int 0, .int 0, .ref 221, .ref 222, .ref 223, .ref 224, .int 0, .ref 225, .int 0, .ref 226, .ref 227, .int 0, .ref 228, .ref 229, .ref 230, .ref 231, .ref 232]) rfl e191 rfl rfl rfl rfl (fun h1 o1 f1 => ?_)
  have s1 := s0.put f1
  refine q_iload_n rfl rfl ?_
  refine q_if_lt rfl (fun _ => ?_) (fun c => absurd hw c)
  refine q_iconst rfl ?_
  refine q_ireturn rfl rfl ?_
  show aW aiP 0 17 658 243 [(4, .int 0), (3, .ref 233), (2, .ref 191), (1, .ref 6), (0, .ref 0)] [.int (-1), .int (-1)] h1 _
  refine q_icmp_eq rfl (fun _ => ?_) (fun c => absurd (by decide) c)
  refine s_iinc (y := 6) (lv' := [(4, .int 6), (3, .ref 233), (2, .ref 191), (1, .ref 6), (0, .ref 0)]) rfl rfl (by decide) (by decide) rfl ?_
  refine q_goto rfl ?_
  refine q_iload rfl rfl ?_
  refine q_aload_n rfl rfl ?_
  have e0_1 := (f1.ne rfl e0)
  refine s_alen (x := 6) rfl e0_1 rfl (by decide) ?_
  refine q_bipush rfl ?_
  refine s_isub (k := 0) rfl (by decide) ?_
  refine q_icmp_gt rfl (fun _ => ?_) (fun c => absurd (by decide) c)
  refine q_iconst rfl ?_
  refine q_ireturn rfl rfl ?_
  exact ⟨rfl, s1.bd rfl⟩
set_option maxRecDepth 20000 in
set_option maxHeartbeats 4000000 in
theorem p_case1b {xs : Nat → Int32} {h : ai_H} (F : Fresh 6 xs h) (hk : xs 0 &&& 31 = 1) (hw : 20 < xs 1) : aW aiP 0 17 658 33 [(4, .int 0), (3, .ref 233), (2, .ref 191), (1, .ref 6), (0, .ref 0)] [] h p_Q := by
  have s0 := F.2.2.2.2.2.2.2.2.2.2.2.2.2.2.2.2.2.2.2.2.2.2.2.2.2.2.2.2.2.2.2.2.2.2.2.2.2.2.2.2.2.2.2.2.2.2.2.2.2.2.2.2.2.2.2.2.2.2.2.2.2.2.2.2.2.2.2.2.2.2
  refine q_aload_n rfl rfl ?_
  refine q_iload rfl rfl ?_
  have e0 := F.1
  refine s_iaload (j := 0) (v := .int (xs 0)) rfl e0 (by decide) rfl (by first | rfl | decide) ?_
  refine q_bipush rfl ?_
  refine s_iand (k := ((xs 0) &&& (31 : Int32))) rfl rfl ?_
  rw [hk]
  show aW aiP 0 17 658 40 [(4, .int 0), (3, .ref 233), (2, .ref 191), (1, .ref 6), (0, .ref 0)] [.int 1] h _
  refine s_sw (tg := 223) rfl rfl ?_
  refine q_aload_n rfl rfl ?_
  refine q_aload_n rfl rfl ?_
  refine q_iload rfl rfl ?_
  refine q_iconst rfl ?_
  refine s_iadd (k := 1) rfl (by decide) ?_
  refine s_iaload (j := 1) (v := .int (xs 1)) rfl e0 (by decide) rfl (by first | rfl | decide) ?_
  have e6 := F.2.2.2.2.2.2.1
  refine s_callV (as := [.int (xs 1)]) (rest := []) (d' := 16) (w' := 637) (lv' := [(0, .ref 6), (1, .int (xs 1))]) rfl e6 rfl rfl rfl rfl rfl rfl ?_
  refine q_iload_n rfl rfl ?_
  refine q_if_lt rfl (fun c => absurd c (nl20 hw)) (fun _ => ?_)
  refine q_iload_n rfl rfl ?_
  refine q_bipush rfl ?_
  refine q_icmp_gt rfl (fun _ => ?_) (fun c => absurd hw c)
  refine q_iconst rfl ?_
  refine q_ireturn rfl rfl ?_
  show aW aiP 0 17 658 233 [(4, .int 0), (3, .ref 233), (2, .ref 191), (1, .ref 6), (0, .ref 0)] [.int (-1)] h _
  refine q_aload_n rfl rfl ?_
  refine q_aload_n rfl rfl ?_
  refine q_iload rfl rfl ?_
  refine q_iconst rfl ?_
  refine s_iadd (k := 1) rfl (by decide) ?_
  refine s_iaload (j := 1) (v := .int (xs 1)) rfl e0 (by decide) rfl (by first | rfl | decide) ?_
  have e191 := F.2.2.2.2.2.2.2.2.2.2.2.2.2.2.2.2.2.2.2.2.2.2.2.2.2.2.2.1
  refine s_callV (as := [.int (xs 1)]) (rest := [.int (-1)]) (d' := 16) (w' := 636) (lv' := [(0, .ref 191), (1, .int (xs 1))]) rfl e191 rfl rfl rfl rfl rfl rfl ?_
  refine q_aload_n rfl rfl ?_
  refine q_iconst rfl ?_
  refine s_put (vs' := [.int 0, .ref 192, .ref 193, .int 0, .ref 194, .ref 195, .ref 196, .ref 197, .ref 198, .ref 199, .ref 200, .ref 201, .ref 202, .ref 203, .ref 204, .ref 205, .int (-1), .int 0, .ref 206, .ref 207, .ref 208, .ref 209, .ref 210, .ref 211, .ref 212, .ref 213, .ref 214, .ref 215, .int 0, .int 0, .int 0, .int 0, .ref 216, .ref 217, .ref 218, .ref 219, .ref 220, .int (-1), .int 0, .int 0, .int 0, .int 0, .int 0, .int 0, .ref 221, .ref 222, .ref 223, .ref 224, .int 0, .ref 225, .int 0, .ref 226, .ref 227, .int 0, .ref 228, .ref 229, .ref 230, .ref 231, .ref 232]) rfl e191 rfl rfl rfl rfl (fun h1 o1 f1 => ?_)
  have s1 := s0.put f1
  refine q_iload_n rfl rfl ?_
  refine q_if_lt rfl (fun c => absurd c (nl20 hw)) (fun _ => ?_)
  refine q_iload_n rfl rfl ?_
  refine q_bipush rfl ?_
  refine q_icmp_gt rfl (fun _ => ?_) (fun c => absurd hw c)
  refine q_iconst rfl ?_
  refine q_ireturn rfl rfl ?_
  show aW aiP 0 17 658 243 [(4, .int 0), (3, .ref 233), (2, .ref 191), (1, .ref 6), (0, .ref 0)] [.int (-1), .int (-1)] h1 _
  refine q_icmp_eq rfl (fun _ => ?_) (fun c => absurd (by decide) c)
  refine s_iinc (y := 6) (lv' := [(4, .int 6), (3, .ref 233), (2, .ref 191), (1, .ref 6), (0, .ref 0)]) rfl rfl (by decide) (by decide) rfl ?_
  refine q_goto rfl ?_
  refine q_iload rfl rfl ?_
  refine q_aload_n rfl rfl ?_
  have e0_1 := (f1.ne rfl e0)
  refine s_alen (x := 6) rfl e0_1 rfl (by decide) ?_
  refine q_bipush rfl ?_
  refine s_isub (k := 0) rfl (by decide) ?_
  refine q_icmp_gt rfl (fun _ => ?_) (fun c => absurd (by decide) c)
  refine q_iconst rfl ?_
  refine q_ireturn rfl rfl ?_
  exact ⟨rfl, s1.bd rfl⟩
set_option maxRecDepth 20000 in
set_option maxHeartbeats 4000000 in
theorem p_case1_0 {xs : Nat → Int32} {h : ai_H} (F : Fresh 6 xs h) (hk : xs 0 &&& 31 = 1) (hw : xs 1 = 0) : aW aiP 0 17 658 33 [(4, .int 0), (3, .ref 233), (2, .ref 191), (1, .ref 6), (0, .ref 0)] [] h p_Q := by
  have s0 := F.2.2.2.2.2.2.2.2.2.2.2.2.2.2.2.2.2.2.2.2.2.2.2.2.2.2.2.2.2.2.2.2.2.2.2.2.2.2.2.2.2.2.2.2.2.2.2.2.2.2.2.2.2.2.2.2.2.2.2.2.2.2.2.2.2.2.2.2.2.2
  refine q_aload_n rfl rfl ?_
  refine q_iload rfl rfl ?_
  have e0 := F.1
  refine s_iaload (j := 0) (v := .int (xs 0)) rfl e0 (by decide) rfl (by first | rfl | decide) ?_
  refine q_bipush rfl ?_
  refine s_iand (k := ((xs 0) &&& (31 : Int32))) rfl rfl ?_
  rw [hk]
  show aW aiP 0 17 658 40 [(4, .int 0), (3, .ref 233), (2, .ref 191), (1, .ref 6), (0, .ref 0)] [.int 1] h _
  refine s_sw (tg := 223) rfl rfl ?_
  refine q_aload_n rfl rfl ?_
  refine q_aload_n rfl rfl ?_
  refine q_iload rfl rfl ?_
  refine q_iconst rfl ?_
  refine s_iadd (k := 1) rfl (by decide) ?_
  refine s_iaload (j := 1) (v := .int (xs 1)) rfl e0 (by decide) rfl (by first | rfl | decide) ?_
  rw [hw]
  have e6 := F.2.2.2.2.2.2.1
  refine s_callV (as := [.int 0]) (rest := []) (d' := 16) (w' := 637) (lv' := [(0, .ref 6), (1, .int 0)]) rfl e6 rfl rfl rfl rfl rfl rfl ?_
  refine q_iload_n rfl rfl ?_
  refine q_if_lt rfl (fun c => absurd c (by decide)) (fun _ => ?_)
  refine q_iload_n rfl rfl ?_
  refine q_bipush rfl ?_
  refine q_icmp_gt rfl (fun c => absurd c (by decide)) (fun _ => ?_)
  refine q_aload_n rfl rfl ?_
  refine s_get (v := .int 0) rfl e6 rfl rfl ?_
  refine q_iload_n rfl rfl ?_
  refine s_iadd (k := 0) rfl (by decide) ?_
  refine q_sipush rfl ?_
  refine q_icmp_le rfl (fun _ => ?_) (fun c => absurd (by decide) c)
  refine q_aload_n rfl rfl ?_
  refine s_get (v := .ref 7) rfl e6 rfl rfl ?_
  refine q_iconst rfl ?_
  refine q_aload_n rfl rfl ?_
  refine s_get (v := .ref 8) rfl e6 rfl rfl ?_
  refine q_aload_n rfl rfl ?_
  refine s_get (v := .int 0) rfl e6 rfl rfl ?_
  refine q_iload_n rfl rfl ?_
  have e7 := F.2.2.2.2.2.2.2.1
  have e8 := F.2.2.2.2.2.2.2.2.1
  refine s_copy (sp := 0) (dp := 0) (k := 0) rfl e7 e8 (by decide) (by decide) (by decide) rfl (by decide) (by decide) (by decide) (fun i hi => absurd hi (Nat.not_lt_zero i)) (fun h1 o1 f1 => ?_)
  have s1 := s0.put f1
  refine q_aload_n rfl rfl ?_
  refine q_dup rfl rfl ?_
  have e6_1 := (e6.ne f1 rfl)
  refine s_get (v := .int 0) rfl e6_1 rfl rfl ?_
  refine q_iload_n rfl rfl ?_
  refine s_iadd (k := 0) rfl (by decide) ?_
  refine s_put (vs' := [.ref 7, .ref 8, .int 0, .ref 9, .int (-1), .ref 51, .ref 93, .ref 135, .ref 177, .ref 180, .int 0, .ref 183, .ref 186, .ref 189]) rfl e6_1 rfl rfl rfl rfl (fun h2 o2 f2 => ?_)
  have s2 := s1.put f2
  refine q_aload_n rfl rfl ?_
  refine s_get (v := .ref 7) rfl o2 rfl rfl ?_
  refine q_iconst rfl ?_
  refine s_callS (as := [.ref 7, .int 0]) (rest := []) (d' := 15) (w' := 614) (lv' := [(0, .ref 7), (1, .int 0)]) rfl rfl rfl rfl rfl rfl rfl rfl ?_
  refine q_iconst rfl ?_
  refine s_istore_n (lv' := [(2, .int 0), (0, .ref 7), (1, .int 0)]) rfl (by decide) rfl ?_
  refine q_aload_n rfl rfl ?_
  have e7_2 := (f2.ne rfl (f1.ne rfl e7))
  refine s_alen (x := 20) rfl e7_2 rfl (by decide) ?_
  refine s_istore_n (lv' := [(3, .int 20), (2, .int 0), (0, .ref 7), (1, .int 0)]) rfl (by decide) rfl ?_
  refine aW_lv (l := [(2, .int (nI 0)), (3, .int 20), (0, .ref 7), (1, .int 0)]) ?_ rfl rfl (by repeat' (first | exact inL_n | refine inL_c rfl ?_))
  refine fi_loop (a := 7) (by decide) 20 0 h2 _ rfl e7_2 (fun h3 f3 => ?_)
  have s3 := s2.put f3
  show aW aiP 15 16 637 59 [(0, .ref 6), (1, .int 0)] [] h3 _
  refine q_aload_n rfl rfl ?_
  have e6_3 := (o2.ne f3 rfl)
  refine s_get (v := .int 0) rfl e6_3 rfl rfl ?_
  refine q_ireturn rfl rfl ?_
  show aW aiP 0 17 658 233 [(4, .int 0), (3, .ref 233), (2, .ref 191), (1, .ref 6), (0, .ref 0)] [.int 0] h3 _
  refine q_aload_n rfl rfl ?_
  refine q_aload_n rfl rfl ?_
  refine q_iload rfl rfl ?_
  refine q_iconst rfl ?_
  refine s_iadd (k := 1) rfl (by decide) ?_
  have e0_3 := (f3.ne rfl (f2.ne rfl (f1.ne rfl e0)))
  refine s_iaload (j := 1) (v := .int (xs 1)) rfl e0_3 (by decide) rfl (by first | rfl | decide) ?_
  rw [hw]
  have e191 := F.2.2.2.2.2.2.2.2.2.2.2.2.2.2.2.2.2.2.2.2.2.2.2.2.2.2.2.1
  have e191_3 := (((e191.ne f1 rfl).ne f2 rfl).ne f3 rfl)
  refine s_callV (as := [.int 0]) (rest := [.int 0]) (d' := 16) (w' := 636) (lv' := [(0, .ref 191), (1, .int 0)]) rfl e191_3 rfl rfl rfl rfl rfl rfl ?_
  refine q_aload_n rfl rfl ?_
  refine q_iconst rfl ?_
  refine s_put (vs' := [.int 0, .ref 192, .ref 193, .int 0, .ref 194, .ref 195, .ref 196, .ref 197, .ref 198, .ref 199, .ref 200, .ref 201, .ref 202, .ref 203, .ref 204, .ref 205, .int (-1), .int 0, .ref 206, .ref 207, .ref 208, .ref 209, .ref 210, .ref 211, .ref 212, .ref 213, .ref 214, .ref 215, .int 0, .int 0, .int 0, .int 0, .ref 216, .ref 217, .ref 218, .ref 219, .ref 220, .int (-1), .int 0, .int 0, .int 0, .int 0, .int 0, .int 0, .ref 221, .ref 222, .ref 223, .ref 224, .int 0, .ref 225, .int 0, .ref 226, .ref 227, .int 0, .ref 228, .ref 229, .ref 230, .ref 231, .ref 232]) rfl e191_3 rfl rfl rfl rfl (fun h4 o4 f4 => ?_)
  have s4 := s3.put f4
  refine q_iload_n rfl rfl ?_
  refine q_if_lt rfl (fun c => absurd c (by decide)) (fun _ => ?_)
  refine q_iload_n rfl rfl ?_
  refine q_bipush rfl ?_
  refine q_icmp_gt rfl (fun c => absurd c (by decide)) (fun _ => ?_)
  refine q_aload_n rfl rfl ?_
  refine s_get (v := .int 0) rfl o4 rfl rfl ?_
  refine q_iload_n rfl rfl ?_
  refine s_iadd (k := 0) rfl (by decide) ?_
  refine q_sipush rfl ?_
  refine q_icmp_le rfl (fun _ => ?_) (fun c => absurd (by decide) c)
  refine q_iconst rfl ?_
  refine s_istore_n (lv' := [(2, .int 0), (0, .ref 191), (1, .int 0)]) rfl (by decide) rfl ?_
  refine q_iload_n rfl rfl ?_
  refine q_iload_n rfl rfl ?_
  refine q_icmp_ge rfl (fun _ => ?_) (fun c => absurd (by decide) c)
  refine q_iconst rfl ?_
  refine s_istore_n (lv' := [(2, .int 0), (0, .ref 191), (1, .int 0)]) rfl (by decide) rfl ?_
  have e192 := F.2.2.2.2.2.2.2.2.2.2.2.2.2.2.2.2.2.2.2.2.2.2.2.2.2.2.2.2.1
  have e192_4 := (f4.ne rfl (f3.ne rfl (f2.ne rfl (f1.ne rfl e192))))
  refine en_loop (m := 191) (a := 192) rfl rfl (by decide) (by decide) 20 0 h4 _ rfl o4 e192_4 (fun h5 f5 => ?_)
  have s5 := s4.put f5
  show aW aiP 217 16 636 88 [(2, .int 20), (0, .ref 191), (1, .int 0)] [] h5 _
  refine q_aload_n rfl rfl ?_
  have e191_5 := (o4.ne f5 rfl)
  refine s_get (v := .int 0) rfl e191_5 rfl rfl ?_
  refine q_ireturn rfl rfl ?_
  show aW aiP 0 17 658 243 [(4, .int 0), (3, .ref 233), (2, .ref 191), (1, .ref 6), (0, .ref 0)] [.int 0, .int 0] h5 _
  refine q_icmp_eq rfl (fun _ => ?_) (fun c => absurd (by decide) c)
  refine s_iinc (y := 6) (lv' := [(4, .int 6), (3, .ref 233), (2, .ref 191), (1, .ref 6), (0, .ref 0)]) rfl rfl (by decide) (by decide) rfl ?_
  refine q_goto rfl ?_
  refine q_iload rfl rfl ?_
  refine q_aload_n rfl rfl ?_
  have e0_5 := (f5.ne rfl (f4.ne rfl e0_3))
  refine s_alen (x := 6) rfl e0_5 rfl (by decide) ?_
  refine q_bipush rfl ?_
  refine s_isub (k := 0) rfl (by decide) ?_
  refine q_icmp_gt rfl (fun _ => ?_) (fun c => absurd (by decide) c)
  refine q_iconst rfl ?_
  refine q_ireturn rfl rfl ?_
  exact ⟨rfl, s5.bd rfl⟩
set_option maxRecDepth 20000 in
set_option maxHeartbeats 4000000 in
theorem p_case1_1 {xs : Nat → Int32} {h : ai_H} (F : Fresh 6 xs h) (hk : xs 0 &&& 31 = 1) (hw : xs 1 = 1) : aW aiP 0 17 658 33 [(4, .int 0), (3, .ref 233), (2, .ref 191), (1, .ref 6), (0, .ref 0)] [] h p_Q := by
  have s0 := F.2.2.2.2.2.2.2.2.2.2.2.2.2.2.2.2.2.2.2.2.2.2.2.2.2.2.2.2.2.2.2.2.2.2.2.2.2.2.2.2.2.2.2.2.2.2.2.2.2.2.2.2.2.2.2.2.2.2.2.2.2.2.2.2.2.2.2.2.2.2
  refine q_aload_n rfl rfl ?_
  refine q_iload rfl rfl ?_
  have e0 := F.1
  refine s_iaload (j := 0) (v := .int (xs 0)) rfl e0 (by decide) rfl (by first | rfl | decide) ?_
  refine q_bipush rfl ?_
  refine s_iand (k := ((xs 0) &&& (31 : Int32))) rfl rfl ?_
  rw [hk]
  show aW aiP 0 17 658 40 [(4, .int 0), (3, .ref 233), (2, .ref 191), (1, .ref 6), (0, .ref 0)] [.int 1] h _
  refine s_sw (tg := 223) rfl rfl ?_
  refine q_aload_n rfl rfl ?_
  refine q_aload_n rfl rfl ?_
  refine q_iload rfl rfl ?_
  refine q_iconst rfl ?_
  refine s_iadd (k := 1) rfl (by decide) ?_
  refine s_iaload (j := 1) (v := .int (xs 1)) rfl e0 (by decide) rfl (by first | rfl | decide) ?_
  rw [hw]
  have e6 := F.2.2.2.2.2.2.1
  refine s_callV (as := [.int 1]) (rest := []) (d' := 16) (w' := 637) (lv' := [(0, .ref 6), (1, .int 1)]) rfl e6 rfl rfl rfl rfl rfl rfl ?_
  refine q_iload_n rfl rfl ?_
  refine q_if_lt rfl (fun c => absurd c (by decide)) (fun _ => ?_)
  refine q_iload_n rfl rfl ?_
  refine q_bipush rfl ?_
  refine q_icmp_gt rfl (fun c => absurd c (by decide)) (fun _ => ?_)
  refine q_aload_n rfl rfl ?_
  refine s_get (v := .int 0) rfl e6 rfl rfl ?_
  refine q_iload_n rfl rfl ?_
  refine s_iadd (k := 1) rfl (by decide) ?_
  refine q_sipush rfl ?_
  refine q_icmp_le rfl (fun _ => ?_) (fun c => absurd (by decide) c)
  refine q_aload_n rfl rfl ?_
  refine s_get (v := .ref 7) rfl e6 rfl rfl ?_
  refine q_iconst rfl ?_
  refine q_aload_n rfl rfl ?_
  refine s_get (v := .ref 8) rfl e6 rfl rfl ?_
  refine q_aload_n rfl rfl ?_
  refine s_get (v := .int 0) rfl e6 rfl rfl ?_
  refine q_iload_n rfl rfl ?_
  have e7 := F.2.2.2.2.2.2.2.1
  have e8 := F.2.2.2.2.2.2.2.2.1
  refine s_copy (sp := 0) (dp := 0) (k := 1) rfl e7 e8 (by decide) (by decide) (by decide) rfl (by decide) (by decide) (by decide) (fun i _ => rfl) (fun h1 o1 f1 => ?_)
  have s1 := s0.put f1
  refine q_aload_n rfl rfl ?_
  refine q_dup rfl rfl ?_
  have e6_1 := (e6.ne f1 rfl)
  refine s_get (v := .int 0) rfl e6_1 rfl rfl ?_
  refine q_iload_n rfl rfl ?_
  refine s_iadd (k := 1) rfl (by decide) ?_
  refine s_put (vs' := [.ref 7, .ref 8, .int 1, .ref 9, .int (-1), .ref 51, .ref 93, .ref 135, .ref 177, .ref 180, .int 0, .ref 183, .ref 186, .ref 189]) rfl e6_1 rfl rfl rfl rfl (fun h2 o2 f2 => ?_)
  have s2 := s1.put f2
  refine q_aload_n rfl rfl ?_
  refine s_get (v := .ref 7) rfl o2 rfl rfl ?_
  refine q_iconst rfl ?_
  refine s_callS (as := [.ref 7, .int 0]) (rest := []) (d' := 15) (w' := 614) (lv' := [(0, .ref 7), (1, .int 0)]) rfl rfl rfl rfl rfl rfl rfl rfl ?_
  refine q_iconst rfl ?_
  refine s_istore_n (lv' := [(2, .int 0), (0, .ref 7), (1, .int 0)]) rfl (by decide) rfl ?_
  refine q_aload_n rfl rfl ?_
  have e7_2 := (f2.ne rfl (f1.ne rfl e7))
  refine s_alen (x := 20) rfl e7_2 rfl (by decide) ?_
  refine s_istore_n (lv' := [(3, .int 20), (2, .int 0), (0, .ref 7), (1, .int 0)]) rfl (by decide) rfl ?_
  refine aW_lv (l := [(2, .int (nI 0)), (3, .int 20), (0, .ref 7), (1, .int 0)]) ?_ rfl rfl (by repeat' (first | exact inL_n | refine inL_c rfl ?_))
  refine fi_loop (a := 7) (by decide) 20 0 h2 _ rfl e7_2 (fun h3 f3 => ?_)
  have s3 := s2.put f3
  show aW aiP 15 16 637 59 [(0, .ref 6), (1, .int 1)] [] h3 _
  refine q_aload_n rfl rfl ?_
  have e6_3 := (o2.ne f3 rfl)
  refine s_get (v := .int 1) rfl e6_3 rfl rfl ?_
  refine q_ireturn rfl rfl ?_
  show aW aiP 0 17 658 233 [(4, .int 0), (3, .ref 233), (2, .ref 191), (1, .ref 6), (0, .ref 0)] [.int 1] h3 _
  refine q_aload_n rfl rfl ?_
  refine q_aload_n rfl rfl ?_
  refine q_iload rfl rfl ?_
  refine q_iconst rfl ?_
  refine s_iadd (k := 1) rfl (by decide) ?_
  have e0_3 := (f3.ne rfl (f2.ne rfl (f1.ne rfl e0)))
  refine s_iaload (j := 1) (v := .int (xs 1)) rfl e0_3 (by decide) rfl (by first | rfl | decide) ?_
  rw [hw]
  have e191 := F.2.2.2.2.2.2.2.2.2.2.2.2.2.2.2.2.2.2.2.2.2.2.2.2.2.2.2.1
  have e191_3 := (((e191.ne f1 rfl).ne f2 rfl).ne f3 rfl)
  refine s_callV (as := [.int 1]) (rest := [.int 1]) (d' := 16) (w' := 636) (lv' := [(0, .ref 191), (1, .int 1)]) rfl e191_3 rfl rfl rfl rfl rfl rfl ?_
  refine q_aload_n rfl rfl ?_
  refine q_iconst rfl ?_
  refine s_put (vs' := [.int 0, .ref 192, .ref 193, .int 0, .ref 194, .ref 195, .ref 196, .ref 197, .ref 198, .ref 199, .ref 200, .ref 201, .ref 202, .ref 203, .ref 204, .ref 205, .int (-1), .int 0, .ref 206, .ref 207, .ref 208, .ref 209, .ref 210, .ref 211, .ref 212, .ref 213, .ref 214, .ref 215, .int 0, .int 0, .int 0, .int 0, .ref 216, .ref 217, .ref 218, .ref 219, .ref 220, .int (-1), .int 0, .int 0, .int 0, .int 0, .int 0, .int 0, .ref 221, .ref 222, .ref 223, .ref 224, .int 0, .ref 225, .int 0, .ref 226, .ref 227, .int 0, .ref 228, .ref 229, .ref 230, .ref 231, .ref 232]) rfl e191_3 rfl rfl rfl rfl (fun h4 o4 f4 => ?_)
  have s4 := s3.put f4
  refine q_iload_n rfl rfl ?_
  refine q_if_lt rfl (fun c => absurd c (by decide)) (fun _ => ?_)
  refine q_iload_n rfl rfl ?_
  refine q_bipush rfl ?_
  refine q_icmp_gt rfl (fun c => absurd c (by decide)) (fun _ => ?_)
  refine q_aload_n rfl rfl ?_
  refine s_get (v := .int 0) rfl o4 rfl rfl ?_
  refine q_iload_n rfl rfl ?_
  refine s_iadd (k := 1) rfl (by decide) ?_
  refine q_sipush rfl ?_
  refine q_icmp_le rfl (fun _ => ?_) (fun c => absurd (by decide) c)
  refine q_iconst rfl ?_
  refine s_istore_n (lv' := [(2, .int 0), (0, .ref 191), (1, .int 1)]) rfl (by decide) rfl ?_
  refine q_iload_n rfl rfl ?_
  refine q_iload_n rfl rfl ?_
  refine q_icmp_ge rfl (fun c => absurd c (by decide)) (fun _ => ?_)
  refine q_aload_n rfl rfl ?_
  refine s_get (v := .ref 193) rfl o4 rfl rfl ?_
  refine q_aload_n rfl rfl ?_
  refine s_get (v := .int 0) rfl o4 rfl rfl ?_
  refine q_aload_n rfl rfl ?_
  refine s_get (v := .ref 192) rfl o4 rfl rfl ?_
  refine q_iload_n rfl rfl ?_
  have e192 := F.2.2.2.2.2.2.2.2.2.2.2.2.2.2.2.2.2.2.2.2.2.2.2.2.2.2.2.2.1
  have e192_4 := (f4.ne rfl (f3.ne rfl (f2.ne rfl (f1.ne rfl e192))))
  refine s_iaload (j := 0) (v := .int 0) rfl e192_4 (by decide) rfl (by first | rfl | decide) ?_
  have e193 := F.2.2.2.2.2.2.2.2.2.2.2.2.2.2.2.2.2.2.2.2.2.2.2.2.2.2.2.2.2.1
  have e193_4 := (f4.ne rfl (f3.ne rfl (f2.ne rfl (f1.ne rfl e193))))
  refine s_iastore (j := 0) rfl e193_4 (by decide) rfl (fun h5 o5 f5 => ?_)
  have s5 := s4.put f5
  refine q_aload_n rfl rfl ?_
  refine q_dup rfl rfl ?_
  have e191_5 := (o4.ne f5 rfl)
  refine s_get (v := .int 0) rfl e191_5 rfl rfl ?_
  refine q_iconst rfl ?_
  refine s_iadd (k := 1) rfl (by decide) ?_
  refine s_put (vs' := [.int 0, .ref 192, .ref 193, .int 1, .ref 194, .ref 195, .ref 196, .ref 197, .ref 198, .ref 199, .ref 200, .ref 201, .ref 202, .ref 203, .ref 204, .ref 205, .int (-1), .int 0, .ref 206, .ref 207, .ref 208, .ref 209, .ref 210, .ref 211, .ref 212, .ref 213, .ref 214, .ref 215, .int 0, .int 0, .int 0, .int 0, .ref 216, .ref 217, .ref 218, .ref 219, .ref 220, .int (-1), .int 0, .int 0, .int 0, .int 0, .int 0, .int 0, .ref 221, .ref 222, .ref 223, .ref 224, .int 0, .ref 225, .int 0, .ref 226, .ref 227, .int 0, .ref 228, .ref 229, .ref 230, .ref 231, .ref 232]) rfl e191_5 rfl rfl rfl rfl (fun h6 o6 f6 => ?_)
  have s6 := s5.put f6
  refine s_iinc (y := 1) (lv' := [(2, .int 1), (0, .ref 191), (1, .int 1)]) rfl rfl (by decide) (by decide) rfl ?_
  refine q_goto rfl ?_
  refine q_iload_n rfl rfl ?_
  refine q_iload_n rfl rfl ?_
  refine q_icmp_ge rfl (fun _ => ?_) (fun c => absurd (by decide) c)
  refine q_iconst rfl ?_
  refine s_istore_n (lv' := [(2, .int 0), (0, .ref 191), (1, .int 1)]) rfl (by decide) rfl ?_
  have e192_6 := (f6.ne rfl (f5.ne rfl e192_4))
  refine en_loop (m := 191) (a := 192) rfl rfl (by decide) (by decide) 20 0 h6 _ rfl o6 e192_6 (fun h7 f7 => ?_)
  have s7 := s6.put f7
  show aW aiP 217 16 636 88 [(2, .int 20), (0, .ref 191), (1, .int 1)] [] h7 _
  refine q_aload_n rfl rfl ?_
  have e191_7 := (o6.ne f7 rfl)
  refine s_get (v := .int 1) rfl e191_7 rfl rfl ?_
  refine q_ireturn rfl rfl ?_
  show aW aiP 0 17 658 243 [(4, .int 0), (3, .ref 233), (2, .ref 191), (1, .ref 6), (0, .ref 0)] [.int 1, .int 1] h7 _
  refine q_icmp_eq rfl (fun _ => ?_) (fun c => absurd (by decide) c)
  refine s_iinc (y := 6) (lv' := [(4, .int 6), (3, .ref 233), (2, .ref 191), (1, .ref 6), (0, .ref 0)]) rfl rfl (by decide) (by decide) rfl ?_
  refine q_goto rfl ?_
  refine q_iload rfl rfl ?_
  refine q_aload_n rfl rfl ?_
  have e0_7 := (f7.ne rfl (f6.ne rfl (f5.ne rfl (f4.ne rfl e0_3))))
  refine s_alen (x := 6) rfl e0_7 rfl (by decide) ?_
  refine q_bipush rfl ?_
  refine s_isub (k := 0) rfl (by decide) ?_
  refine q_icmp_gt rfl (fun _ => ?_) (fun c => absurd (by decide) c)
  refine q_iconst rfl ?_
  refine q_ireturn rfl rfl ?_
  exact ⟨rfl, s7.bd rfl⟩
set_option maxRecDepth 20000 in
set_option maxHeartbeats 4000000 in
theorem p_case1_2 {xs : Nat → Int32} {h : ai_H} (F : Fresh 6 xs h) (hk : xs 0 &&& 31 = 1) (hw : xs 1 = 2) : aW aiP 0 17 658 33 [(4, .int 0), (3, .ref 233), (2, .ref 191), (1, .ref 6), (0, .ref 0)] [] h p_Q := by
  have s0 := F.2.2.2.2.2.2.2.2.2.2.2.2.2.2.2.2.2.2.2.2.2.2.2.2.2.2.2.2.2.2.2.2.2.2.2.2.2.2.2.2.2.2.2.2.2.2.2.2.2.2.2.2.2.2.2.2.2.2.2.2.2.2.2.2.2.2.2.2.2.2
  refine q_aload_n rfl rfl ?_
  refine q_iload rfl rfl ?_
  have e0 := F.1
  refine s_iaload (j := 0) (v := .int (xs 0)) rfl e0 (by decide) rfl (by first | rfl | decide) ?_
  refine q_bipush rfl ?_
  refine s_iand (k := ((xs 0) &&& (31 : Int32))) rfl rfl ?_
  rw [hk]
  show aW aiP 0 17 658 40 [(4, .int 0), (3, .ref 233), (2, .ref 191), (1, .ref 6), (0, .ref 0)] [.int 1] h _
  refine s_sw (tg := 223) rfl rfl ?_
  refine q_aload_n rfl rfl ?_
  refine q_aload_n rfl rfl ?_
  refine q_iload rfl rfl ?_
  refine q_iconst rfl ?_
  refine s_iadd (k := 1) rfl (by decide) ?_
  refine s_iaload (j := 1) (v := .int (xs 1)) rfl e0 (by decide) rfl (by first | rfl | decide) ?_
  rw [hw]
  have e6 := F.2.2.2.2.2.2.1
  refine s_callV (as := [.int 2]) (rest := []) (d' := 16) (w' := 637) (lv' := [(0, .ref 6), (1, .int 2)]) rfl e6 rfl rfl rfl rfl rfl rfl ?_
  refine q_iload_n rfl rfl ?_
  refine q_if_lt rfl (fun c => absurd c (by decide)) (fun _ => ?_)
  refine q_iload_n rfl rfl ?_
  refine q_bipush rfl ?_
  refine q_icmp_gt rfl (fun c => absurd c (by decide)) (fun _ => ?_)
  refine q_aload_n rfl rfl ?_
  refine s_get (v := .int 0) rfl e6 rfl rfl ?_
  refine q_iload_n rfl rfl ?_
  refine s_iadd (k := 2) rfl (by decide) ?_
  refine q_sipush rfl ?_
  refine q_icmp_le rfl (fun _ => ?_) (fun c => absurd (by decide) c)
  refine q_aload_n rfl rfl ?_
  refine s_get (v := .ref 7) rfl e6 rfl rfl ?_
  refine q_iconst rfl ?_
  refine q_aload_n rfl rfl ?_
  refine s_get (v := .ref 8) rfl e6 rfl rfl ?_
  refine q_aload_n rfl rfl ?_
  refine s_get (v := .int 0) rfl e6 rfl rfl ?_
  refine q_iload_n rfl rfl ?_
  have e7 := F.2.2.2.2.2.2.2.1
  have e8 := F.2.2.2.2.2.2.2.2.1
  refine s_copy (sp := 0) (dp := 0) (k := 2) rfl e7 e8 (by decide) (by decide) (by decide) rfl (by decide) (by decide) (by decide) (fun i _ => rfl) (fun h1 o1 f1 => ?_)
  have s1 := s0.put f1
  refine q_aload_n rfl rfl ?_
  refine q_dup rfl rfl ?_
  have e6_1 := (e6.ne f1 rfl)
  refine s_get (v := .int 0) rfl e6_1 rfl rfl ?_
  refine q_iload_n rfl rfl ?_
  refine s_iadd (k := 2) rfl (by decide) ?_
  refine s_put (vs' := [.ref 7, .ref 8, .int 2, .ref 9, .int (-1), .ref 51, .ref 93, .ref 135, .ref 177, .ref 180, .int 0, .ref 183, .ref 186, .ref 189]) rfl e6_1 rfl rfl rfl rfl (fun h2 o2 f2 => ?_)
  have s2 := s1.put f2
  refine q_aload_n rfl rfl ?_
  refine s_get (v := .ref 7) rfl o2 rfl rfl ?_
  refine q_iconst rfl ?_
  refine s_callS (as := [.ref 7, .int 0]) (rest := []) (d' := 15) (w' := 614) (lv' := [(0, .ref 7), (1, .int 0)]) rfl rfl rfl rfl rfl rfl rfl rfl ?_
  refine q_iconst rfl ?_
  refine s_istore_n (lv' := [(2, .int 0), (0, .ref 7), (1, .int 0)]) rfl (by decide) rfl ?_
  refine q_aload_n rfl rfl ?_
  have e7_2 := (f2.ne rfl (f1.ne rfl e7))
  refine s_alen (x := 20) rfl e7_2 rfl (by decide) ?_
  refine s_istore_n (lv' := [(3, .int 20), (2, .int 0), (0, .ref 7), (1, .int 0)]) rfl (by decide) rfl ?_
  refine aW_lv (l := [(2, .int (nI 0)), (3, .int 20), (0, .ref 7), (1, .int 0)]) ?_ rfl rfl (by repeat' (first | exact inL_n | refine inL_c rfl ?_))
  refine fi_loop (a := 7) (by decide) 20 0 h2 _ rfl e7_2 (fun h3 f3 => ?_)
  have s3 := s2.put f3
  show aW aiP 15 16 637 59 [(0, .ref 6), (1, .int 2)] [] h3 _
  refine q_aload_n rfl rfl ?_
  have e6_3 := (o2.ne f3 rfl)
  refine s_get (v := .int 2) rfl e6_3 rfl rfl ?_
  refine q_ireturn rfl rfl ?_
  show aW aiP 0 17 658 233 [(4, .int 0), (3, .ref 233), (2, .ref 191), (1, .ref 6), (0, .ref 0)] [.int 2] h3 _
  refine q_aload_n rfl rfl ?_
  refine q_aload_n rfl rfl ?_
  refine q_iload rfl rfl ?_
  refine q_iconst rfl ?_
  refine s_iadd (k := 1) rfl (by decide) ?_
  have e0_3 := (f3.ne rfl (f2.ne rfl (f1.ne rfl e0)))
  refine s_iaload (j := 1) (v := .int (xs 1)) rfl e0_3 (by decide) rfl (by first | rfl | decide) ?_
  rw [hw]
  have e191 := F.2.2.2.2.2.2.2.2.2.2.2.2.2.2.2.2.2.2.2.2.2.2.2.2.2.2.2.1
  have e191_3 := (((e191.ne f1 rfl).ne f2 rfl).ne f3 rfl)
  refine s_callV (as := [.int 2]) (rest := [.int 2]) (d' := 16) (w' := 636) (lv' := [(0, .ref 191), (1, .int 2)]) rfl e191_3 rfl rfl rfl rfl rfl rfl ?_
  refine q_aload_n rfl rfl ?_
  refine q_iconst rfl ?_
  refine s_put (vs' := [.int 0, .ref 192, .ref 193, .int 0, .ref 194, .ref 195, .ref 196, .ref 197, .ref 198, .ref 199, .ref 200, .ref 201, .ref 202, .ref 203, .ref 204, .ref 205, .int (-1), .int 0, .ref 206, .ref 207, .ref 208, .ref 209, .ref 210, .ref 211, .ref 212, .ref 213, .ref 214, .ref 215, .int 0, .int 0, .int 0, .int 0, .ref 216, .ref 217, .ref 218, .ref 219, .ref 220, .int (-1), .int 0, .int 0, .int 0, .int 0, .int 0, .int 0, .ref 221, .ref 222, .ref 223, .ref 224, .int 0, .ref 225, .int 0, .ref 226, .ref 227, .int 0, .ref 228, .ref 229, .ref 230, .ref 231, .ref 232]) rfl e191_3 rfl rfl rfl rfl (fun h4 o4 f4 => ?_)
  have s4 := s3.put f4
  refine q_iload_n rfl rfl ?_
  refine q_if_lt rfl (fun c => absurd c (by decide)) (fun _ => ?_)
  refine q_iload_n rfl rfl ?_
  refine q_bipush rfl ?_
  refine q_icmp_gt rfl (fun c => absurd c (by decide)) (fun _ => ?_)
  refine q_aload_n rfl rfl ?_
  refine s_get (v := .int 0) rfl o4 rfl rfl ?_
  refine q_iload_n rfl rfl ?_
  refine s_iadd (k := 2) rfl (by decide) ?_
  refine q_sipush rfl ?_
  refine q_icmp_le rfl (fun _ => ?_) (fun c => absurd (by decide) c)
  refine q_iconst rfl ?_
  refine s_istore_n (lv' := [(2, .int 0), (0, .ref 191), (1, .int 2)]) rfl (by decide) rfl ?_
  refine q_iload_n rfl rfl ?_
  refine q_iload_n rfl rfl ?_
  refine q_icmp_ge rfl (fun c => absurd c (by decide)) (fun _ => ?_)
  refine q_aload_n rfl rfl ?_
  refine s_get (v := .ref 193) rfl o4 rfl rfl ?_
  refine q_aload_n rfl rfl ?_
  refine s_get (v := .int 0) rfl o4 rfl rfl ?_
  refine q_aload_n rfl rfl ?_
  refine s_get (v := .ref 192) rfl o4 rfl rfl ?_
  refine q_iload_n rfl rfl ?_
  have e192 := F.2.2.2.2.2.2.2.2.2.2.2.2.2.2.2.2.2.2.2.2.2.2.2.2.2.2.2.2.1
  have e192_4 := (f4.ne rfl (f3.ne rfl (f2.ne rfl (f1.ne rfl e192))))
  refine s_iaload (j := 0) (v := .int 0) rfl e192_4 (by decide) rfl (by first | rfl | decide) ?_
  have e193 := F.2.2.2.2.2.2.2.2.2.2.2.2.2.2.2.2.2.2.2.2.2.2.2.2.2.2.2.2.2.1
  have e193_4 := (f4.ne rfl (f3.ne rfl (f2.ne rfl (f1.ne rfl e193))))
  refine s_iastore (j := 0) rfl e193_4 (by decide) rfl (fun h5 o5 f5 => ?_)
  have s5 := s4.put f5
  refine q_aload_n rfl rfl ?_
  refine q_dup rfl rfl ?_
  have e191_5 := (o4.ne f5 rfl)
  refine s_get (v := .int 0) rfl e191_5 rfl rfl ?_
  refine q_iconst rfl ?_
  refine s_iadd (k := 1) rfl (by decide) ?_
  refine s_put (vs' := [.int 0, .ref 192, .ref 193, .int 1, .ref 194, .ref 195, .ref 196, .ref 197, .ref 198, .ref 199, .ref 200, .ref 201, .ref 202, .ref 203, .ref 204, .ref 205, .int (-1), .int 0, .ref 206, .ref 207, .ref 208, .ref 209, .ref 210, .ref 211, .ref 212, .ref 213, .ref 214, .ref 215, .int 0, .int 0, .int 0, .int 0, .ref 216, .ref 217, .ref 218, .ref 219, .ref 220, .int (-1), .int 0, .int 0, .int 0, .int 0, .int 0, .int 0, .ref 221, .ref 222, .ref 223, .ref 224, .int 0, .ref 225, .int 0, .ref 226, .ref 227, .int 0, .ref 228, .ref 229, .ref 230, .ref 231, .ref 232]) rfl e191_5 rfl rfl rfl rfl (fun h6 o6 f6 => ?_)
  have s6 := s5.put f6
  refine s_iinc (y := 1) (lv' := [(2, .int 1), (0, .ref 191), (1, .int 2)]) rfl rfl (by decide) (by decide) rfl ?_
  refine q_goto rfl ?_
  refine q_iload_n rfl rfl ?_
  refine q_iload_n rfl rfl ?_
  refine q_icmp_ge rfl (fun c => absurd c (by decide)) (fun _ => ?_)
  refine q_aload_n rfl rfl ?_
  refine s_get (v := .ref 193) rfl o6 rfl rfl ?_
  refine q_aload_n rfl rfl ?_
  refine s_get (v := .int 1) rfl o6 rfl rfl ?_
  refine q_aload_n rfl rfl ?_
  refine s_get (v := .ref 192) rfl o6 rfl rfl ?_
  refine q_iload_n rfl rfl ?_
  have e192_6 := (f6.ne rfl (f5.ne rfl e192_4))
  refine s_iaload (j := 1) (v := .int 0) rfl e192_6 (by decide) rfl (by first | rfl | decide) ?_
  have e193_6 := (f6.ne rfl o5)
  refine s_iastore (j := 1) rfl e193_6 (by decide) rfl (fun h7 o7 f7 => ?_)
  have s7 := s6.put f7
  refine q_aload_n rfl rfl ?_
  refine q_dup rfl rfl ?_
  have e191_7 := (o6.ne f7 rfl)
  refine s_get (v := .int 1) rfl e191_7 rfl rfl ?_
  refine q_iconst rfl ?_
  refine s_iadd (k := 2) rfl (by decide) ?_
  refine s_put (vs' := [.int 0, .ref 192, .ref 193, .int 2, .ref 194, .ref 195, .ref 196, .ref 197, .ref 198, .ref 199, .ref 200, .ref 201, .ref 202, .ref 203, .ref 204, .ref 205, .int (-1), .int 0, .ref 206, .ref 207, .ref 208, .ref 209, .ref 210, .ref 211, .ref 212, .ref 213, .ref 214, .ref 215, .int 0, .int 0, .int 0, .int 0, .ref 216, .ref 217, .ref 218, .ref 219, .ref 220, .int (-1), .int 0, .int 0, .int 0, .int 0, .int 0, .int 0, .ref 221, .ref 222, .ref 223, .ref 224, .int 0, .ref 225, .int 0, .ref 226, .ref 227, .int 0, .ref 228, .ref 229, .ref 230, .ref 231, .ref 232]) rfl e191_7 rfl rfl rfl rfl (fun h8 o8 f8 => ?_)
  have s8 := s7.put f8
  refine s_iinc (y := 2) (lv' := [(2, .int 2), (0, .ref 191), (1, .int 2)]) rfl rfl (by decide) (by decide) rfl ?_
  refine q_goto rfl ?_
  refine q_iload_n rfl rfl ?_
  refine q_iload_n rfl rfl ?_
  refine q_icmp_ge rfl (fun _ => ?_) (fun c => absurd (by decide) c)
  refine q_iconst rfl ?_
  refine s_istore_n (lv' := [(2, .int 0), (0, .ref 191), (1, .int 2)]) rfl (by decide) rfl ?_
  have e192_8 := (f8.ne rfl (f7.ne rfl e192_6))
  refine en_loop (m := 191) (a := 192) rfl rfl (by decide) (by decide) 20 0 h8 _ rfl o8 e192_8 (fun h9 f9 => ?_)
  have s9 := s8.put f9
  show aW aiP 217 16 636 88 [(2, .int 20), (0, .ref 191), (1, .int 2)] [] h9 _
  refine q_aload_n rfl rfl ?_
  have e191_9 := (o8.ne f9 rfl)
  refine s_get (v := .int 2) rfl e191_9 rfl rfl ?_
  refine q_ireturn rfl rfl ?_
  show aW aiP 0 17 658 243 [(4, .int 0), (3, .ref 233), (2, .ref 191), (1, .ref 6), (0, .ref 0)] [.int 2, .int 2] h9 _
  refine q_icmp_eq rfl (fun _ => ?_) (fun c => absurd (by decide) c)
  refine s_iinc (y := 6) (lv' := [(4, .int 6), (3, .ref 233), (2, .ref 191), (1, .ref 6), (0, .ref 0)]) rfl rfl (by decide) (by decide) rfl ?_
  refine q_goto rfl ?_
  refine q_iload rfl rfl ?_
  refine q_aload_n rfl rfl ?_
  have e0_9 := (f9.ne rfl (f8.ne rfl (f7.ne rfl (f6.ne rfl (f5.ne rfl (f4.ne rfl e0_3))))))
  refine s_alen (x := 6) rfl e0_9 rfl (by decide) ?_
  refine q_bipush rfl ?_
  refine s_isub (k := 0) rfl (by decide) ?_
  refine q_icmp_gt rfl (fun _ => ?_) (fun c => absurd (by decide) c)
  refine q_iconst rfl ?_
  refine q_ireturn rfl rfl ?_
  exact ⟨rfl, s9.bd rfl⟩
set_option maxRecDepth 20000 in
set_option maxHeartbeats 4000000 in
theorem p_case1_3 {xs : Nat → Int32} {h : ai_H} (F : Fresh 6 xs h) (hk : xs 0 &&& 31 = 1) (hw : xs 1 = 3) : aW aiP 0 17 658 33 [(4, .int 0), (3, .ref 233), (2, .ref 191), (1, .ref 6), (0, .ref 0)] [] h p_Q := by
  have s0 := F.2.2.2.2.2.2.2.2.2.2.2.2.2.2.2.2.2.2.2.2.2.2.2.2.2.2.2.2.2.2.2.2.2.2.2.2.2.2.2.2.2.2.2.2.2.2.2.2.2.2.2.2.2.2.2.2.2.2.2.2.2.2.2.2.2.2.2.2.2.2
  refine q_aload_n rfl rfl ?_
  refine q_iload rfl rfl ?_
  have e0 := F.1
  refine s_iaload (j := 0) (v := .int (xs 0)) rfl e0 (by decide) rfl (by first | rfl | decide) ?_
  refine q_bipush rfl ?_
  refine s_iand (k := ((xs 0) &&& (31 : Int32))) rfl rfl ?_
  rw [hk]
  show aW aiP 0 17 658 40 [(4, .int 0), (3, .ref 233), (2, .ref 191), (1, .ref 6), (0, .ref 0)] [.int 1] h _
  refine s_sw (tg := 223) rfl rfl ?_
  refine q_aload_n rfl rfl ?_
  refine q_aload_n rfl rfl ?_
  refine q_iload rfl rfl ?_
  refine q_iconst rfl ?_
  refine s_iadd (k := 1) rfl (by decide) ?_
  refine s_iaload (j := 1) (v := .int (xs 1)) rfl e0 (by decide) rfl (by first | rfl | decide) ?_
  rw [hw]
  have e6 := F.2.2.2.2.2.2.1
  refine s_callV (as := [.int 3]) (rest := []) (d' := 16) (w' := 637) (lv' := [(0, .ref 6), (1, .int 3)]) rfl e6 rfl rfl rfl rfl rfl rfl ?_
  refine q_iload_n rfl rfl ?_
  refine q_if_lt rfl (fun c => absurd c (by decide)) (fun _ => ?_)
  refine q_iload_n rfl rfl ?_
  refine q_bipush rfl ?_
  refine q_icmp_gt rfl (fun c => absurd c (by decide)) (fun _ => ?_)
  refine q_aload_n rfl rfl ?_
  refine s_get (v := .int 0) rfl e6 rfl rfl ?_
  refine q_iload_n rfl rfl ?_
  refine s_iadd (k := 3) rfl (by decide) ?_
  refine q_sipush rfl ?_
  refine q_icmp_le rfl (fun _ => ?_) (fun c => absurd (by decide) c)
  refine q_aload_n rfl rfl ?_
  refine s_get (v := .ref 7) rfl e6 rfl rfl ?_
  refine q_iconst rfl ?_
  refine q_aload_n rfl rfl ?_
  refine s_get (v := .ref 8) rfl e6 rfl rfl ?_
  refine q_aload_n rfl rfl ?_
  refine s_get (v := .int 0) rfl e6 rfl rfl ?_
  refine q_iload_n rfl rfl ?_
  have e7 := F.2.2.2.2.2.2.2.1
  have e8 := F.2.2.2.2.2.2.2.2.1
  refine s_copy (sp := 0) (dp := 0) (k := 3) rfl e7 e8 (by decide) (by decide) (by decide) rfl (by decide) (by decide) (by decide) (fun i _ => rfl) (fun h1 o1 f1 => ?_)
  have s1 := s0.put f1
  refine q_aload_n rfl rfl ?_
  refine q_dup rfl rfl ?_
  have e6_1 := (e6.ne f1 rfl)
  refine s_get (v := .int 0) rfl e6_1 rfl rfl ?_
  refine q_iload_n rfl rfl ?_
  refine s_iadd (k := 3) rfl (by decide) ?_
  refine s_put (vs' := [.ref 7, .ref 8, .int 3, .ref 9, .int (-1), .ref 51, .ref 93, .ref 135, .ref 177, .ref 180, .int 0, .ref 183, .ref 186, .ref 189]) rfl e6_1 rfl rfl rfl rfl (fun h2 o2 f2 => ?_)
  have s2 := s1.put f2
  refine q_aload_n rfl rfl ?_
  refine s_get (v := .ref 7) rfl o2 rfl rfl ?_
  refine q_iconst rfl ?_
  refine s_callS (as := [.ref 7, .int 0]) (rest := []) (d' := 15) (w' := 614) (lv' := [(0, .ref 7), (1, .int 0)]) rfl rfl rfl rfl rfl rfl rfl rfl ?_
  refine q_iconst rfl ?_
  refine s_istore_n (lv' := [(2, .int 0), (0, .ref 7), (1, .int 0)]) rfl (by decide) rfl ?_
  refine q_aload_n rfl rfl ?_
  have e7_2 := (f2.ne rfl (f1.ne rfl e7))
  refine s_alen (x := 20) rfl e7_2 rfl (by decide) ?_
  refine s_istore_n (lv' := [(3, .int 20), (2, .int 0), (0, .ref 7), (1, .int 0)]) rfl (by decide) rfl ?_
  refine aW_lv (l := [(2, .int (nI 0)), (3, .int 20), (0, .ref 7), (1, .int 0)]) ?_ rfl rfl (by repeat' (first | exact inL_n | refine inL_c rfl ?_))
  refine fi_loop (a := 7) (by decide) 20 0 h2 _ rfl e7_2 (fun h3 f3 => ?_)
  have s3 := s2.put f3
  show aW aiP 15 16 637 59 [(0, .ref 6), (1, .int 3)] [] h3 _
  refine q_aload_n rfl rfl ?_
  have e6_3 := (o2.ne f3 rfl)
  refine s_get (v := .int 3) rfl e6_3 rfl rfl ?_
  refine q_ireturn rfl rfl ?_
  show aW aiP 0 17 658 233 [(4, .int 0), (3, .ref 233), (2, .ref 191), (1, .ref 6), (0, .ref 0)] [.int 3] h3 _
  refine q_aload_n rfl rfl ?_
  refine q_aload_n rfl rfl ?_
  refine q_iload rfl rfl ?_
  refine q_iconst rfl ?_
  refine s_iadd (k := 1) rfl (by decide) ?_
  have e0_3 := (f3.ne rfl (f2.ne rfl (f1.ne rfl e0)))
  refine s_iaload (j := 1) (v := .int (xs 1)) rfl e0_3 (by decide) rfl (by first | rfl | decide) ?_
  rw [hw]
  have e191 := F.2.2.2.2.2.2.2.2.2.2.2.2.2.2.2.2.2.2.2.2.2.2.2.2.2.2.2.1
  have e191_3 := (((e191.ne f1 rfl).ne f2 rfl).ne f3 rfl)
  refine s_callV (as := [.int 3]) (rest := [.int 3]) (d' := 16) (w' := 636) (lv' := [(0, .ref 191), (1, .int 3)]) rfl e191_3 rfl rfl rfl rfl rfl rfl ?_
  refine q_aload_n rfl rfl ?_
  refine q_iconst rfl ?_
  refine s_put (vs' := [.int 0, .ref 192, .ref 193, .int 0, .ref 194, .ref 195, .ref 196, .ref 197, .ref 198, .ref 199, .ref 200, .ref 201, .ref 202, .ref 203, .ref 204, .ref 205, .int (-1), .int 0, .ref 206, .ref 207, .ref 208, .ref 209, .ref 210, .ref 211, .ref 212, .ref 213, .ref 214, .ref 215, .int 0, .int 0, .int 0, .int 0, .ref 216, .ref 217, .ref 218, .ref 219, .ref 220, .int (-1), .int 0, .int 0, .int 0, .int 0, .int 0, .int 0, .ref 221, .ref 222, .ref 223, .ref 224, .int 0, .ref 225, .int 0, .ref 226, .ref 227, .int 0, .ref 228, .ref 229, .ref 230, .ref 231, .ref 232]) rfl e191_3 rfl rfl rfl rfl (fun h4 o4 f4 => ?_)
  have s4 := s3.put f4
  refine q_iload_n rfl rfl ?_
  refine q_if_lt rfl (fun c => absurd c (by decide)) (fun _ => ?_)
  refine q_iload_n rfl rfl ?_
  refine q_bipush rfl ?_
  refine q_icmp_gt rfl (fun c => absurd c (by decide)) (fun _ => ?_)
  refine q_aload_n rfl rfl ?_
  refine s_get (v := .int 0) rfl o4 rfl rfl ?_
  refine q_iload_n rfl rfl ?_
  refine s_iadd (k := 3) rfl (by decide) ?_
  refine q_sipush rfl ?_
  refine q_icmp_le rfl (fun _ => ?_) (fun c => absurd (by decide) c)
  refine q_iconst rfl ?_
  refine s_istore_n (lv' := [(2, .int 0), (0, .ref 191), (1, .int 3)]) rfl (by decide) rfl ?_
  refine q_iload_n rfl rfl ?_
  refine q_iload_n rfl rfl ?_
  refine q_icmp_ge rfl (fun c => absurd c (by decide)) (fun _ => ?_)
  refine q_aload_n rfl rfl ?_
  refine s_get (v := .ref 193) rfl o4 rfl rfl ?_
  refine q_aload_n rfl rfl ?_
  refine s_get (v := .int 0) rfl o4 rfl rfl ?_
  refine q_aload_n rfl rfl ?_
  refine s_get (v := .ref 192) rfl o4 rfl rfl ?_
  refine q_iload_n rfl rfl ?_
  have e192 := F.2.2.2.2.2.2.2.2.2.2.2.2.2.2.2.2.2.2.2.2.2.2.2.2.2.2.2.2.1
  have e192_4 := (f4.ne rfl (f3.ne rfl (f2.ne rfl (f1.ne rfl e192))))
  refine s_iaload (j := 0) (v := .int 0) rfl e192_4 (by decide) rfl (by first | rfl | decide) ?_
  have e193 := F.2.2.2.2.2.2.2.2.2.2.2.2.2.2.2.2.2.2.2.2.2.2.2.2.2.2.2.2.2.1
  have e193_4 := (f4.ne rfl (f3.ne rfl (f2.ne rfl (f1.ne rfl e193))))
  refine s_iastore (j := 0) rfl e193_4 (by decide) rfl (fun h5 o5 f5 => ?_)
  have s5 := s4.put f5
  refine q_aload_n rfl rfl ?_
  refine q_dup rfl rfl ?_
  have e191_5 := (o4.ne f5 rfl)
  refine s_get (v := .int 0) rfl e191_5 rfl rfl ?_
  refine q_iconst rfl ?_
  refine s_iadd (k := 1) rfl (by decide) ?_
  refine s_put (vs' := [.int 0, .ref 192, .ref 193, .int 1, .ref 194, .ref 195, .ref 196, .ref 197, .ref 198, .ref 199, .ref 200, .ref 201, .ref 202, .ref 203, .ref 204, .ref 205, .int (-1), .int 0, .ref 206, .ref 207, .ref 208, .ref 209, .ref 210, .ref 211, .ref 212, .ref 213, .ref 214, .ref 215, .int 0, .int 0, .int 0, .int 0, .ref 216, .ref 217, .ref 218, .ref 219, .ref 220, .int (-1), .int 0, .int 0, .int 0, .int 0, .int 0, .int 0, .ref 221, .ref 222, .ref 223, .ref 224, .int 0, .ref 225, .int 0, .ref 226, .ref 227, .int 0, .ref 228, .ref 229, .ref 230, .ref 231, .ref 232]) rfl e191_5 rfl rfl rfl rfl (fun h6 o6 f6 => ?_)
  have s6 := s5.put f6
  refine s_iinc (y := 1) (lv' := [(2, .int 1), (0, .ref 191), (1, .int 3)]) rfl rfl (by decide) (by decide) rfl ?_
  refine q_goto rfl ?_
  refine q_iload_n rfl rfl ?_
  refine q_iload_n rfl rfl ?_
  refine q_icmp_ge rfl (fun c => absurd c (by decide)) (fun _ => ?_)
  refine q_aload_n rfl rfl ?_
  refine s_get (v := .ref 193) rfl o6 rfl rfl ?_
  refine q_aload_n rfl rfl ?_
  refine s_get (v := .int 1) rfl o6 rfl rfl ?_
  refine q_aload_n rfl rfl ?_
  refine s_get (v := .ref 192) rfl o6 rfl rfl ?_
  refine q_iload_n rfl rfl ?_
  have e192_6 := (f6.ne rfl (f5.ne rfl e192_4))
  refine s_iaload (j := 1) (v := .int 0) rfl e192_6 (by decide) rfl (by first | rfl | decide) ?_
  have e193_6 := (f6.ne rfl o5)
  refine s_iastore (j := 1) rfl e193_6 (by decide) rfl (fun h7 o7 f7 => ?_)
  have s7 := s6.put f7
  refine q_aload_n rfl rfl ?_
  refine q_dup rfl rfl ?_
  have e191_7 := (o6.ne f7 rfl)
  refine s_get (v := .int 1) rfl e191_7 rfl rfl ?_
  refine q_iconst rfl ?_
  refine s_iadd (k := 2) rfl (by decide) ?_
  refine s_put (vs' := [.int 0, .ref 192, .ref 193, .int 2, .ref 194, .ref 195, .ref 196, .ref 197, .ref 198, .ref 199, .ref 200, .ref 201, .ref 202, .ref 203, .ref 204, .ref 205, .int (-1), .int 0, .ref 206, .ref 207, .ref 208, .ref 209, .ref 210, .ref 211, .ref 212, .ref 213, .ref 214, .ref 215, .int 0, .int 0, .int 0, .int 0, .ref 216, .ref 217, .ref 218, .ref 219, .ref 220, .int (-1), .int 0, .int 0, .int 0, .int 0, .int 0, .int 0, .ref 221, .ref 222, .ref 223, .ref 224, .int 0, .ref 225, .int 0, .ref 226, .ref 227, .int 0, .ref 228, .ref 229, .ref 230, .ref 231, .ref 232]) rfl e191_7 rfl rfl rfl rfl (fun h8 o8 f8 => ?_)
  have s8 := s7.put f8
  refine s_iinc (y := 2) (lv' := [(2, .int 2), (0, .ref 191), (1, .int 3)]) rfl rfl (by decide) (by decide) rfl ?_
  refine q_goto rfl ?_
  refine q_iload_n rfl rfl ?_
  refine q_iload_n rfl rfl ?_
  refine q_icmp_ge rfl (fun c => absurd c (by decide)) (fun _ => ?_)
  refine q_aload_n rfl rfl ?_
  refine s_get (v := .ref 193) rfl o8 rfl rfl ?_
  refine q_aload_n rfl rfl ?_
  refine s_get (v := .int 2) rfl o8 rfl rfl ?_
  refine q_aload_n rfl rfl ?_
  refine s_get (v := .ref 192) rfl o8 rfl rfl ?_
  refine q_iload_n rfl rfl ?_
  have e192_8 := (f8.ne rfl (f7.ne rfl e192_6))
  refine s_iaload (j := 2) (v := .int 0) rfl e192_8 (by decide) rfl (by first | rfl | decide) ?_
  have e193_8 := (f8.ne rfl o7)
  refine s_iastore (j := 2) rfl e193_8 (by decide) rfl (fun h9 o9 f9 => ?_)
  have s9 := s8.put f9
  refine q_aload_n rfl rfl ?_
  refine q_dup rfl rfl ?_
  have e191_9 := (o8.ne f9 rfl)
  refine s_get (v := .int 2) rfl e191_9 rfl rfl ?_
  refine q_iconst rfl ?_
  refine s_iadd (k := 3) rfl (by decide) ?_
  refine s_put (vs' := [.int 0, .ref 192, .ref 193, .int 3, .ref 194, .ref 195, .ref 196, .ref 197, .ref 198, .ref 199, .ref 200, .ref 201, .ref 202, .ref 203, .ref 204, .ref 205, .int (-1), .int 0, .ref 206, .ref 207, .ref 208, .ref 209, .ref 210, .ref 211, .ref 212, .ref 213, .ref 214, .ref 215, .int 0, .int 0, .int 0, .int 0, .ref 216, .ref 217, .ref 218, .ref 219, .ref 220, .int (-1), .int 0, .int 0, .int 0, .int 0, .int 0, .int 0, .ref 221, .ref 222, .ref 223, .ref 224, .int 0, .ref 225, .int 0, .ref 226, .ref 227, .int 0, .ref 228, .ref 229, .ref 230, .ref 231, .ref 232]) rfl e191_9 rfl rfl rfl rfl (fun h10 o10 f10 => ?_)
  have s10 := s9.put f10
  refine s_iinc (y := 3) (lv' := [(2, .int 3), (0, .ref 191), (1, .int 3)]) rfl rfl (by decide) (by decide) rfl ?_
  refine q_goto rfl ?_
  refine q_iload_n rfl rfl ?_
  refine q_iload_n rfl rfl ?_
  refine q_icmp_ge rfl (fun _ => ?_) (fun c => absurd (by decide) c)
  refine q_iconst rfl ?_
  refine s_istore_n (lv' := [(2, .int 0), (0, .ref 191), (1, .int 3)]) rfl (by decide) rfl ?_
  have e192_10 := (f10.ne rfl (f9.ne rfl e192_8))
  refine en_loop (m := 191) (a := 192) rfl rfl (by decide) (by decide) 20 0 h10 _ rfl o10 e192_10 (fun h11 f11 => ?_)
  have s11 := s10.put f11
  show aW aiP 217 16 636 88 [(2, .int 20), (0, .ref 191), (1, .int 3)] [] h11 _
  refine q_aload_n rfl rfl ?_
  have e191_11 := (o10.ne f11 rfl)
  refine s_get (v := .int 3) rfl e191_11 rfl rfl ?_
  refine q_ireturn rfl rfl ?_
  show aW aiP 0 17 658 243 [(4, .int 0), (3, .ref 233), (2, .ref 191), (1, .ref 6), (0, .ref 0)] [.int 3, .int 3] h11 _
  refine q_icmp_eq rfl (fun _ => ?_) (fun c => absurd (by decide) c)
  refine s_iinc (y := 6) (lv' := [(4, .int 6), (3, .ref 233), (2, .ref 191), (1, .ref 6), (0, .ref 0)]) rfl rfl (by decide) (by decide) rfl ?_
  refine q_goto rfl ?_
  refine q_iload rfl rfl ?_
  refine q_aload_n rfl rfl ?_
  have e0_11 := (f11.ne rfl (f10.ne rfl (f9.ne rfl (f8.ne rfl (f7.ne rfl (f6.ne rfl (f5.ne rfl (f4.ne rfl e0_3))))))))
  refine s_alen (x := 6) rfl e0_11 rfl (by decide) ?_
  refine q_bipush rfl ?_
  refine s_isub (k := 0) rfl (by decide) ?_
  refine q_icmp_gt rfl (fun _ => ?_) (fun c => absurd (by decide) c)
  refine q_iconst rfl ?_
  refine q_ireturn rfl rfl ?_
  exact ⟨rfl, s11.bd rfl⟩
set_option maxRecDepth 20000 in
set_option maxHeartbeats 4000000 in
theorem p_case1_4 {xs : Nat → Int32} {h : ai_H} (F : Fresh 6 xs h) (hk : xs 0 &&& 31 = 1) (hw : xs 1 = 4) : aW aiP 0 17 658 33 [(4, .int 0), (3, .ref 233), (2, .ref 191), (1, .ref 6), (0, .ref 0)] [] h p_Q := by
  have s0 := F.2.2.2.2.2.2.2.2.2.2.2.2.2.2.2.2.2.2.2.2.2.2.2.2.2.2.2.2.2.2.2.2.2.2.2.2.2.2.2.2.2.2.2.2.2.2.2.2.2.2.2.2.2.2.2.2.2.2.2.2.2.2.2.2.2.2.2.2.2.2
  refine q_aload_n rfl rfl ?_
  refine q_iload rfl rfl ?_
  have e0 := F.1
  refine s_iaload (j := 0) (v := .int (xs 0)) rfl e0 (by decide) rfl (by first | rfl | decide) ?_
  refine q_bipush rfl ?_
  refine s_iand (k := ((xs 0) &&& (31 : Int32))) rfl rfl ?_
  rw [hk]
  show aW aiP 0 17 658 40 [(4, .int 0), (3, .ref 233), (2, .ref 191), (1, .ref 6), (0, .ref 0)] [.int 1] h _
  refine s_sw (tg := 223) rfl rfl ?_
  refine q_aload_n rfl rfl ?_
  refine q_aload_n rfl rfl ?_
  refine q_iload rfl rfl ?_
  refine q_iconst rfl ?_
  refine s_iadd (k := 1) rfl (by decide) ?_
  refine s_iaload (j := 1) (v := .int (xs 1)) rfl e0 (by decide) rfl (by first | rfl | decide) ?_
  rw [hw]
  have e6 := F.2.2.2.2.2.2.1
  refine s_callV (as := [.int 4]) (rest := []) (d' := 16) (w' := 637) (lv' := [(0, .ref 6), (1, .int 4)]) rfl e6 rfl rfl rfl rfl rfl rfl ?_
  refine q_iload_n rfl rfl ?_
  refine q_if_lt rfl (fun c => absurd c (by decide)) (fun _ => ?_)
  refine q_iload_n rfl rfl ?_
  refine q_bipush rfl ?_
  refine q_icmp_gt rfl (fun c => absurd c (by decide)) (fun _ => ?_)
  refine q_aload_n rfl rfl ?_
  refine s_get (v := .int 0) rfl e6 rfl rfl ?_
  refine q_iload_n rfl rfl ?_
  refine s_iadd (k := 4) rfl (by decide) ?_
  refine q_sipush rfl ?_
  refine q_icmp_le rfl (fun _ => ?_) (fun c => absurd (by decide) c)
  refine q_aload_n rfl rfl ?_
  refine s_get (v := .ref 7) rfl e6 rfl rfl ?_
  refine q_iconst rfl ?_
  refine q_aload_n rfl rfl ?_
  refine s_get (v := .ref 8) rfl e6 rfl rfl ?_
  refine q_aload_n rfl rfl ?_
  refine s_get (v := .int 0) rfl e6 rfl rfl ?_
  refine q_iload_n rfl rfl ?_
  have e7 := F.2.2.2.2.2.2.2.1
  have e8 := F.2.2.2.2.2.2.2.2.1
  refine s_copy (sp := 0) (dp := 0) (k := 4) rfl e7 e8 (by decide) (by decide) (by decide) rfl (by decide) (by decide) (by decide) (fun i _ => rfl) (fun h1 o1 f1 => ?_)
  have s1 := s0.put f1
  refine q_aload_n rfl rfl ?_
  refine q_dup rfl rfl ?_
  have e6_1 := (e6.ne f1 rfl)
  refine s_get (v := .int 0) rfl e6_1 rfl rfl ?_
  refine q_iload_n rfl rfl ?_
  refine s_iadd (k := 4) rfl (by decide) ?_
  refine s_put (vs' := [.ref 7, .ref 8, .int 4, .ref 9, .int (-1), .ref 51, .ref 93, .ref 135, .ref 177, .ref 180, .int 0, .ref 183, .ref 186, .ref 189]) rfl e6_1 rfl rfl rfl rfl (fun h2 o2 f2 => ?_)
  have s2 := s1.put f2
  refine q_aload_n rfl rfl ?_
  refine s_get (v := .ref 7) rfl o2 rfl rfl ?_
  refine q_iconst rfl ?_
  refine s_callS (as := [.ref 7, .int 0]) (rest := []) (d' := 15) (w' := 614) (lv' := [(0, .ref 7), (1, .int 0)]) rfl rfl rfl rfl rfl rfl rfl rfl ?_
  refine q_iconst rfl ?_
  refine s_istore_n (lv' := [(2, .int 0), (0, .ref 7), (1, .int 0)]) rfl (by decide) rfl ?_
  refine q_aload_n rfl rfl ?_
  have e7_2 := (f2.ne rfl (f1.ne rfl e7))
  refine s_alen (x := 20) rfl e7_2 rfl (by decide) ?_
  refine s_istore_n (lv' := [(3, .int 20), (2, .int 0), (0, .ref 7), (1, .int 0)]) rfl (by decide) rfl ?_
  refine aW_lv (l := [(2, .int (nI 0)), (3, .int 20), (0, .ref 7), (1, .int 0)]) ?_ rfl rfl (by repeat' (first | exact inL_n | refine inL_c rfl ?_))
  refine fi_loop (a := 7) (by decide) 20 0 h2 _ rfl e7_2 (fun h3 f3 => ?_)
  have s3 := s2.put f3
  show aW aiP 15 16 637 59 [(0, .ref 6), (1, .int 4)] [] h3 _
  refine q_aload_n rfl rfl ?_
  have e6_3 := (o2.ne f3 rfl)
  refine s_get (v := .int 4) rfl e6_3 rfl rfl ?_
  refine q_ireturn rfl rfl ?_
  show aW aiP 0 17 658 233 [(4, .int 0), (3, .ref 233), (2, .ref 191), (1, .ref 6), (0, .ref 0)] [.int 4] h3 _
  refine q_aload_n rfl rfl ?_
  refine q_aload_n rfl rfl ?_
  refine q_iload rfl rfl ?_
  refine q_iconst rfl ?_
  refine s_iadd (k := 1) rfl (by decide) ?_
  have e0_3 := (f3.ne rfl (f2.ne rfl (f1.ne rfl e0)))
  refine s_iaload (j := 1) (v := .int (xs 1)) rfl e0_3 (by decide) rfl (by first | rfl | decide) ?_
  rw [hw]
  have e191 := F.2.2.2.2.2.2.2.2.2.2.2.2.2.2.2.2.2.2.2.2.2.2.2.2.2.2.2.1
  have e191_3 := (((e191.ne f1 rfl).ne f2 rfl).ne f3 rfl)
  refine s_callV (as := [.int 4]) (rest := [.int 4]) (d' := 16) (w' := 636) (lv' := [(0, .ref 191), (1, .int 4)]) rfl e191_3 rfl rfl rfl rfl rfl rfl ?_
  refine q_aload_n rfl rfl ?_
  refine q_iconst rfl ?_
  refine s_put (vs' := [.int 0, .ref 192, .ref 193, .int 0, .ref 194, .ref 195, .ref 196, .ref 197, .ref 198, .ref 199, .ref 200, .ref 201, .ref 202, .ref 203, .ref 204, .ref 205, .int (-1), .int 0, .ref 206, .ref 207, .ref 208, .ref 209, .ref 210, .ref 211, .ref 212, .ref 213, .ref 214, .ref 215, .int 0, .int 0, .int 0, .int 0, .ref 216, .ref 217, .ref 218, .ref 219, .ref 220, .int (-1), .int 0, .int 0, .int 0, .int 0, .int 0, .int 0, .ref 221, .ref 222, .ref 223, .ref 224, .int 0, .ref 225, .int 0, .ref 226, .ref 227, .int 0, .ref 228, .ref 229, .ref 230, .ref 231, .ref 232]) rfl e191_3 rfl rfl rfl rfl (fun h4 o4 f4 => ?_)
  have s4 := s3.put f4
  refine q_iload_n rfl rfl ?_
  refine q_if_lt rfl (fun c => absurd c (by decide)) (fun _ => ?_)
  refine q_iload_n rfl rfl ?_
  refine q_bipush rfl ?_
  refine q_icmp_gt rfl (fun c => absurd c (by decide)) (fun _ => ?_)
  refine q_aload_n rfl rfl ?_
  refine s_get (v := .int 0) rfl o4 rfl rfl ?_
  refine q_iload_n rfl rfl ?_
  refine s_iadd (k := 4) rfl (by decide) ?_
  refine q_sipush rfl ?_
  refine q_icmp_le rfl (fun _ => ?_) (fun c => absurd (by decide) c)
  refine q_iconst rfl ?_
  refine s_istore_n (lv' := [(2, .int 0), (0, .ref 191), (1, .int 4)]) rfl (by decide) rfl ?_
  refine q_iload_n rfl rfl ?_
  refine q_iload_n rfl rfl ?_
  refine q_icmp_ge rfl (fun c => absurd c (by decide)) (fun _ => ?_)
  refine q_aload_n rfl rfl ?_
  refine s_get (v := .ref 193) rfl o4 rfl rfl ?_
  refine q_aload_n rfl rfl ?_
  refine s_get (v := .int 0) rfl o4 rfl rfl ?_
  refine q_aload_n rfl rfl ?_
  refine s_get (v := .ref 192) rfl o4 rfl rfl ?_
  refine q_iload_n rfl rfl ?_
  have e192 := F.2.2.2.2.2.2.2.2.2.2.2.2.2.2.2.2.2.2.2.2.2.2.2.2.2.2.2.2.1
  have e192_4 := (f4.ne rfl (f3.ne rfl (f2.ne rfl (f1.ne rfl e192))))
  refine s_iaload (j := 0) (v := .int 0) rfl e192_4 (by decide) rfl (by first | rfl | decide) ?_
  have e193 := F.2.2.2.2.2.2.2.2.2.2.2.2.2.2.2.2.2.2.2.2.2.2.2.2.2.2.2.2.2.1
  have e193_4 := (f4.ne rfl (f3.ne rfl (f2.ne rfl (f1.ne rfl e193))))
  refine s_iastore (j := 0) rfl e193_4 (by decide) rfl (fun h5 o5 f5 => ?_)
  have s5 := s4.put f5
  refine q_aload_n rfl rfl ?_
  refine q_dup rfl rfl ?_
  have e191_5 := (o4.ne f5 rfl)
  refine s_get (v := .int 0) rfl e191_5 rfl rfl ?_
  refine q_iconst rfl ?_
  refine s_iadd (k := 1) rfl (by decide) ?_
  refine s_put (vs' := [.int 0, .ref 192, .ref 193, .int 1, .ref 194, .ref 195, .ref 196, .ref 197, .ref 198, .ref 199, .ref 200, .ref 201, .ref 202, .ref 203, .ref 204, .ref 205, .int (-1), .int 0, .ref 206, .ref 207, .ref 208, .ref 209, .ref 210, .ref 211, .ref 212, .ref 213, .ref 214, .ref 215, .int 0, .int 0, .int 0, .int 0, .ref 216, .ref 217, .ref 218, .ref 219, .ref 220, .int (-1), .int 0, .int 0, .int 0, .int 0, .int 0, .int 0, .ref 221, .ref 222, .ref 223, .ref 224, .int 0, .ref 225, .int 0, .ref 226, .ref 227, .int 0, .ref 228, .ref 229, .ref 230, .ref 231, .ref 232]) rfl e191_5 rfl rfl rfl rfl (fun h6 o6 f6 => ?_)
  have s6 := s5.put f6
  refine s_iinc (y := 1) (lv' := [(2, .int 1), (0, .ref 191), (1, .int 4)]) rfl rfl (by decide) (by decide) rfl ?_
  refine q_goto rfl ?_
  refine q_iload_n rfl rfl ?_
  refine q_iload_n rfl rfl ?_
  refine q_icmp_ge rfl (fun c => absurd c (by decide)) (fun _ => ?_)
  refine q_aload_n rfl rfl ?_
  refine s_get (v := .ref 193) rfl o6 rfl rfl ?_
  refine q_aload_n rfl rfl ?_
  refine s_get (v := .int 1) rfl o6 rfl rfl ?_
  refine q_aload_n rfl rfl ?_
  refine s_get (v := .ref 192) rfl o6 rfl rfl ?_
  refine q_iload_n rfl rfl ?_
  have e192_6 := (f6.ne rfl (f5.ne rfl e192_4))
  refine s_iaload (j := 1) (v := .int 0) rfl e192_6 (by decide) rfl (by first | rfl | decide) ?_
  have e193_6 := (f6.ne rfl o5)
  refine s_iastore (j := 1) rfl e193_6 (by decide) rfl (fun h7 o7 f7 => ?_)
  have s7 := s6.put f7
  refine q_aload_n rfl rfl ?_
  refine q_dup rfl rfl ?_
  have e191_7 := (o6.ne f7 rfl)
  refine s_get (v := .int 1) rfl e191_7 rfl rfl ?_
  refine q_iconst rfl ?_
  refine s_iadd (k := 2) rfl (by decide) ?_
  refine s_put (vs' := [.int 0, .ref 192, .ref 193, .int 2, .ref 194, .ref 195, .ref 196, .ref 197, .ref 198, .ref 199, .ref 200, .ref 201, .ref 202, .ref 203, .ref 204, .ref 205, .int (-1), .int 0, .ref 206, .ref 207, .ref 208, .ref 209, .ref 210, .ref 211, .ref 212, .ref 213, .ref 214, .ref 215, .int 0, .int 0, .int 0, .int 0, .ref 216, .ref 217, .ref 218, .ref 219, .ref 220, .int (-1), .int 0, .int 0, .int 0, .int 0, .int 0, .int 0, .ref 221, .ref 222, .ref 223, .ref 224, .int 0, .ref 225, .int 0, .ref 226, .ref 227, .int 0, .ref 228, .ref 229, .ref 230, .ref 231, .ref 232]) rfl e191_7 rfl rfl rfl rfl (fun h8 o8 f8 => ?_)
  have s8 := s7.put f8
  refine s_iinc (y := 2) (lv' := [(2, .int 2), (0, .ref 191), (1, .int 4)]) rfl rfl (by decide) (by decide) rfl ?_
  refine q_goto rfl ?_
  refine q_iload_n rfl rfl ?_
  refine q_iload_n rfl rfl ?_
  refine q_icmp_ge rfl (fun c => absurd c (by decide)) (fun _ => ?_)
  refine q_aload_n rfl rfl ?_
  refine s_get (v := .ref 193) rfl o8 rfl rfl ?_
  refine q_aload_n rfl rfl ?_
  refine s_get (v := .int 2) rfl o8 rfl rfl ?_
  refine q_aload_n rfl rfl ?_
  refine s_get (v := .ref 192) rfl o8 rfl rfl ?_
  refine q_iload_n rfl rfl ?_
  have e192_8 := (f8.ne rfl (f7.ne rfl e192_6))
  refine s_iaload (j := 2) (v := .int 0) rfl e192_8 (by decide) rfl (by first | rfl | decide) ?_
  have e193_8 := (f8.ne rfl o7)
  refine s_iastore (j := 2) rfl e193_8 (by decide) rfl (fun h9 o9 f9 => ?_)
  have s9 := s8.put f9
  refine q_aload_n rfl rfl ?_
  refine q_dup rfl rfl ?_
  have e191_9 := (o8.ne f9 rfl)
  refine s_get (v := .int 2) rfl e191_9 rfl rfl ?_
  refine q_iconst rfl ?_
  refine s_iadd (k := 3) rfl (by decide) ?_
  refine s_put (vs' := [.int 0, .ref 192, .ref 193, .int 3, .ref 194, .ref 195, .ref 196, .ref 197, .ref 198, .ref 199, .ref 200, .ref 201, .ref 202, .ref 203, .ref 204, .ref 205, .int (-1), .int 0, .ref 206, .ref 207, .ref 208, .ref 209, .ref 210, .ref 211, .ref 212, .ref 213, .ref 214, .ref 215, .int 0, .int 0, .int 0, .int 0, .ref 216, .ref 217, .ref 218, .ref 219, .ref 220, .int (-1), .int 0, .int 0, .int 0, .int 0, .int 0, .int 0, .ref 221, .ref 222, .ref 223, .ref 224, .int 0, .ref 225, .int 0, .ref 226, .ref 227, .int 0, .ref 228, .ref 229, .ref 230, .ref 231, .ref 232]) rfl e191_9 rfl rfl rfl rfl (fun h10 o10 f10 => ?_)
  have s10 := s9.put f10
  refine s_iinc (y := 3) (lv' := [(2, .int 3), (0, .ref 191), (1, .int 4)]) rfl rfl (by decide) (by decide) rfl ?_
  refine q_goto rfl ?_
  refine q_iload_n rfl rfl ?_
  refine q_iload_n rfl rfl ?_
  refine q_icmp_ge rfl (fun c => absurd c (by decide)) (fun _ => ?_)
  refine q_aload_n rfl rfl ?_
  refine s_get (v := .ref 193) rfl o10 rfl rfl ?_
  refine q_aload_n rfl rfl ?_
  refine s_get (v := .int 3) rfl o10 rfl rfl ?_
  refine q_aload_n rfl rfl ?_
  refine s_get (v := .ref 192) rfl o10 rfl rfl ?_
  refine q_iload_n rfl rfl ?_
  have e192_10 := (f10.ne rfl (f9.ne rfl e192_8))
  refine s_iaload (j := 3) (v := .int 0) rfl e192_10 (by decide) rfl (by first | rfl | decide) ?_
  have e193_10 := (f10.ne rfl o9)
  refine s_iastore (j := 3) rfl e193_10 (by decide) rfl (fun h11 o11 f11 => ?_)
  have s11 := s10.put f11
  refine q_aload_n rfl rfl ?_
  refine q_dup rfl rfl ?_
  have e191_11 := (o10.ne f11 rfl)
  refine s_get (v := .int 3) rfl e191_11 rfl rfl ?_
  refine q_iconst rfl ?_
  refine s_iadd (k := 4) rfl (by decide) ?_
  refine s_put (vs' := [.int 0, .ref 192, .ref 193, .int 4, .ref 194, .ref 195, .ref 196, .ref 197, .ref 198, .ref 199, .ref 200, .ref 201, .ref 202, .ref 203, .ref 204, .ref 205, .int (-1), .int 0, .ref 206, .ref 207, .ref 208, .ref 209, .ref 210, .ref 211, .ref 212, .ref 213, .ref 214, .ref 215, .int 0, .int 0, .int 0, .int 0, .ref 216, .ref 217, .ref 218, .ref 219, .ref 220, .int (-1), .int 0, .int 0, .int 0, .int 0, .int 0, .int 0, .ref 221, .ref 222, .ref 223, .ref 224, .int 0, .ref 225, .int 0, .ref 226, .ref 227, .int 0, .ref 228, .ref 229, .ref 230, .ref 231, .ref 232]) rfl e191_11 rfl rfl rfl rfl (fun h12 o12 f12 => ?_)
  have s12 := s11.put f12
  refine s_iinc (y := 4) (lv' := [(2, .int 4), (0, .ref 191), (1, .int 4)]) rfl rfl (by decide) (by decide) rfl ?_
  refine q_goto rfl ?_
  refine q_iload_n rfl rfl ?_
  refine q_iload_n rfl rfl ?_
  refine q_icmp_ge rfl (fun _ => ?_) (fun c => absurd (by decide) c)
  refine q_iconst rfl ?_
  refine s_istore_n (lv' := [(2, .int 0), (0, .ref 191), (1, .int 4)]) rfl (by decide) rfl ?_
  have e192_12 := (f12.ne rfl (f11.ne rfl e192_10))
  refine en_loop (m := 191) (a := 192) rfl rfl (by decide) (by decide) 20 0 h12 _ rfl o12 e192_12 (fun h13 f13 => ?_)
  have s13 := s12.put f13
  show aW aiP 217 16 636 88 [(2, .int 20), (0, .ref 191), (1, .int 4)] [] h13 _
  refine q_aload_n rfl rfl ?_
  have e191_13 := (o12.ne f13 rfl)
  refine s_get (v := .int 4) rfl e191_13 rfl rfl ?_
  refine q_ireturn rfl rfl ?_
  show aW aiP 0 17 658 243 [(4, .int 0), (3, .ref 233), (2, .ref 191), (1, .ref 6), (0, .ref 0)] [.int 4, .int 4] h13 _
  refine q_icmp_eq rfl (fun _ => ?_) (fun c => absurd (by decide) c)
  refine s_iinc (y := 6) (lv' := [(4, .int 6), (3, .ref 233), (2, .ref 191), (1, .ref 6), (0, .ref 0)]) rfl rfl (by decide) (by decide) rfl ?_
  refine q_goto rfl ?_
  refine q_iload rfl rfl ?_
  refine q_aload_n rfl rfl ?_
  have e0_13 := (f13.ne rfl (f12.ne rfl (f11.ne rfl (f10.ne rfl (f9.ne rfl (f8.ne rfl (f7.ne rfl (f6.ne rfl (f5.ne rfl (f4.ne rfl e0_3))))))))))
  refine s_alen (x := 6) rfl e0_13 rfl (by decide) ?_
  refine q_bipush rfl ?_
  refine s_isub (k := 0) rfl (by decide) ?_
  refine q_icmp_gt rfl (fun _ => ?_) (fun c => absurd (by decide) c)
  refine q_iconst rfl ?_
  refine q_ireturn rfl rfl ?_
  exact ⟨rfl, s13.bd rfl⟩
set_option maxRecDepth 20000 in
set_option maxHeartbeats 4000000 in
theorem p_case1_5 {xs : Nat → Int32} {h : ai_H} (F : Fresh 6 xs h) (hk : xs 0 &&& 31 = 1) (hw : xs 1 = 5) : aW aiP 0 17 658 33 [(4, .int 0), (3, .ref 233), (2, .ref 191), (1, .ref 6), (0, .ref 0)] [] h p_Q := by
  have s0 := F.2.2.2.2.2.2.2.2.2.2.2.2.2.2.2.2.2.2.2.2.2.2.2.2.2.2.2.2.2.2.2.2.2.2.2.2.2.2.2.2.2.2.2.2.2.2.2.2.2.2.2.2.2.2.2.2.2.2.2.2.2.2.2.2.2.2.2.2.2.2
  refine q_aload_n rfl rfl ?_
  refine q_iload rfl rfl ?_
  have e0 := F.1
  refine s_iaload (j := 0) (v := .int (xs 0)) rfl e0 (by decide) rfl (by first | rfl | decide) ?_
  refine q_bipush rfl ?_
  refine s_iand (k := ((xs 0) &&& (31 : Int32))) rfl rfl ?_
  rw [hk]
  show aW aiP 0 17 658 40 [(4, .int 0), (3, .ref 233), (2, .ref 191), (1, .ref 6), (0, .ref 0)] [.int 1] h _
  refine s_sw (tg := 223) rfl rfl ?_
  refine q_aload_n rfl rfl ?_
  refine q_aload_n rfl rfl ?_
  refine q_iload rfl rfl ?_
  refine q_iconst rfl ?_
  refine s_iadd (k := 1) rfl (by decide) ?_
  refine s_iaload (j := 1) (v := .int (xs 1)) rfl e0 (by decide) rfl (by first | rfl | decide) ?_
  rw [hw]
  have e6 := F.2.2.2.2.2.2.1
  refine s_callV (as := [.int 5]) (rest := []) (d' := 16) (w' := 637) (lv' := [(0, .ref 6), (1, .int 5)]) rfl e6 rfl rfl rfl rfl rfl rfl ?_
  refine q_iload_n rfl rfl ?_
  refine q_if_lt rfl (fun c => absurd c (by decide)) (fun _ => ?_)
  refine q_iload_n rfl rfl ?_
  refine q_bipush rfl ?_
  refine q_icmp_gt rfl (fun c => absurd c (by decide)) (fun _ => ?_)
  refine q_aload_n rfl rfl ?_
  refine s_get (v := .int 0) rfl e6 rfl rfl ?_
  refine q_iload_n rfl rfl ?_
  refine s_iadd (k := 5) rfl (by decide) ?_
  refine q_sipush rfl ?_
  refine q_icmp_le rfl (fun _ => ?_) (fun c => absurd (by decide) c)
  refine q_aload_n rfl rfl ?_
  refine s_get (v := .ref 7) rfl e6 rfl rfl ?_
  refine q_iconst rfl ?_
  refine q_aload_n rfl rfl ?_
  refine s_get (v := .ref 8) rfl e6 rfl rfl ?_
  refine q_aload_n rfl rfl ?_
  refine s_get (v := .int 0) rfl e6 rfl rfl ?_
  refine q_iload_n rfl rfl ?_
  have e7 := F.2.2.2.2.2.2.2.1
  have e8 := F.2.2.2.2.2.2.2.2.1
  refine s_copy (sp := 0) (dp := 0) (k := 5) rfl e7 e8 (by decide) (by decide) (by decide) rfl (by decide) (by decide) (by decide) (fun i _ => rfl) (fun h1 o1 f1 => ?_)
  have s1 := s0.put f1
  refine q_aload_n rfl rfl ?_
  refine q_dup rfl rfl ?_
  have e6_1 := (e6.ne f1 rfl)
  refine s_get (v := .int 0) rfl e6_1 rfl rfl ?_
  refine q_iload_n rfl rfl ?_
  refine s_iadd (k := 5) rfl (by decide) ?_
  refine s_put (vs' := [.ref 7, .ref 8, .int 5, .ref 9, .int (-1), .ref 51, .ref 93, .ref 135, .ref 177, .ref 180, .int 0, .ref 183, .ref 186, .ref 189]) rfl e6_1 rfl rfl rfl rfl (fun h2 o2 f2 => ?_)
  have s2 := s1.put f2
  refine q_aload_n rfl rfl ?_
  refine s_get (v := .ref 7) rfl o2 rfl rfl ?_
  refine q_iconst rfl ?_
  refine s_callS (as := [.ref 7, .int 0]) (rest := []) (d' := 15) (w' := 614) (lv' := [(0, .ref 7), (1, .int 0)]) rfl rfl rfl rfl rfl rfl rfl rfl ?_
  refine q_iconst rfl ?_
  refine s_istore_n (lv' := [(2, .int 0), (0, .ref 7), (1, .int 0)]) rfl (by decide) rfl ?_
  refine q_aload_n rfl rfl ?_
  have e7_2 := (f2.ne rfl (f1.ne rfl e7))
  refine s_alen (x := 20) rfl e7_2 rfl (by decide) ?_
  refine s_istore_n (lv' := [(3, .int 20), (2, .int 0), (0, .ref 7), (1, .int 0)]) rfl (by decide) rfl ?_
  refine aW_lv (l := [(2, .int (nI 0)), (3, .int 20), (0, .ref 7), (1, .int 0)]) ?_ rfl rfl (by repeat' (first | exact inL_n | refine inL_c rfl ?_))
  refine fi_loop (a := 7) (by decide) 20 0 h2 _ rfl e7_2 (fun h3 f3 => ?_)
  have s3 := s2.put f3
  show aW aiP 15 16 637 59 [(0, .ref 6), (1, .int 5)] [] h3 _
  refine q_aload_n rfl rfl ?_
  have e6_3 := (o2.ne f3 rfl)
  refine s_get (v := .int 5) rfl e6_3 rfl rfl ?_
  refine q_ireturn rfl rfl ?_
  show aW aiP 0 17 658 233 [(4, .int 0), (3, .ref 233), (2, .ref 191), (1, .ref 6), (0, .ref 0)] [.int 5] h3 _
  refine q_aload_n rfl rfl ?_
  refine q_aload_n rfl rfl ?_
  refine q_iload rfl rfl ?_
  refine q_iconst rfl ?_
  refine s_iadd (k := 1) rfl (by decide) ?_
  have e0_3 := (f3.ne rfl (f2.ne rfl (f1.ne rfl e0)))
  refine s_iaload (j := 1) (v := .int (xs 1)) rfl e0_3 (by decide) rfl (by first | rfl | decide) ?_
  rw [hw]
  have e191 := F.2.2.2.2.2.2.2.2.2.2.2.2.2.2.2.2.2.2.2.2.2.2.2.2.2.2.2.1
  have e191_3 := (((e191.ne f1 rfl).ne f2 rfl).ne f3 rfl)
  refine s_callV (as := [.int 5]) (rest := [.int 5]) (d' := 16) (w' := 636) (lv' := [(0, .ref 191), (1, .int 5)]) rfl e191_3 rfl rfl rfl rfl rfl rfl ?_
  refine q_aload_n rfl rfl ?_
  refine q_iconst rfl ?_
  refine s_put (vs' := [.int 0, .ref 192, .ref 193, .int 0, .ref 194, .ref 195, .ref 196, .ref 197, .ref 198, .ref 199, .ref 200, .ref 201, .ref 202, .ref 203, .ref 204, .ref 205, .int (-1), .int 0, .ref 206, .ref 207, .ref 208, .ref 209, .ref 210, .ref 211, .ref 212, .ref 213, .ref 214, .ref 215, .int 0, .int 0, .int 0, .int 0, .ref 216, .ref 217, .ref 218, .ref 219, .ref 220, .int (-1), .int 0, .int 0, .int 0, .int 0, .int 0, .int 0, .ref 221, .ref 222, .ref 223, .ref 224, .int 0, .ref 225, .int 0, .ref 226, .ref 227, .int 0, .ref 228, .ref 229, .ref 230, .ref 231, .ref 232]) rfl e191_3 rfl rfl rfl rfl (fun h4 o4 f4 => ?_)
  have s4 := s3.put f4
  refine q_iload_n rfl rfl ?_
  refine q_if_lt rfl (fun c => absurd c (by decide)) (fun _ => ?_)
  refine q_iload_n rfl rfl ?_
  refine q_bipush rfl ?_
  refine q_icmp_gt rfl (fun c => absurd c (by decide)) (fun _ => ?_)
  refine q_aload_n rfl rfl ?_
  refine s_get (v := .int 0) rfl o4 rfl rfl ?_
  refine q_iload_n rfl rfl ?_
  refine s_iadd (k := 5) rfl (by decide) ?_
  refine q_sipush rfl ?_
  refine q_icmp_le rfl (fun _ => ?_) (fun c => absurd (by decide) c)
  refine q_iconst rfl ?_
  refine s_istore_n (lv' := [(2, .int 0), (0, .ref 191), (1, .int 5)]) rfl (by decide) rfl ?_
  refine q_iload_n rfl rfl ?_
  refine q_iload_n rfl rfl ?_
  refine q_icmp_ge rfl (fun c => absurd c (by decide)) (fun _ => ?_)
  refine q_aload_n rfl rfl ?_
  refine s_get (v := .ref 193) rfl o4 rfl rfl ?_
  refine q_aload_n rfl rfl ?_
  refine s_get (v := .int 0) rfl o4 rfl rfl ?_
  refine q_aload_n rfl rfl ?_
  refine s_get (v := .ref 192) rfl o4 rfl rfl ?_
  refine q_iload_n rfl rfl ?_
  have e192 := F.2.2.2.2.2.2.2.2.2.2.2.2.2.2.2.2.2.2.2.2.2.2.2.2.2.2.2.2.1
  have e192_4 := (f4.ne rfl (f3.ne rfl (f2.ne rfl (f1.ne rfl e192))))
  refine s_iaload (j := 0) (v := .int 0) rfl e192_4 (by decide) rfl (by first | rfl | decide) ?_
  have e193 := F.2.2.2.2.2.2.2.2.2.2.2.2.2.2.2.2.2.2.2.2.2.2.2.2.2.2.2.2.2.1
  have e193_4 := (f4.ne rfl (f3.ne rfl (f2.ne rfl (f1.ne rfl e193))))
  refine s_iastore (j := 0) rfl e193_4 (by decide) rfl (fun h5 o5 f5 => ?_)
  have s5 := s4.put f5
  refine q_aload_n rfl rfl ?_
  refine q_dup rfl rfl ?_
  have e191_5 := (o4.ne f5 rfl)
  refine s_get (v := .int 0) rfl e191_5 rfl rfl ?_
  refine q_iconst rfl ?_
  refine s_iadd (k := 1) rfl (by decide) ?_
  refine s_put (vs' := [.int 0, .ref 192, .ref 193, .int 1, .ref 194, .ref 195, .ref 196, .ref 197, .ref 198, .ref 199, .ref 200, .ref 201, .ref 202, .ref 203, .ref 204, .ref 205, .int (-1), .int 0, .ref 206, .ref 207, .ref 208, .ref 209, .ref 210, .ref 211, .ref 212, .ref 213, .ref 214, .ref 215, .int 0, .int 0, .int 0, .int 0, .ref 216, .ref 217, .ref 218, .ref 219, .ref 220, .int (-1), .int 0, .int 0, .int 0, .int 0, .int 0, .int 0, .ref 221, .ref 222, .ref 223, .ref 224, .int 0, .ref 225, .int 0, .ref 226, .ref 227, .int 0, .ref 228, .ref 229, .ref 230, .ref 231, .ref 232]) rfl e191_5 rfl rfl rfl rfl (fun h6 o6 f6 => ?_)
  have s6 := s5.put f6
  refine s_iinc (y := 1) (lv' := [(2, .int 1), (0, .ref 191), (1, .int 5)]) rfl rfl (by decide) (by decide) rfl ?_
  refine q_goto rfl ?_
  refine q_iload_n rfl rfl ?_
  refine q_iload_n rfl rfl ?_
  refine q_icmp_ge rfl (fun c => absurd c (by decide)) (fun _ => ?_)
  refine q_aload_n rfl rfl ?_
  refine s_get (v := .ref 193) rfl o6 rfl rfl ?_
  refine q_aload_n rfl rfl ?_
  refine s_get (v := .int 1) rfl o6 rfl rfl ?_
  refine q_aload_n rfl rfl ?_
  refine s_get (v := .ref 192) rfl o6 rfl rfl ?_
  refine q_iload_n rfl rfl ?_
  have e192_6 := (f6.ne rfl (f5.ne rfl e192_4))
  refine s_iaload (j := 1) (v := .int 0) rfl e192_6 (by decide) rfl (by first | rfl | decide) ?_
  have e193_6 := (f6.ne rfl o5)
  refine s_iastore (j := 1) rfl e193_6 (by decide) rfl (fun h7 o7 f7 => ?_)
  have s7 := s6.put f7
  refine q_aload_n rfl rfl ?_
  refine q_dup rfl rfl ?_
  have e191_7 := (o6.ne f7 rfl)
  refine s_get (v := .int 1) rfl e191_7 rfl rfl ?_
  refine q_iconst rfl ?_
  refine s_iadd (k := 2) rfl (by decide) ?_
  refine s_put (vs' := [.int 0, .ref 192, .ref 193, .int 2, .ref 194, .ref 195, .ref 196, .ref 197, .ref 198, .ref 199, .ref 200, .ref 201, .ref 202, .ref 203, .ref 204, .ref 205, .int (-1), .int 0, .ref 206, .ref 207, .ref 208, .ref 209, .ref 210, .ref 211, .ref 212, .ref 213, .ref 214, .ref 215, .int 0, .int 0, .int 0, .int 0, .ref 216, .ref 217, .ref 218, .ref 219, .ref 220, .int (-1), .int 0, .int 0, .int 0, .int 0, .int 0, .int 0, .ref 221, .ref 222, .ref 223, .ref 224, .int 0, .ref 225, .int 0, .ref 226, .ref 227, .int 0, .ref 228, .ref 229, .ref 230, .ref 231, .ref 232]) rfl e191_7 rfl rfl rfl rfl (fun h8 o8 f8 => ?_)
  have s8 := s7.put f8
  refine s_iinc (y := 2) (lv' := [(2, .int 2), (0, .ref 191), (1, .int 5)]) rfl rfl (by decide) (by decide) rfl ?_
  refine q_goto rfl ?_
  refine q_iload_n rfl rfl ?_
  refine q_iload_n rfl rfl ?_
  refine q_icmp_ge rfl (fun c => absurd c (by decide)) (fun _ => ?_)
  refine q_aload_n rfl rfl ?_
  refine s_get (v := .ref 193) rfl o8 rfl rfl ?_
  refine q_aload_n rfl rfl ?_
  refine s_get (v := .int 2) rfl o8 rfl rfl ?_
  refine q_aload_n rfl rfl ?_
  refine s_get (v := .ref 192) rfl o8 rfl rfl ?_
  refine q_iload_n rfl rfl ?_
  have e192_8 := (f8.ne rfl (f7.ne rfl e192_6))
  refine s_iaload (j := 2) (v := .int 0) rfl e192_8 (by decide) rfl (by first | rfl | decide) ?_
  have e193_8 := (f8.ne rfl o7)
  refine s_iastore (j := 2) rfl e193_8 (by decide) rfl (fun h9 o9 f9 => ?_)
  have s9 := s8.put f9
  refine q_aload_n rfl rfl ?_
  refine q_dup rfl rfl ?_
  have e191_9 := (o8.ne f9 rfl)
  refine s_get (v := .int 2) rfl e191_9 rfl rfl ?_
  refine q_iconst rfl ?_
  refine s_iadd (k := 3) rfl (by decide) ?_
  refine s_put (vs' := [.int 0, .ref 192, .ref 193, .int 3, .ref 194, .ref 195, .ref 196, .ref 197, .ref 198, .ref 199, .ref 200, .ref 201, .ref 202, .ref 203, .ref 204, .ref 205, .int (-1), .int 0, .ref 206, .ref 207, .ref 208, .ref 209, .ref 210, .ref 211, .ref 212, .ref 213, .ref 214, .ref 215, .int 0, .int 0, .int 0, .int 0, .ref 216, .ref 217, .ref 218, .ref 219, .ref 220, .int (-1), .int 0, .int 0, .int 0, .int 0, .int 0, .int 0, .ref 221, .ref 222, .ref 223, .ref 224, .int 0, .ref 225, .int 0, .ref 226, .ref 227, .int 0, .ref 228, .ref 229, .ref 230, .ref 231, .ref 232]) rfl e191_9 rfl rfl rfl rfl (fun h10 o10 f10 => ?_)
  have s10 := s9.put f10
  refine s_iinc (y := 3) (lv' := [(2, .int 3), (0, .ref 191), (1, .int 5)]) rfl rfl (by decide) (by decide) rfl ?_
  refine q_goto rfl ?_
  refine q_iload_n rfl rfl ?_
  refine q_iload_n rfl rfl ?_
  refine q_icmp_ge rfl (fun c => absurd c (by decide)) (fun _ => ?_)
  refine q_aload_n rfl rfl ?_
  refine s_get (v := .ref 193) rfl o10 rfl rfl ?_
  refine q_aload_n rfl rfl ?_
  refine s_get (v := .int 3) rfl o10 rfl rfl ?_
  refine q_aload_n rfl rfl ?_
  refine s_get (v := .ref 192) rfl o10 rfl rfl ?_
  refine q_iload_n rfl rfl ?_
  have e192_10 := (f10.ne rfl (f9.ne rfl e192_8))
  refine s_iaload (j := 3) (v := .int 0) rfl e192_10 (by decide) rfl (by first | rfl | decide) ?_
  have e193_10 := (f10.ne rfl o9)
  refine s_iastore (j := 3) rfl e193_10 (by decide) rfl (fun h11 o11 f11 => ?_)
  have s11 := s10.put f11
  refine q_aload_n rfl rfl ?_
  refine q_dup rfl rfl ?_
  have e191_11 := (o10.ne f11 rfl)
  refine s_get (v := .int 3) rfl e191_11 rfl rfl ?_
  refine q_iconst rfl ?_
  refine s_iadd (k := 4) rfl (by decide) ?_
  refine s_put (vs' := [.int 0, .ref 192, .ref 193, .int 4, .ref 194, .ref 195, .ref 196, .ref 197, .ref 198, .ref 199, .ref 200, .ref 201, .ref 202, .ref 203, .ref 204, .ref 205, .int (-1), .int 0, .ref 206, .ref 207, .ref 208, .ref 209, .ref 210, .ref 211, .ref 212, .ref 213, .ref 214, .ref 215, .int 0, .int 0, .int 0, .int 0, .ref 216, .ref 217, .ref 218, .ref 219, .ref 220, .int (-1), .int 0, .int 0, .int 0, .int 0, .int 0, .int 0, .ref 221, .ref 222, .ref 223, .ref 224, .int 0, .ref 225, .int 0, .ref 226, .ref 227, .int 0, .ref 228, .ref 229, .ref 230, .ref 231, .ref 232]) rfl e191_11 rfl rfl rfl rfl (fun h12 o12 f12 => ?_)
  have s12 := s11.put f12
  refine s_iinc (y := 4) (lv' := [(2, .int 4), (0, .ref 191), (1, .int 5)]) rfl rfl (by decide) (by decide) rfl ?_
  refine q_goto rfl ?_
  refine q_iload_n rfl rfl ?_
  refine q_iload_n rfl rfl ?_
  refine q_icmp_ge rfl (fun c => absurd c (by decide)) (fun _ => ?_)
  refine q_aload_n rfl rfl ?_
  refine s_get (v := .ref 193) rfl o12 rfl rfl ?_
  refine q_aload_n rfl rfl ?_
  refine s_get (v := .int 4) rfl o12 rfl rfl ?_
  refine q_aload_n rfl rfl ?_
  refine s_get (v := .ref 192) rfl o12 rfl rfl ?_
  refine q_iload_n rfl rfl ?_
  have e192_12 := (f12.ne rfl (f11.ne rfl e192_10))
  refine s_iaload (j := 4) (v := .int 0) rfl e192_12 (by decide) rfl (by first | rfl | decide) ?_
  have e193_12 := (f12.ne rfl o11)
  refine s_iastore (j := 4) rfl e193_12 (by decide) rfl (fun h13 o13 f13 => ?_)
  have s13 := s12.put f13
  refine q_aload_n rfl rfl ?_
  refine q_dup rfl rfl ?_
  have e191_13 := (o12.ne f13 rfl)
  refine s_get (v := .int 4) rfl e191_13 rfl rfl ?_
  refine q_iconst rfl ?_
  refine s_iadd (k := 5) rfl (by decide) ?_
  refine s_put (vs' := [.int 0, .ref 192, .ref 193, .int 5, .ref 194, .ref 195, .ref 196, .ref 197, .ref 198, .ref 199, .ref 200, .ref 201, .ref 202, .ref 203, .ref 204, .ref 205, .int (-1), .int 0, .ref 206, .ref 207, .ref 208, .ref 209, .ref 210, .ref 211, .ref 212, .ref 213, .ref 214, .ref 215, .int 0, .int 0, .int 0, .int 0, .ref 216, .ref 217, .ref 218, .ref 219, .ref 220, .int (-1), .int 0, .int 0, .int 0, .int 0, .int 0, .int 0, .ref 221, .ref 222, .ref 223, .ref 224, .int 0, .ref 225, .int 0, .ref 226, .ref 227, .int 0, .ref 228, .ref 229, .ref 230, .ref 231, .ref 232]) rfl e191_13 rfl rfl rfl rfl (fun h14 o14 f14 => ?_)
  have s14 := s13.put f14
  refine s_iinc (y := 5) (lv' := [(2, .int 5), (0, .ref 191), (1, .int 5)]) rfl rfl (by decide) (by decide) rfl ?_
  refine q_goto rfl ?_
  refine q_iload_n rfl rfl ?_
  refine q_iload_n rfl rfl ?_
  refine q_icmp_ge rfl (fun _ => ?_) (fun c => absurd (by decide) c)
  refine q_iconst rfl ?_
  refine s_istore_n (lv' := [(2, .int 0), (0, .ref 191), (1, .int 5)]) rfl (by decide) rfl ?_
  have e192_14 := (f14.ne rfl (f13.ne rfl e192_12))
  refine en_loop (m := 191) (a := 192) rfl rfl (by decide) (by decide) 20 0 h14 _ rfl o14 e192_14 (fun h15 f15 => ?_)
  have s15 := s14.put f15
  show aW aiP 217 16 636 88 [(2, .int 20), (0, .ref 191), (1, .int 5)] [] h15 _
  refine q_aload_n rfl rfl ?_
  have e191_15 := (o14.ne f15 rfl)
  refine s_get (v := .int 5) rfl e191_15 rfl rfl ?_
  refine q_ireturn rfl rfl ?_
  show aW aiP 0 17 658 243 [(4, .int 0), (3, .ref 233), (2, .ref 191), (1, .ref 6), (0, .ref 0)] [.int 5, .int 5] h15 _
  refine q_icmp_eq rfl (fun _ => ?_) (fun c => absurd (by decide) c)
  refine s_iinc (y := 6) (lv' := [(4, .int 6), (3, .ref 233), (2, .ref 191), (1, .ref 6), (0, .ref 0)]) rfl rfl (by decide) (by decide) rfl ?_
  refine q_goto rfl ?_
  refine q_iload rfl rfl ?_
  refine q_aload_n rfl rfl ?_
  have e0_15 := (f15.ne rfl (f14.ne rfl (f13.ne rfl (f12.ne rfl (f11.ne rfl (f10.ne rfl (f9.ne rfl (f8.ne rfl (f7.ne rfl (f6.ne rfl (f5.ne rfl (f4.ne rfl e0_3))))))))))))
  refine s_alen (x := 6) rfl e0_15 rfl (by decide) ?_
  refine q_bipush rfl ?_
  refine s_isub (k := 0) rfl (by decide) ?_
  refine q_icmp_gt rfl (fun _ => ?_) (fun c => absurd (by decide) c)
  refine q_iconst rfl ?_
  refine q_ireturn rfl rfl ?_
  exact ⟨rfl, s15.bd rfl⟩
set_option maxRecDepth 20000 in
set_option maxHeartbeats 4000000 in
theorem p_case1_6 {xs : Nat → Int32} {h : ai_H} (F : Fresh 6 xs h) (hk : xs 0 &&& 31 = 1) (hw : xs 1 = 6) : aW aiP 0 17 658 33 [(4, .int 0), (3, .ref 233), (2, .ref 191), (1, .ref 6), (0, .ref 0)] [] h p_Q := by
  have s0 := F.2.2.2.2.2.2.2.2.2.2.2.2.2.2.2.2.2.2.2.2.2.2.2.2.2.2.2.2.2.2.2.2.2.2.2.2.2.2.2.2.2.2.2.2.2.2.2.2.2.2.2.2.2.2.2.2.2.2.2.2.2.2.2.2.2.2.2.2.2.2
  refine q_aload_n rfl rfl ?_
  refine q_iload rfl rfl ?_
  have e0 := F.1
  refine s_iaload (j := 0) (v := .int (xs 0)) rfl e0 (by decide) rfl (by first | rfl | decide) ?_
  refine q_bipush rfl ?_
  refine s_iand (k := ((xs 0) &&& (31 : Int32))) rfl rfl ?_
  rw [hk]
  show aW aiP 0 17 658 40 [(4, .int 0), (3, .ref 233), (2, .ref 191), (1, .ref 6), (0, .ref 0)] [.int 1] h _
  refine s_sw (tg := 223) rfl rfl ?_
  refine q_aload_n rfl rfl ?_
  refine q_aload_n rfl rfl ?_
  refine q_iload rfl rfl ?_
  refine q_iconst rfl ?_
  refine s_iadd (k := 1) rfl (by decide) ?_
  refine s_iaload (j := 1) (v := .int (xs 1)) rfl e0 (by decide) rfl (by first | rfl | decide) ?_
  rw [hw]
  have e6 := F.2.2.2.2.2.2.1
  refine s_callV (as := [.int 6]) (rest := []) (d' := 16) (w' := 637) (lv' := [(0, .ref 6), (1, .int 6)]) rfl e6 rfl rfl rfl rfl rfl rfl ?_
  refine q_iload_n rfl rfl ?_
  refine q_if_lt rfl (fun c => absurd c (by decide)) (fun _ => ?_)
  refine q_iload_n rfl rfl ?_
  refine q_bipush rfl ?_
  refine q_icmp_gt rfl (fun c => absurd c (by decide)) (fun _ => ?_)
  refine q_aload_n rfl rfl ?_
  refine s_get (v := .int 0) rfl e6 rfl rfl ?_
  refine q_iload_n rfl rfl ?_
  refine s_iadd (k := 6) rfl (by decide) ?_
  refine q_sipush rfl ?_
  refine q_icmp_le rfl (fun _ => ?_) (fun c => absurd (by decide) c)
  refine q_aload_n rfl rfl ?_
  refine s_get (v := .ref 7) rfl e6 rfl rfl ?_
  refine q_iconst rfl ?_
  refine q_aload_n rfl rfl ?_
  refine s_get (v := .ref 8) rfl e6 rfl rfl ?_
  refine q_aload_n rfl rfl ?_
  refine s_get (v := .int 0) rfl e6 rfl rfl ?_
  refine q_iload_n rfl rfl ?_
  have e7 := F.2.2.2.2.2.2.2.1
  have e8 := F.2.2.2.2.2.2.2.2.1
  refine s_copy (sp := 0) (dp := 0) (k := 6) rfl e7 e8 (by decide) (by decide) (by decide) rfl (by decide) (by decide) (by decide) (fun i _ => rfl) (fun h1 o1 f1 => ?_)
  have s1 := s0.put f1
  refine q_aload_n rfl rfl ?_
  refine q_dup rfl rfl ?_
  have e6_1 := (e6.ne f1 rfl)
  refine s_get (v := .int 0) rfl e6_1 rfl rfl ?_
  refine q_iload_n rfl rfl ?_
  refine s_iadd (k := 6) rfl (by decide) ?_
  refine s_put (vs' := [.ref 7, .ref 8, .int 6, .ref 9, .int (-1), .ref 51, .ref 93, .ref 135, .ref 177, .ref 180, .int 0, .ref 183, .ref 186, .ref 189]) rfl e6_1 rfl rfl rfl rfl (fun h2 o2 f2 => ?_)
  have s2 := s1.put f2
  refine q_aload_n rfl rfl ?_
  refine s_get (v := .ref 7) rfl o2 rfl rfl ?_
  refine q_iconst rfl ?_
  refine s_callS (as := [.ref 7, .int 0]) (rest := []) (d' := 15) (w' := 614) (lv' := [(0, .ref 7), (1, .int 0)]) rfl rfl rfl rfl rfl rfl rfl rfl ?_
  refine q_iconst rfl ?_
  refine s_istore_n (lv' := [(2, .int 0), (0, .ref 7), (1, .int 0)]) rfl (by decide) rfl ?_
  refine q_aload_n rfl rfl ?_
  have e7_2 := (f2.ne rfl (f1.ne rfl e7))
  refine s_alen (x := 20) rfl e7_2 rfl (by decide) ?_
  refine s_istore_n (lv' := [(3, .int 20), (2, .int 0), (0, .ref 7), (1, .int 0)]) rfl (by decide) rfl ?_
  refine aW_lv (l := [(2, .int (nI 0)), (3, .int 20), (0, .ref 7), (1, .int 0)]) ?_ rfl rfl (by repeat' (first | exact inL_n | refine inL_c rfl ?_))
  refine fi_loop (a := 7) (by decide) 20 0 h2 _ rfl e7_2 (fun h3 f3 => ?_)
  have s3 := s2.put f3
  show aW aiP 15 16 637 59 [(0, .ref 6), (1, .int 6)] [] h3 _
  refine q_aload_n rfl rfl ?_
  have e6_3 := (o2.ne f3 rfl)
  refine s_get (v := .int 6) rfl e6_3 rfl rfl ?_
  refine q_ireturn rfl rfl ?_
  show aW aiP 0 17 658 233 [(4, .int 0), (3, .ref 233), (2, .ref 191), (1, .ref 6), (0, .ref 0)] [.int 6] h3 _
  refine q_aload_n rfl rfl ?_
  refine q_aload_n rfl rfl ?_
  refine q_iload rfl rfl ?_
  refine q_iconst rfl ?_
  refine s_iadd (k := 1) rfl (by decide) ?_
  have e0_3 := (f3.ne rfl (f2.ne rfl (f1.ne rfl e0)))
  refine s_iaload (j := 1) (v := .int (xs 1)) rfl e0_3 (by decide) rfl (by first | rfl | decide) ?_
  rw [hw]
  have e191 := F.2.2.2.2.2.2.2.2.2.2.2.2.2.2.2.2.2.2.2.2.2.2.2.2.2.2.2.1
  have e191_3 := (((e191.ne f1 rfl).ne f2 rfl).ne f3 rfl)
  refine s_callV (as := [.int 6]) (rest := [.int 6]) (d' := 16) (w' := 636) (lv' := [(0, .ref 191), (1, .int 6)]) rfl e191_3 rfl rfl rfl rfl rfl rfl ?_
  refine q_aload_n rfl rfl ?_
  refine q_iconst rfl ?_
  refine s_put (vs' := [.int 0, .ref 192, .ref 193, .int 0, .ref 194, .ref 195, .ref 196, .ref 197, .ref 198, .ref 199, .ref 200, .ref 201, .ref 202, .ref 203, .ref 204, .ref 205, .int (-1), .int 0, .ref 206, .ref 207, .ref 208, .ref 209, .ref 210, .ref 211, .ref 212, .ref 213, .ref 214, .ref 215, .int 0, .int 0, .int 0, .int 0, .ref 216, .ref 217, .ref 218, .ref 219, .ref 220, .int (-1), .int 0, .int 0, .int 0, .int 0, .int 0, .int 0, .ref 221, .ref 222, .ref 223, .ref 224, .int 0, .ref 225, .int 0, .ref 226, .ref 227, .int 0, .ref 228, .ref 229, .ref 230, .ref 231, .ref 232]) rfl e191_3 rfl rfl rfl rfl (fun h4 o4 f4 => ?_)
  have s4 := s3.put f4
  refine q_iload_n rfl rfl ?_
  refine q_if_lt rfl (fun c => absurd c (by decide)) (fun _ => ?_)
  refine q_iload_n rfl rfl ?_
  refine q_bipush rfl ?_
  refine q_icmp_gt rfl (fun c => absurd c (by decide)) (fun _ => ?_)
  refine q_aload_n rfl rfl ?_
  refine s_get (v := .int 0) rfl o4 rfl rfl ?_
  refine q_iload_n rfl rfl ?_
  refine s_iadd (k := 6) rfl (by decide) ?_
  refine q_sipush rfl ?_
  refine q_icmp_le rfl (fun _ => ?_) (fun c => absurd (by decide) c)
  refine q_iconst rfl ?_
  refine s_istore_n (lv' := [(2, .int 0), (0, .ref 191), (1, .int 6)]) rfl (by decide) rfl ?_
  refine q_iload_n rfl rfl ?_
  refine q_iload_n rfl rfl ?_
  refine q_icmp_ge rfl (fun c => absurd c (by decide)) (fun _ => ?_)
  refine q_aload_n rfl rfl ?_
  refine s_get (v := .ref 193) rfl o4 rfl rfl ?_
  refine q_aload_n rfl rfl ?_
  refine s_get (v := .int 0) rfl o4 rfl rfl ?_
  refine q_aload_n rfl rfl ?_
  refine s_get (v := .ref 192) rfl o4 rfl rfl ?_
  refine q_iload_n rfl rfl ?_
  have e192 := F.2.2.2.2.2.2.2.2.2.2.2.2.2.2.2.2.2.2.2.2.2.2.2.2.2.2.2.2.1
  have e192_4 := (f4.ne rfl (f3.ne rfl (f2.ne rfl (f1.ne rfl e192))))
  refine s_iaload (j := 0) (v := .int 0) rfl e192_4 (by decide) rfl (by first | rfl | decide) ?_
  have e193 := F.2.2.2.2.2.2.2.2.2.2.2.2.2.2.2.2.2.2.2.2.2.2.2.2.2.2.2.2.2.1
  have e193_4 := (f4.ne rfl (f3.ne rfl (f2.ne rfl (f1.ne rfl e193))))
  refine s_iastore (j := 0) rfl e193_4 (by decide) rfl (fun h5 o5 f5 => ?_)
  have s5 := s4.put f5
  refine q_aload_n rfl rfl ?_
  refine q_dup rfl rfl ?_
  have e191_5 := (o4.ne f5 rfl)
  refine s_get (v := .int 0) rfl e191_5 rfl rfl ?_
  refine q_iconst rfl ?_
  refine s_iadd (k := 1) rfl (by decide) ?_
  refine s_put (vs' := [.int 0, .ref 192, .ref 193, .int 1, .ref 194, .ref 195, .ref 196, .ref 197, .ref 198, .ref 199, .ref 200, .ref 201, .ref 202, .ref 203, .ref 204, .ref 205, .int (-1), .int 0, .ref 206, .ref 207, .ref 208, .ref 209, .ref 210, .ref 211, .ref 212, .ref 213, .ref 214, .ref 215, .int 0, .int 0, .int 0, .int 0, .ref 216, .ref 217, .ref 218, .ref 219, .ref 220, .int (-1), .int 0, .int 0, .int 0, .int 0, .int 0, .int 0, .ref 221, .ref 222, .ref 223, .ref 224, .int 0, .ref 225, .int 0, .ref 226, .ref 227, .int 0, .ref 228, .ref 229, .ref 230, .ref 231, .ref 232]) rfl e191_5 rfl rfl rfl rfl (fun h6 o6 f6 => ?_)
  have s6 := s5.put f6
  refine s_iinc (y := 1) (lv' := [(2, .int 1), (0, .ref 191), (1, .int 6)]) rfl rfl (by decide) (by decide) rfl ?_
  refine q_goto rfl ?_
  refine q_iload_n rfl rfl ?_
  refine q_iload_n rfl rfl ?_
  refine q_icmp_ge rfl (fun c => absurd c (by decide)) (fun _ => ?_)
  refine q_aload_n rfl rfl ?_
  refine s_get (v := .ref 193) rfl o6 rfl rfl ?_
  refine q_aload_n rfl rfl ?_
  refine s_get (v := .int 1) rfl o6 rfl rfl ?_
  refine q_aload_n rfl rfl ?_
  refine s_get (v := .ref 192) rfl o6 rfl rfl ?_
  refine q_iload_n rfl rfl ?_
  have e192_6 := (f6.ne rfl (f5.ne rfl e192_4))
  refine s_iaload (j := 1) (v := .int 0) rfl e192_6 (by decide) rfl (by first | rfl | decide) ?_
  have e193_6 := (f6.ne rfl o5)
  refine s_iastore (j := 1) rfl e193_6 (by decide) rfl (fun h7 o7 f7 => ?_)
  have s7 := s6.put f7
  refine q_aload_n rfl rfl ?_
  refine q_dup rfl rfl ?_
  have e191_7 := (o6.ne f7 rfl)
  refine s_get (v := .int 1) rfl e191_7 rfl rfl ?_
  refine q_iconst rfl ?_
  refine s_iadd (k := 2) rfl (by decide) ?_
  refine s_put (vs' := [.int 0, .ref 192, .ref 193, .int 2, .ref 194, .ref 195, .ref 196, .ref 197, .ref 198, .ref 199, .ref 200, .ref 201, .ref 202, .ref 203, .ref 204, .ref 205, .int (-1), .int 0, .ref 206, .ref 207, .ref 208, .ref 209, .ref 210, .ref 211, .ref 212, .ref 213, .ref 214, .ref 215, .int 0, .int 0, .int 0, .int 0, .ref 216, .ref 217, .ref 218, .ref 219, .ref 220, .int (-1), .int 0, .int 0, .int 0, .int 0, .int 0, .int 0, .ref 221, .ref 222, .ref 223, .ref 224, .int 0, .ref 225, .int 0, .ref 226, .ref 227, .int 0, .ref 228, .ref 229, .ref 230, .ref 231, .ref 232]) rfl e191_7 rfl rfl rfl rfl (fun h8 o8 f8 => ?_)
  have s8 := s7.put f8
  refine s_iinc (y := 2) (lv' := [(2, .int 2), (0, .ref 191), (1, .int 6)]) rfl rfl (by decide) (by decide) rfl ?_
  refine q_goto rfl ?_
  refine q_iload_n rfl rfl ?_
  refine q_iload_n rfl rfl ?_
  refine q_icmp_ge rfl (fun c => absurd c (by decide)) (fun _ => ?_)
  refine q_aload_n rfl rfl ?_
  refine s_get (v := .ref 193) rfl o8 rfl rfl ?_
  refine q_aload_n rfl rfl ?_
  refine s_get (v := .int 2) rfl o8 rfl rfl ?_
  refine q_aload_n rfl rfl ?_
  refine s_get (v := .ref 192) rfl o8 rfl rfl ?_
  refine q_iload_n rfl rfl ?_
  have e192_8 := (f8.ne rfl (f7.ne rfl e192_6))
  refine s_iaload (j := 2) (v := .int 0) rfl e192_8 (by decide) rfl (by first | rfl | decide) ?_
  have e193_8 := (f8.ne rfl o7)
  refine s_iastore (j := 2) rfl e193_8 (by decide) rfl (fun h9 o9 f9 => ?_)
  have s9 := s8.put f9
  refine q_aload_n rfl rfl ?_
  refine q_dup rfl rfl ?_
  have e191_9 := (o8.ne f9 rfl)
  refine s_get (v := .int 2) rfl e191_9 rfl rfl ?_
  refine q_iconst rfl ?_
  refine s_iadd (k := 3) rfl (by decide) ?_
  refine s_put (vs' := [.int 0, .ref 192, .ref 193, .int 3, .ref 194, .ref 195, .ref 196, .ref 197, .ref 198, .ref 199, .ref 200, .ref 201, .ref 202, .ref 203, .ref 204, .ref 205, .int (-1), .int 0, .ref 206, .ref 207, .ref 208, .ref 209, .ref 210, .ref 211, .ref 212, .ref 213, .ref 214, .ref 215, .int 0, .int 0, .int 0, .int 0, .ref 216, .ref 217, .ref 218, .ref 219, .ref 220, .int (-1), .int 0, .int 0, .int 0, .int 0, .int 0, .int 0, .ref 221, .ref 222, .ref 223, .ref 224, .int 0, .ref 225, .int 0, .ref 226, .ref 227, .int 0, .ref 228, .ref 229, .ref 230, .ref 231, .ref 232]) rfl e191_9 rfl rfl rfl rfl (fun h10 o10 f10 => ?_)
  have s10 := s9.put f10
  refine s_iinc (y := 3) (lv' := [(2, .int 3), (0, .ref 191), (1, .int 6)]) rfl rfl (by decide) (by decide) rfl ?_
  refine q_goto rfl ?_
  refine q_iload_n rfl rfl ?_
  refine q_iload_n rfl rfl ?_
  refine q_icmp_ge rfl (fun c => absurd c (by decide)) (fun _ => ?_)
  refine q_aload_n rfl rfl ?_
  refine s_get (v := .ref 193) rfl o10 rfl rfl ?_
  refine q_aload_n rfl rfl ?_
  refine s_get (v := .int 3) rfl o10 rfl rfl ?_
  refine q_aload_n rfl rfl ?_
  refine s_get (v := .ref 192) rfl o10 rfl rfl ?_
  refine q_iload_n rfl rfl ?_
  have e192_10 := (f10.ne rfl (f9.ne rfl e192_8))
  refine s_iaload (j := 3) (v := .int 0) rfl e192_10 (by decide) rfl (by first | rfl | decide) ?_
  have e193_10 := (f10.ne rfl o9)
  refine s_iastore (j := 3) rfl e193_10 (by decide) rfl (fun h11 o11 f11 => ?_)
  have s11 := s10.put f11
  refine q_aload_n rfl rfl ?_
  refine q_dup rfl rfl ?_
  have e191_11 := (o10.ne f11 rfl)
  refine s_get (v := .int 3) rfl e191_11 rfl rfl ?_
  refine q_iconst rfl ?_
  refine s_iadd (k := 4) rfl (by decide) ?_
  refine s_put (vs' := [.int 0, .ref 192, .ref 193, .int 4, .ref 194, .ref 195, .ref 196, .ref 197, .ref 198, .ref 199, .ref 200, .ref 201, .ref 202, .ref 203, .ref 204, .ref 205, .int (-1), .int 0, .ref 206, .ref 207, .ref 208, .ref 209, .ref 210, .ref 211, .ref 212, .ref 213, .ref 214, .ref 215, .int 0, .int 0, .int 0, .int 0, .ref 216, .ref 217, .ref 218, .ref 219, .ref 220, .int (-1), .int 0, .int 0, .int 0, .int 0, .int 0, .int 0, .ref 221, .ref 222, .ref 223, .ref 224, .int 0, .ref 225, .int 0, .ref 226, .ref 227, .int 0, .ref 228, .ref 229, .ref 230, .ref 231, .ref 232]) rfl e191_11 rfl rfl rfl rfl (fun h12 o12 f12 => ?_)
  have s12 := s11.put f12
  refine s_iinc (y := 4) (lv' := [(2, .int 4), (0, .ref 191), (1, .int 6)]) rfl rfl (by decide) (by decide) rfl ?_
  refine q_goto rfl ?_
  refine q_iload_n rfl rfl ?_
  refine q_iload_n rfl rfl ?_
  refine q_icmp_ge rfl (fun c => absurd c (by decide)) (fun _ => ?_)
  refine q_aload_n rfl rfl ?_
  refine s_get (v := .ref 193) rfl o12 rfl rfl ?_
  refine q_aload_n rfl rfl ?_
  refine s_get (v := .int 4) rfl o12 rfl rfl ?_
  refine q_aload_n rfl rfl ?_
  refine s_get (v := .ref 192) rfl o12 rfl rfl ?_
  refine q_iload_n rfl rfl ?_
  have e192_12 := (f12.ne rfl (f11.ne rfl e192_10))
  refine s_iaload (j := 4) (v := .int 0) rfl e192_12 (by decide) rfl (by first | rfl | decide) ?_
  have e193_12 := (f12.ne rfl o11)
  refine s_iastore (j := 4) rfl e193_12 (by decide) rfl (fun h13 o13 f13 => ?_)
  have s13 := s12.put f13
  refine q_aload_n rfl rfl ?_
  refine q_dup rfl rfl ?_
  have e191_13 := (o12.ne f13 rfl)
  refine s_get (v := .int 4) rfl e191_13 rfl rfl ?_
  refine q_iconst rfl ?_
  refine s_iadd (k := 5) rfl (by decide) ?_
  refine s_put (vs' := [.int 0, .ref 192, .ref 193, .int 5, .ref 194, .ref 195, .ref 196, .ref 197, .ref 198, .ref 199, .ref 200, .ref 201, .ref 202, .ref 203, .ref 204, .ref 205, .int (-1), .int 0, .ref 206, .ref 207, .ref 208, .ref 209, .ref 210, .ref 211, .ref 212, .ref 213, .ref 214, .ref 215, .int 0, .int 0, .int 0, .int 0, .ref 216, .ref 217, .ref 218, .ref 219, .ref 220, .int (-1), .int 0, .int 0, .int 0, .int 0, .int 0, .int 0, .ref 221, .ref 222, .ref 223, .ref 224, .int 0, .ref 225, .int 0, .ref 226, .ref 227, .int 0, .ref 228, .ref 229, .ref 230, .ref 231, .ref 232]) rfl e191_13 rfl rfl rfl rfl (fun h14 o14 f14 => ?_)
  have s14 := s13.put f14
  refine s_iinc (y := 5) (lv' := [(2, .int 5), (0, .ref 191), (1, .int 6)]) rfl rfl (by decide) (by decide) rfl ?_
  refine q_goto rfl ?_
  refine q_iload_n rfl rfl ?_
  refine q_iload_n rfl rfl ?_
  refine q_icmp_ge rfl (fun c => absurd c (by decide)) (fun _ => ?_)
  refine q_aload_n rfl rfl ?_
  refine s_get (v := .ref 193) rfl o14 rfl rfl ?_
  refine q_aload_n rfl rfl ?_
  refine s_get (v := .int 5) rfl o14 rfl rfl ?_
  refine q_aload_n rfl rfl ?_
  refine s_get (v := .ref 192) rfl o14 rfl rfl ?_
  refine q_iload_n rfl rfl ?_
  have e192_14 := (f14.ne rfl (f13.ne rfl e192_12))
  refine s_iaload (j := 5) (v := .int 0) rfl e192_14 (by decide) rfl (by first | rfl | decide) ?_
  have e193_14 := (f14.ne rfl o13)
  refine s_iastore (j := 5) rfl e193_14 (by decide) rfl (fun h15 o15 f15 => ?_)
  have s15 := s14.put f15
  refine q_aload_n rfl rfl ?_
  refine q_dup rfl rfl ?_
  have e191_15 := (o14.ne f15 rfl)
  refine s_get (v := .int 5) rfl e191_15 rfl rfl ?_
  refine q_iconst rfl ?_
  refine s_iadd (k := 6) rfl (by decide) ?_
  refine s_put (vs' := [.int 0, .ref 192, .ref 193, .int 6, .ref 194, .ref 195, .ref 196, .ref 197, .ref 198, .ref 199, .ref 200, .ref 201, .ref 202, .ref 203, .ref 204, .ref 205, .int (-1), .int 0, .ref 206, .ref 207, .ref 208, .ref 209, .ref 210, .ref 211, .ref 212, .ref 213, .ref 214, .ref 215, .int 0, .int 0, .int 0, .int 0, .ref 216, .ref 217, .ref 218, .ref 219, .ref 220, .int (-1), .int 0, .int 0, .int 0, .int 0, .int 0, .int 0, .ref 221, .ref 222, .ref 223, .ref 224, .int 0, .ref 225, .int 0, .ref 226, .ref 227, .int 0, .ref 228, .ref 229, .ref 230, .ref 231, .ref 232]) rfl e191_15 rfl rfl rfl rfl (fun h16 o16 f16 => ?_)
  have s16 := s15.put f16
  refine s_iinc (y := 6) (lv' := [(2, .int 6), (0, .ref 191), (1, .int 6)]) rfl rfl (by decide) (by decide) rfl ?_
  refine q_goto rfl ?_
  refine q_iload_n rfl rfl ?_
  refine q_iload_n rfl rfl ?_
  refine q_icmp_ge rfl (fun _ => ?_) (fun c => absurd (by decide) c)
  refine q_iconst rfl ?_
  refine s_istore_n (lv' := [(2, .int 0), (0, .ref 191), (1, .int 6)]) rfl (by decide) rfl ?_
  have e192_16 := (f16.ne rfl (f15.ne rfl e192_14))
  refine en_loop (m := 191) (a := 192) rfl rfl (by decide) (by decide) 20 0 h16 _ rfl o16 e192_16 (fun h17 f17 => ?_)
  have s17 := s16.put f17
  show aW aiP 217 16 636 88 [(2, .int 20), (0, .ref 191), (1, .int 6)] [] h17 _
  refine q_aload_n rfl rfl ?_
  have e191_17 := (o16.ne f17 rfl)
  refine s_get (v := .int 6) rfl e191_17 rfl rfl ?_
  refine q_ireturn rfl rfl ?_
  show aW aiP 0 17 658 243 [(4, .int 0), (3, .ref 233), (2, .ref 191), (1, .ref 6), (0, .ref 0)] [.int 6, .int 6] h17 _
  refine q_icmp_eq rfl (fun _ => ?_) (fun c => absurd (by decide) c)
  refine s_iinc (y := 6) (lv' := [(4, .int 6), (3, .ref 233), (2, .ref 191), (1, .ref 6), (0, .ref 0)]) rfl rfl (by decide) (by decide) rfl ?_
  refine q_goto rfl ?_
  refine q_iload rfl rfl ?_
  refine q_aload_n rfl rfl ?_
  have e0_17 := (f17.ne rfl (f16.ne rfl (f15.ne rfl (f14.ne rfl (f13.ne rfl (f12.ne rfl (f11.ne rfl (f10.ne rfl (f9.ne rfl (f8.ne rfl (f7.ne rfl (f6.ne rfl (f5.ne rfl (f4.ne rfl e0_3))))))))))))))
  refine s_alen (x := 6) rfl e0_17 rfl (by decide) ?_
  refine q_bipush rfl ?_
  refine s_isub (k := 0) rfl (by decide) ?_
  refine q_icmp_gt rfl (fun _ => ?_) (fun c => absurd (by decide) c)
  refine q_iconst rfl ?_
  refine q_ireturn rfl rfl ?_
  exact ⟨rfl, s17.bd rfl⟩
set_option maxRecDepth 20000 in
set_option maxHeartbeats 4000000 in
theorem p_case1_7 {xs : Nat → Int32} {h : ai_H} (F : Fresh 6 xs h) (hk : xs 0 &&& 31 = 1) (hw : xs 1 = 7) : aW aiP 0 17 658 33 [(4, .int 0), (3, .ref 233), (2, .ref 191), (1, .ref 6), (0, .ref 0)] [] h p_Q := by
  have s0 := F.2.2.2.2.2.2.2.2.2.2.2.2.2.2.2.2.2.2.2.2.2.2.2.2.2.2.2.2.2.2.2.2.2.2.2.2.2.2.2.2.2.2.2.2.2.2.2.2.2.2.2.2.2.2.2.2.2.2.2.2.2.2.2.2.2.2.2.2.2.2
  refine q_aload_n rfl rfl ?_
  refine q_iload rfl rfl ?_
  have e0 := F.1
  refine s_iaload (j := 0) (v := .int (xs 0)) rfl e0 (by decide) rfl (by first | rfl | decide) ?_
  refine q_bipush rfl ?_
  refine s_iand (k := ((xs 0) &&& (31 : Int32))) rfl rfl ?_
  rw [hk]
  show aW aiP 0 17 658 40 [(4, .int 0), (3, .ref 233), (2, .ref 191), (1, .ref 6), (0, .ref 0)] [.int 1] h _
  refine s_sw (tg := 223) rfl rfl ?_
  refine q_aload_n rfl rfl ?_
  refine q_aload_n rfl rfl ?_
  refine q_iload rfl rfl ?_
  refine q_iconst rfl ?_
  refine s_iadd (k := 1) rfl (by decide) ?_
  refine s_iaload (j := 1) (v := .int (xs 1)) rfl e0 (by decide) rfl (by first | rfl | decide) ?_
  rw [hw]
  have e6 := F.2.2.2.2.2.2.1
  refine s_callV (as := [.int 7]) (rest := []) (d' := 16) (w' := 637) (lv' := [(0, .ref 6), (1, .int 7)]) rfl e6 rfl rfl rfl rfl rfl rfl ?_
  refine q_iload_n rfl rfl ?_
  refine q_if_lt rfl (fun c => absurd c (by decide)) (fun _ => ?_)
  refine q_iload_n rfl rfl ?_
  refine q_bipush rfl ?_
  refine q_icmp_gt rfl (fun c => absurd c (by decide)) (fun _ => ?_)
  refine q_aload_n rfl rfl ?_
  refine s_get (v := .int 0) rfl e6 rfl rfl ?_
  refine q_iload_n rfl rfl ?_
  refine s_iadd (k := 7) rfl (by decide) ?_
  refine q_sipush rfl ?_
  refine q_icmp_le rfl (fun _ => ?_) (fun c => absurd (by decide) c)
  refine q_aload_n rfl rfl ?_
  refine s_get (v := .ref 7) rfl e6 rfl rfl ?_
  refine q_iconst rfl ?_
  refine q_aload_n rfl rfl ?_
  refine s_get (v := .ref 8) rfl e6 rfl rfl ?_
  refine q_aload_n rfl rfl ?_
  refine s_get (v := .int 0) rfl e6 rfl rfl ?_
  refine q_iload_n rfl rfl ?_
  have e7 := F.2.2.2.2.2.2.2.1
  have e8 := F.2.2.2.2.2.2.2.2.1
  refine s_copy (sp := 0) (dp := 0) (k := 7) rfl e7 e8 (by decide) (by decide) (by decide) rfl (by decide) (by decide) (by decide) (fun i _ => rfl) (fun h1 o1 f1 => ?_)
  have s1 := s0.put f1
  refine q_aload_n rfl rfl ?_
  refine q_dup rfl rfl ?_
  have e6_1 := (e6.ne f1 rfl)
  refine s_get (v := .int 0) rfl e6_1 rfl rfl ?_
  refine q_iload_n rfl rfl ?_
  refine s_iadd (k := 7) rfl (by decide) ?_
  refine s_put (vs' := [.ref 7, .ref 8, .int 7, .ref 9, .int (-1), .ref 51, .ref 93, .ref 135, .ref 177, .ref 180, .int 0, .ref 183, .ref 186, .ref 189]) rfl e6_1 rfl rfl rfl rfl (fun h2 o2 f2 => ?_)
  have s2 := s1.put f2
  refine q_aload_n rfl rfl ?_
  refine s_get (v := .ref 7) rfl o2 rfl rfl ?_
  refine q_iconst rfl ?_
  refine s_callS (as := [.ref 7, .int 0]) (rest := []) (d' := 15) (w' := 614) (lv' := [(0, .ref 7), (1, .int 0)]) rfl rfl rfl rfl rfl rfl rfl rfl ?_
  refine q_iconst rfl ?_
  refine s_istore_n (lv' := [(2, .int 0), (0, .ref 7), (1, .int 0)]) rfl (by decide) rfl ?_
  refine q_aload_n rfl rfl ?_
  have e7_2 := (f2.ne rfl (f1.ne rfl e7))
  refine s_alen (x := 20) rfl e7_2 rfl (by decide) ?_
  refine s_istore_n (lv' := [(3, .int 20), (2, .int 0), (0, .ref 7), (1, .int 0)]) rfl (by decide) rfl ?_
  refine aW_lv (l := [(2, .int (nI 0)), (3, .int 20), (0, .ref 7), (1, .int 0)]) ?_ rfl rfl (by repeat' (first | exact inL_n | refine inL_c rfl ?_))
  refine fi_loop (a := 7) (by decide) 20 0 h2 _ rfl e7_2 (fun h3 f3 => ?_)
  have s3 := s2.put f3
  show aW aiP 15 16 637 59 [(0, .ref 6), (1, .int 7)] [] h3 _
  refine q_aload_n rfl rfl ?_
  have e6_3 := (o2.ne f3 rfl)
  refine s_get (v := .int 7) rfl e6_3 rfl rfl ?_
  refine q_ireturn rfl rfl ?_
  show aW aiP 0 17 658 233 [(4, .int 0), (3, .ref 233), (2, .ref 191), (1, .ref 6), (0, .ref 0)] [.int 7] h3 _
  refine q_aload_n rfl rfl ?_
  refine q_aload_n rfl rfl ?_
  refine q_iload rfl rfl ?_
  refine q_iconst rfl ?_
  refine s_iadd (k := 1) rfl (by decide) ?_
  have e0_3 := (f3.ne rfl (f2.ne rfl (f1.ne rfl e0)))
  refine s_iaload (j := 1) (v := .int (xs 1)) rfl e0_3 (by decide) rfl (by first | rfl | decide) ?_
  rw [hw]
  have e191 := F.2.2.2.2.2.2.2.2.2.2.2.2.2.2.2.2.2.2.2.2.2.2.2.2.2.2.2.1
  have e191_3 := (((e191.ne f1 rfl).ne f2 rfl).ne f3 rfl)
  refine s_callV (as := [.int 7]) (rest := [.int 7]) (d' := 16) (w' := 636) (lv' := [(0, .ref 191), (1, .int 7)]) rfl e191_3 rfl rfl rfl rfl rfl rfl ?_
  refine q_aload_n rfl rfl ?_
  refine q_iconst rfl ?_
  refine s_put (vs' := [.int 0, .ref 192, .ref 193, .int 0, .ref 194, .ref 195, .ref 196, .ref 197, .ref 198, .ref 199, .ref 200, .ref 201, .ref 202, .ref 203, .ref 204, .ref 205, .int (-1), .int 0, .ref 206, .ref 207, .ref 208, .ref 209, .ref 210, .ref 211, .ref 212, .ref 213, .ref 214, .ref 215, .int 0, .int 0, .int 0, .int 0, .ref 216, .ref 217, .ref 218, .ref 219, .ref 220, .int (-1), .int 0, .int 0, .int 0, .int 0, .int 0, .int 0, .ref 221, .ref 222, .ref 223, .ref 224, .int 0, .ref 225, .int 0, .ref 226, .ref 227, .int 0, .ref 228, .ref 229, .ref 230, .ref 231, .ref 232]) rfl e191_3 rfl rfl rfl rfl (fun h4 o4 f4 => ?_)
  have s4 := s3.put f4
  refine q_iload_n rfl rfl ?_
  refine q_if_lt rfl (fun c => absurd c (by decide)) (fun _ => ?_)
  refine q_iload_n rfl rfl ?_
  refine q_bipush rfl ?_
  refine q_icmp_gt rfl (fun c => absurd c (by decide)) (fun _ => ?_)
  refine q_aload_n rfl rfl ?_
  refine s_get (v := .int 0) rfl o4 rfl rfl ?_
  refine q_iload_n rfl rfl ?_
  refine s_iadd (k := 7) rfl (by decide) ?_
  refine q_sipush rfl ?_
  refine q_icmp_le rfl (fun _ => ?_) (fun c => absurd (by decide) c)
  refine q_iconst rfl ?_
  refine s_istore_n (lv' := [(2, .int 0), (0, .ref 191), (1, .int 7)]) rfl (by decide) rfl ?_
  refine q_iload_n rfl rfl ?_
  refine q_iload_n rfl rfl ?_
  refine q_icmp_ge rfl (fun c => absurd c (by decide)) (fun _ => ?_)
  refine q_aload_n rfl rfl ?_
  refine s_get (v := .ref 193) rfl o4 rfl rfl ?_
  refine q_aload_n rfl rfl ?_
  refine s_get (v := .int 0) rfl o4 rfl rfl ?_
  refine q_aload_n rfl rfl ?_
  refine s_get (v := .ref 192) rfl o4 rfl rfl ?_
  refine q_iload_n rfl rfl ?_
  have e192 := F.2.2.2.2.2.2.2.2.2.2.2.2.2.2.2.2.2.2.2.2.2.2.2.2.2.2.2.2.1
  have e192_4 := (f4.ne rfl (f3.ne rfl (f2.ne rfl (f1.ne rfl e192))))
  refine s_iaload (j := 0) (v := .int 0) rfl e192_4 (by decide) rfl (by first | rfl | decide) ?_
  have e193 := F.2.2.2.2.2.2.2.2.2.2.2.2.2.2.2.2.2.2.2.2.2.2.2.2.2.2.2.2.2.1
  have e193_4 := (f4.ne rfl (f3.ne rfl (f2.ne rfl (f1.ne rfl e193))))
  refine s_iastore (j := 0) rfl e193_4 (by decide) rfl (fun h5 o5 f5 => ?_)
  have s5 := s4.put f5
  refine q_aload_n rfl rfl ?_
  refine q_dup rfl rfl ?_
  have e191_5 := (o4.ne f5 rfl)
  refine s_get (v := .int 0) rfl e191_5 rfl rfl ?_
  refine q_iconst rfl ?_
  refine s_iadd (k := 1) rfl (by decide) ?_
  refine s_put (vs' := [.int 0, .ref 192, .ref 193, .int 1, .ref 194, .ref 195, .ref 196, .ref 197, .ref 198, .ref 199, .ref 200, .ref 201, .ref 202, .ref 203, .ref 204, .ref 205, .int (-1), .int 0, .ref 206, .ref 207, .ref 208, .ref 209, .ref 210, .ref 211, .ref 212, .ref 213, .ref 214, .ref 215, .int 0, .int 0, .int 0, .int 0, .ref 216, .ref 217, .ref 218, .ref 219, .ref 220, .int (-1), .int 0, .int 0, .int 0, .int 0, .int 0, .int 0, .ref 221, .ref 222, .ref 223, .ref 224, .int 0, .ref 225, .int 0, .ref 226, .ref 227, .int 0, .ref 228, .ref 229, .ref 230, .ref 231, .ref 232]) rfl e191_5 rfl rfl rfl rfl (fun h6 o6 f6 => ?_)
  have s6 := s5.put f6
  refine s_iinc (y := 1) (lv' := [(2, .int 1), (0, .ref 191), (1, .int 7)]) rfl rfl (by decide) (by decide) rfl ?_
  refine q_goto rfl ?_
  refine q_iload_n rfl rfl ?_
  refine q_iload_n rfl rfl ?_
  refine q_icmp_ge rfl (fun c => absurd c (by decide)) (fun _ => ?_)
  refine q_aload_n rfl rfl ?_
  refine s_get (v := .ref 193) rfl o6 rfl rfl ?_
  refine q_aload_n rfl rfl ?_
  refine s_get (v := .int 1) rfl o6 rfl rfl ?_
  refine q_aload_n rfl rfl ?_
  refine s_get (v := .ref 192) rfl o6 rfl rfl ?_
  refine q_iload_n rfl rfl ?_
  have e192_6 := (f6.ne rfl (f5.ne rfl e192_4))
  refine s_iaload (j := 1) (v := .int 0) rfl e192_6 (by decide) rfl (by first | rfl | decide) ?_
  have e193_6 := (f6.ne rfl o5)
  refine s_iastore (j := 1) rfl e193_6 (by decide) rfl (fun h7 o7 f7 => ?_)
  have s7 := s6.put f7
  refine q_aload_n rfl rfl ?_
  refine q_dup rfl rfl ?_
  have e191_7 := (o6.ne f7 rfl)
  refine s_get (v := .int 1) rfl e191_7 rfl rfl ?_
  refine q_iconst rfl ?_
  refine s_iadd (k := 2) rfl (by decide) ?_
  refine s_put (vs' := [.int 0, .ref 192, .ref 193, .int 2, .ref 194, .ref 195, .ref 196, .ref 197, .ref 198, .ref 199, .ref 200, .ref 201, .ref 202, .ref 203, .ref 204, .ref 205, .int (-1), .int 0, .ref 206, .ref 207, .ref 208, .ref 209, .ref 210, .ref 211, .ref 212, .ref 213, .ref 214, .ref 215, .int 0, .int 0, .int 0, .int 0, .ref 216, .ref 217, .ref 218, .ref 219, .ref 220, .int (-1), .int 0, .int 0, .int 0, .int 0, .int 0, .int 0, .ref 221, .ref 222, .ref 223, .ref 224, .int 0, .ref 225, .int 0, .ref 226, .ref 227, .int 0, .ref 228, .ref 229, .ref 230, .ref 231, .ref 232]) rfl e191_7 rfl rfl rfl rfl (fun h8 o8 f8 => ?_)
  have s8 := s7.put f8
  refine s_iinc (y := 2) (lv' := [(2, .int 2), (0, .ref 191), (1, .int 7)]) rfl rfl (by decide) (by decide) rfl ?_
  refine q_goto rfl ?_
  refine q_iload_n rfl rfl ?_
  refine q_iload_n rfl rfl ?_
  refine q_icmp_ge rfl (fun c => absurd c (by decide)) (fun _ => ?_)
  refine q_aload_n rfl rfl ?_
  refine s_get (v := .ref 193) rfl o8 rfl rfl ?_
  refine q_aload_n rfl rfl ?_
  refine s_get (v := .int 2) rfl o8 rfl rfl ?_
  refine q_aload_n rfl rfl ?_
  refine s_get (v := .ref 192) rfl o8 rfl rfl ?_
  refine q_iload_n rfl rfl ?_
  have e192_8 := (f8.ne rfl (f7.ne rfl e192_6))
  refine s_iaload (j := 2) (v := .int 0) rfl e192_8 (by decide) rfl (by first | rfl | decide) ?_
  have e193_8 := (f8.ne rfl o7)
  refine s_iastore (j := 2) rfl e193_8 (by decide) rfl (fun h9 o9 f9 => ?_)
  have s9 := s8.put f9
  refine q_aload_n rfl rfl ?_
  refine q_dup rfl rfl ?_
  have e191_9 := (o8.ne f9 rfl)
  refine s_get (v := .int 2) rfl e191_9 rfl rfl ?_
  refine q_iconst rfl ?_
  refine s_iadd (k := 3) rfl (by decide) ?_
  refine s_put (vs' := [.int 0, .ref 192, .ref 193, .int 3, .ref 194, .ref 195, .ref 196, .ref 197, .ref 198, .ref 199, .ref 200, .ref 201, .ref 202, .ref 203, .ref 204, .ref 205, .int (-1), .int 0, .ref 206, .ref 207, .ref 208, .ref 209, .ref 210, .ref 211, .ref 212, .ref 213, .ref 214, .ref 215, .int 0, .int 0, .int 0, .int 0, .ref 216, .ref 217, .ref 218, .ref 219, .ref 220, .int (-1), .int 0, .int 0, .int 0, .int 0, .int 0, .int 0, .ref 221, .ref 222, .ref 223, .ref 224, .int 0, .ref 225, .int 0, .ref 226, .ref 227, .int 0, .ref 228, .ref 229, .ref 230, .ref 231, .ref 232]) rfl e191_9 rfl rfl rfl rfl (fun h10 o10 f10 => ?_)
  have s10 := s9.put f10
  refine s_iinc (y := 3) (lv' := [(2, .int 3), (0, .ref 191), (1, .int 7)]) rfl rfl (by decide) (by decide) rfl ?_
  refine q_goto rfl ?_
  refine q_iload_n rfl rfl ?_
  refine q_iload_n rfl rfl ?_
  refine q_icmp_ge rfl (fun c => absurd c (by decide)) (fun _ => ?_)
  refine q_aload_n rfl rfl ?_
  refine s_get (v := .ref 193) rfl o10 rfl rfl ?_
  refine q_aload_n rfl rfl ?_
  refine s_get (v := .int 3) rfl o10 rfl rfl ?_
  refine q_aload_n rfl rfl ?_
  refine s_get (v := .ref 192) rfl o10 rfl rfl ?_
  refine q_iload_n rfl rfl ?_
  have e192_10 := (f10.ne rfl (f9.ne rfl e192_8))
  refine s_iaload (j := 3) (v := .int 0) rfl e192_10 (by decide) rfl (by first | rfl | decide) ?_
  have e193_10 := (f10.ne rfl o9)
  refine s_iastore (j := 3) rfl e193_10 (by decide) rfl (fun h11 o11 f11 => ?_)
  have s11 := s10.put f11
  refine q_aload_n rfl rfl ?_
  refine q_dup rfl rfl ?_
  have e191_11 := (o10.ne f11 rfl)
  refine s_get (v := .int 3) rfl e191_11 rfl rfl ?_
  refine q_iconst rfl ?_
  refine s_iadd (k := 4) rfl (by decide) ?_
  refine s_put (vs' := [.int 0, .ref 192, .ref 193, .int 4, .ref 194, .ref 195, .ref 196, .ref 197, .ref 198, .ref 199, .ref 200, .ref 201, .ref 202, .ref 203, .ref 204, .ref 205, .int (-1), .int 0, .ref 206, .ref 207, .ref 208, .ref 209, .ref 210, .ref 211, .ref 212, .ref 213, .ref 214, .ref 215, .int 0, .int 0, .int 0, .int 0, .ref 216, .ref 217, .ref 218, .ref 219, .ref 220, .int (-1), .int 0, .int 0, .int 0, .int 0, .int 0, .int 0, .ref 221, .ref 222, .ref 223, .ref 224, .int 0, .ref 225, .int 0, .ref 226, .ref 227, .int 0, .ref 228, .ref 229, .ref 230, .ref 231, .ref 232]) rfl e191_11 rfl rfl rfl rfl (fun h12 o12 f12 => ?_)
  have s12 := s11.put f12
  refine s_iinc (y := 4) (lv' := [(2, .int 4), (0, .ref 191), (1, .int 7)]) rfl rfl (by decide) (by decide) rfl ?_
  refine q_goto rfl ?_
  refine q_iload_n rfl rfl ?_
  refine q_iload_n rfl rfl ?_
  refine q_icmp_ge rfl (fun c => absurd c (by decide)) (fun _ => ?_)
  refine q_aload_n rfl rfl ?_
  refine s_get (v := .ref 193) rfl o12 rfl rfl ?_
  refine q_aload_n rfl rfl ?_
  refine s_get (v := .int 4) rfl o12 rfl rfl ?_
  refine q_aload_n rfl rfl ?_
  refine s_get (v := .ref 192) rfl o12 rfl rfl ?_
  refine q_iload_n rfl rfl ?_
  have e192_12 := (f12.ne rfl (f11.ne rfl e192_10))
  refine s_iaload (j := 4) (v := .int 0) rfl e192_12 (by decide) rfl (by first | rfl | decide) ?_
  have e193_12 := (f12.ne rfl o11)
  refine s_iastore (j := 4) rfl e193_12 (by decide) rfl (fun h13 o13 f13 => ?_)
  have s13 := s12.put f13
  refine q_aload_n rfl rfl ?_
  refine q_dup rfl rfl ?_
  have e191_13 := (o12.ne f13 rfl)
  refine s_get (v := .int 4) rfl e191_13 rfl rfl ?_
  refine q_iconst rfl ?_
  refine s_iadd (k := 5) rfl (by decide) ?_
  refine s_put (vs' := [.int 0, .ref 192, .ref 193, .int 5, .ref 194, .ref 195, .ref 196, .ref 197, .ref 198, .ref 199, .ref 200, .ref 201, .ref 202, .ref 203, .ref 204, .ref 205, .int (-1), .int 0, .ref 206, .ref 207, .ref 208, .ref 209, .ref 210, .ref 211, .ref 212, .ref 213, .ref 214, .ref 215, .int 0, .int 0, .int 0, .int 0, .ref 216, .ref 217, .ref 218, .ref 219, .ref 220, .int (-1), .int 0, .int 0, .int 0, .int 0, .int 0, .int 0, .ref 221, .ref 222, .ref 223, .ref 224, .int 0, .ref 225, .int 0, .ref 226, .ref 227, .int 0, .ref 228, .ref 229, .ref 230, .ref 231, .ref 232]) rfl e191_13 rfl rfl rfl rfl (fun h14 o14 f14 => ?_)
  have s14 := s13.put f14
  refine s_iinc (y := 5) (lv' := [(2, .int 5), (0, .ref 191), (1, .int 7)]) rfl rfl (by decide) (by decide) rfl ?_
  refine q_goto rfl ?_
  refine q_iload_n rfl rfl ?_
  refine q_iload_n rfl rfl ?_
  refine q_icmp_ge rfl (fun c => absurd c (by decide)) (fun _ => ?_)
  refine q_aload_n rfl rfl ?_
  refine s_get (v := .ref 193) rfl o14 rfl rfl ?_
  refine q_aload_n rfl rfl ?_
  refine s_get (v := .int 5) rfl o14 rfl rfl ?_
  refine q_aload_n rfl rfl ?_
  refine s_get (v := .ref 192) rfl o14 rfl rfl ?_
  refine q_iload_n rfl rfl ?_
  have e192_14 := (f14.ne rfl (f13.ne rfl e192_12))
  refine s_iaload (j := 5) (v := .int 0) rfl e192_14 (by decide) rfl (by first | rfl | decide) ?_
  have e193_14 := (f14.ne rfl o13)
  refine s_iastore (j := 5) rfl e193_14 (by decide) rfl (fun h15 o15 f15 => ?_)
  have s15 := s14.put f15
  refine q_aload_n rfl rfl ?_
  refine q_dup rfl rfl ?_
  have e191_15 := (o14.ne f15 rfl)
  refine s_get (v := .int 5) rfl e191_15 rfl rfl ?_
  refine q_iconst rfl ?_
  refine s_iadd (k := 6) rfl (by decide) ?_
  refine s_put (vs' := [.int 0, .ref 192, .ref 193, .int 6, .ref 194, .ref 195, .ref 196, .ref 197, .ref 198, .ref 199, .ref 200, .ref 201, .ref 202, .ref 203, .ref 204, .ref 205, .int (-1), .int 0, .ref 206, .ref 207, .ref 208, .ref 209, .ref 210, .ref 211, .ref 212, .ref 213, .ref 214, .ref 215, .int 0, .int 0, .int 0, .int 0, .ref 216, .ref 217, .ref 218, .ref 219, .ref 220, .int (-1), .int 0, .int 0, .int 0, .int 0, .int 0, .int 0, .ref 221, .ref 222, .ref 223, .ref 224, .int 0, .ref 225, .int 0, .ref 226, .ref 227, .int 0, .ref 228, .ref 229, .ref 230, .ref 231, .ref 232]) rfl e191_15 rfl rfl rfl rfl (fun h16 o16 f16 => ?_)
  have s16 := s15.put f16
  refine s_iinc (y := 6) (lv' := [(2, .int 6), (0, .ref 191), (1, .int 7)]) rfl rfl (by decide) (by decide) rfl ?_
  refine q_goto rfl ?_
  refine q_iload_n rfl rfl ?_
  refine q_iload_n rfl rfl ?_
  refine q_icmp_ge rfl (fun c => absurd c (by decide)) (fun _ => ?_)
  refine q_aload_n rfl rfl ?_
  refine s_get (v := .ref 193) rfl o16 rfl rfl ?_
  refine q_aload_n rfl rfl ?_
  refine s_get (v := .int 6) rfl o16 rfl rfl ?_
  refine q_aload_n rfl rfl ?_
  refine s_get (v := .ref 192) rfl o16 rfl rfl ?_
  refine q_iload_n rfl rfl ?_
  have e192_16 := (f16.ne rfl (f15.ne rfl e192_14))
  refine s_iaload (j := 6) (v := .int 0) rfl e192_16 (by decide) rfl (by first | rfl | decide) ?_
  have e193_16 := (f16.ne rfl o15)
  refine s_iastore (j := 6) rfl e193_16 (by decide) rfl (fun h17 o17 f17 => ?_)
  have s17 := s16.put f17
  refine q_aload_n rfl rfl ?_
  refine q_dup rfl rfl ?_
  have e191_17 := (o16.ne f17 rfl)
  refine s_get (v := .int 6) rfl e191_17 rfl rfl ?_
  refine q_iconst rfl ?_
  refine s_iadd (k := 7) rfl (by decide) ?_
  refine s_put (vs' := [.int 0, .ref 192, .ref 193, .int 7, .ref 194, .ref 195, .ref 196, .ref 197, .ref 198, .ref 199, .ref 200, .ref 201, .ref 202, .ref 203, .ref 204, .ref 205, .int (-1), .int 0, .ref 206, .ref 207, .ref 208, .ref 209, .ref 210, .ref 211, .ref 212, .ref 213, .ref 214, .ref 215, .int 0, .int 0, .int 0, .int 0, .ref 216, .ref 217, .ref 218, .ref 219, .ref 220, .int (-1), .int 0, .int 0, .int 0, .int 0, .int 0, .int 0, .ref 221, .ref 222, .ref 223, .ref 224, .int 0, .ref 225, .int 0, .ref 226, .ref 227, .int 0, .ref 228, .ref 229, .ref 230, .ref 231, .ref 232]) rfl e191_17 rfl rfl rfl rfl (fun h18 o18 f18 => ?_)
  have s18 := s17.put f18
  refine s_iinc (y := 7) (lv' := [(2, .int 7), (0, .ref 191), (1, .int 7)]) rfl rfl (by decide) (by decide) rfl ?_
  refine q_goto rfl ?_
  refine q_iload_n rfl rfl ?_
  refine q_iload_n rfl rfl ?_
  refine q_icmp_ge rfl (fun _ => ?_) (fun c => absurd (by decide) c)
  refine q_iconst rfl ?_
  refine s_istore_n (lv' := [(2, .int 0), (0, .ref 191), (1, .int 7)]) rfl (by decide) rfl ?_
  have e192_18 := (f18.ne rfl (f17.ne rfl e192_16))
  refine en_loop (m := 191) (a := 192) rfl rfl (by decide) (by decide) 20 0 h18 _ rfl o18 e192_18 (fun h19 f19 => ?_)
  have s19 := s18.put f19
  show aW aiP 217 16 636 88 [(2, .int 20), (0, .ref 191), (1, .int 7)] [] h19 _
  refine q_aload_n rfl rfl ?_
  have e191_19 := (o18.ne f19 rfl)
  refine s_get (v := .int 7) rfl e191_19 rfl rfl ?_
  refine q_ireturn rfl rfl ?_
  show aW aiP 0 17 658 243 [(4, .int 0), (3, .ref 233), (2, .ref 191), (1, .ref 6), (0, .ref 0)] [.int 7, .int 7] h19 _
  refine q_icmp_eq rfl (fun _ => ?_) (fun c => absurd (by decide) c)
  refine s_iinc (y := 6) (lv' := [(4, .int 6), (3, .ref 233), (2, .ref 191), (1, .ref 6), (0, .ref 0)]) rfl rfl (by decide) (by decide) rfl ?_
  refine q_goto rfl ?_
  refine q_iload rfl rfl ?_
  refine q_aload_n rfl rfl ?_
  have e0_19 := (f19.ne rfl (f18.ne rfl (f17.ne rfl (f16.ne rfl (f15.ne rfl (f14.ne rfl (f13.ne rfl (f12.ne rfl (f11.ne rfl (f10.ne rfl (f9.ne rfl (f8.ne rfl (f7.ne rfl (f6.ne rfl (f5.ne rfl (f4.ne rfl e0_3))))))))))))))))
  refine s_alen (x := 6) rfl e0_19 rfl (by decide) ?_
  refine q_bipush rfl ?_
  refine s_isub (k := 0) rfl (by decide) ?_
  refine q_icmp_gt rfl (fun _ => ?_) (fun c => absurd (by decide) c)
  refine q_iconst rfl ?_
  refine q_ireturn rfl rfl ?_
  exact ⟨rfl, s19.bd rfl⟩
set_option maxRecDepth 20000 in
set_option maxHeartbeats 4000000 in
theorem p_case1_8 {xs : Nat → Int32} {h : ai_H} (F : Fresh 6 xs h) (hk : xs 0 &&& 31 = 1) (hw : xs 1 = 8) : aW aiP 0 17 658 33 [(4, .int 0), (3, .ref 233), (2, .ref 191), (1, .ref 6), (0, .ref 0)] [] h p_Q := by
  have s0 := F.2.2.2.2.2.2.2.2.2.2.2.2.2.2.2.2.2.2.2.2.2.2.2.2.2.2.2.2.2.2.2.2.2.2.2.2.2.2.2.2.2.2.2.2.2.2.2.2.2.2.2.2.2.2.2.2.2.2.2.2.2.2.2.2.2.2.2.2.2.2
  refine q_aload_n rfl rfl ?_
  refine q_iload rfl rfl ?_
  have e0 := F.1
  refine s_iaload (j := 0) (v := .int (xs 0)) rfl e0 (by decide) rfl (by first | rfl | decide) ?_
  refine q_bipush rfl ?_
  refine s_iand (k := ((xs 0) &&& (31 : Int32))) rfl rfl ?_
  rw [hk]
  show aW aiP 0 17 658 40 [(4, .int 0), (3, .ref 233), (2, .ref 191), (1, .ref 6), (0, .ref 0)] [.int 1] h _
  refine s_sw (tg := 223) rfl rfl ?_
  refine q_aload_n rfl rfl ?_
  refine q_aload_n rfl rfl ?_
  refine q_iload rfl rfl ?_
  refine q_iconst rfl ?_
  refine s_iadd (k := 1) rfl (by decide) ?_
  refine s_iaload (j := 1) (v := .int (xs 1)) rfl e0 (by decide) rfl (by first | rfl | decide) ?_
  rw [hw]
  have e6 := F.2.2.2.2.2.2.1
  refine s_callV (as := [.int 8]) (rest := []) (d' := 16) (w' := 637) (lv' := [(0, .ref 6), (1, .int 8)]) rfl e6 rfl rfl rfl rfl rfl rfl ?_
  refine q_iload_n rfl rfl ?_
  refine q_if_lt rfl (fun c => absurd c (by decide)) (fun _ => ?_)
  refine q_iload_n rfl rfl ?_
  refine q_bipush rfl ?_
  refine q_icmp_gt rfl (fun c => absurd c (by decide)) (fun _ => ?_)
  refine q_aload_n rfl rfl ?_
  refine s_get (v := .int 0) rfl e6 rfl rfl ?_
  refine q_iload_n rfl rfl ?_
  refine s_iadd (k := 8) rfl (by decide) ?_
  refine q_sipush rfl ?_
  refine q_icmp_le rfl (fun _ => ?_) (fun c => absurd (by decide) c)
  refine q_aload_n rfl rfl ?_
  refine s_get (v := .ref 7) rfl e6 rfl rfl ?_
  refine q_iconst rfl ?_
  refine q_aload_n rfl rfl ?_
  refine s_get (v := .ref 8) rfl e6 rfl rfl ?_
  refine q_aload_n rfl rfl ?_
  refine s_get (v := .int 0) rfl e6 rfl rfl ?_
  refine q_iload_n rfl rfl ?_
  have e7 := F.2.2.2.2.2.2.2.1
  have e8 := F.2.2.2.2.2.2.2.2.1
  refine s_copy (sp := 0) (dp := 0) (k := 8) rfl e7 e8 (by decide) (by decide) (by decide) rfl (by decide) (by decide) (by decide) (fun i _ => rfl) (fun h1 o1 f1 => ?_)
  have s1 := s0.put f1
  refine q_aload_n rfl rfl ?_
  refine q_dup rfl rfl ?_
  have e6_1 := (e6.ne f1 rfl)
  refine s_get (v := .int 0) rfl e6_1 rfl rfl ?_
  refine q_iload_n rfl rfl ?_
  refine s_iadd (k := 8) rfl (by decide) ?_
  refine s_put (vs' := [.ref 7, .ref 8, .int 8, .ref 9, .int (-1), .ref 51, .ref 93, .ref 135, .ref 177, .ref 180, .int 0, .ref 183, .ref 186, .ref 189]) rfl e6_1 rfl rfl rfl rfl (fun h2 o2 f2 => ?_)
  have s2 := s1.put f2
  refine q_aload_n rfl rfl ?_
  refine s_get (v := .ref 7) rfl o2 rfl rfl ?_
  refine q_iconst rfl ?_
  refine s_callS (as := [.ref 7, .int 0]) (rest := []) (d' := 15) (w' := 614) (lv' := [(0, .ref 7), (1, .int 0)]) rfl rfl rfl rfl rfl rfl rfl rfl ?_
  refine q_iconst rfl ?_
  refine s_istore_n (lv' := [(2, .int 0), (0, .ref 7), (1, .int 0)]) rfl (by decide) rfl ?_
  refine q_aload_n rfl rfl ?_
  have e7_2 := (f2.ne rfl (f1.ne rfl e7))
  refine s_alen (x := 20) rfl e7_2 rfl (by decide) ?_
  refine s_istore_n (lv' := [(3, .int 20), (2, .int 0), (0, .ref 7), (1, .int 0)]) rfl (by decide) rfl ?_
  refine aW_lv (l := [(2, .int (nI 0)), (3, .int 20), (0, .ref 7), (1, .int 0)]) ?_ rfl rfl (by repeat' (first | exact inL_n | refine inL_c rfl ?_))
  refine fi_loop (a := 7) (by decide) 20 0 h2 _ rfl e7_2 (fun h3 f3 => ?_)
  have s3 := s2.put f3
  show aW aiP 15 16 637 59 [(0, .ref 6), (1, .int 8)] [] h3 _
  refine q_aload_n rfl rfl ?_
  have e6_3 := (o2.ne f3 rfl)
  refine s_get (v := .int 8) rfl e6_3 rfl rfl ?_
  refine q_ireturn rfl rfl ?_
  show aW aiP 0 17 658 233 [(4, .int 0), (3, .ref 233), (2, .ref 191), (1, .ref 6), (0, .ref 0)] [.int 8] h3 _
  refine q_aload_n rfl rfl ?_
  refine q_aload_n rfl rfl ?_
  refine q_iload rfl rfl ?_
  refine q_iconst rfl ?_
  refine s_iadd (k := 1) rfl (by decide) ?_
  have e0_3 := (f3.ne rfl (f2.ne rfl (f1.ne rfl e0)))
  refine s_iaload (j := 1) (v := .int (xs 1)) rfl e0_3 (by decide) rfl (by first | rfl | decide) ?_
  rw [hw]
  have e191 := F.2.2.2.2.2.2.2.2.2.2.2.2.2.2.2.2.2.2.2.2.2.2.2.2.2.2.2.1
  have e191_3 := (((e191.ne f1 rfl).ne f2 rfl).ne f3 rfl)
  refine s_callV (as := [.int 8]) (rest := [.int 8]) (d' := 16) (w' := 636) (lv' := [(0, .ref 191), (1, .int 8)]) rfl e191_3 rfl rfl rfl rfl rfl rfl ?_
  refine q_aload_n rfl rfl ?_
  refine q_iconst rfl ?_
  refine s_put (vs' := [.int 0, .ref 192, .ref 193, .int 0, .ref 194, .ref 195, .ref 196, .ref 197, .ref 198, .ref 199, .ref 200, .ref 201, .ref 202, .ref 203, .ref 204, .ref 205, .int (-1), .int 0, .ref 206, .ref 207, .ref 208, .ref 209, .ref 210, .ref 211, .ref 212, .ref 213, .ref 214, .ref 215, .int 0, .int 0, .int 0, .int 0, .ref 216, .ref 217, .ref 218, .ref 219, .ref 220, .int (-1), .int 0, .int 0, .int 0, .int 0, .int 0, .int 0, .ref 221, .ref 222, .ref 223, .ref 224, .int 0, .ref 225, .int 0, .ref 226, .ref 227, .int 0, .ref 228, .ref 229, .ref 230, .ref 231, .ref 232]) rfl e191_3 rfl rfl rfl rfl (fun h4 o4 f4 => ?_)
  have s4 := s3.put f4
  refine q_iload_n rfl rfl ?_
  refine q_if_lt rfl (fun c => absurd c (by decide)) (fun _ => ?_)
  refine q_iload_n rfl rfl ?_
  refine q_bipush rfl ?_
  refine q_icmp_gt rfl (fun c => absurd c (by decide)) (fun _ => ?_)
  refine q_aload_n rfl rfl ?_
  refine s_get (v := .int 0) rfl o4 rfl rfl ?_
  refine q_iload_n rfl rfl ?_
  refine s_iadd (k := 8) rfl (by decide) ?_
  refine q_sipush rfl ?_
  refine q_icmp_le rfl (fun _ => ?_) (fun c => absurd (by decide) c)
  refine q_iconst rfl ?_
  refine s_istore_n (lv' := [(2, .int 0), (0, .ref 191), (1, .int 8)]) rfl (by decide) rfl ?_
  refine q_iload_n rfl rfl ?_
  refine q_iload_n rfl rfl ?_
  refine q_icmp_ge rfl (fun c => absurd c (by decide)) (fun _ => ?_)
  refine q_aload_n rfl rfl ?_
  refine s_get (v := .ref 193) rfl o4 rfl rfl ?_
  refine q_aload_n rfl rfl ?_
  refine s_get (v := .int 0) rfl o4 rfl rfl ?_
  refine q_aload_n rfl rfl ?_
  refine s_get (v := .ref 192) rfl o4 rfl rfl ?_
  refine q_iload_n rfl rfl ?_
  have e192 := F.2.2.2.2.2.2.2.2.2.2.2.2.2.2.2.2.2.2.2.2.2.2.2.2.2.2.2.2.1
  have e192_4 := (f4.ne rfl (f3.ne rfl (f2.ne rfl (f1.ne rfl e192))))
  refine s_iaload (j := 0) (v := .int 0) rfl e192_4 (by decide) rfl (by first | rfl | decide) ?_
  have e193 := F.2.2.2.2.2.2.2.2.2.2.2.2.2.2.2.2.2.2.2.2.2.2.2.2.2.2.2.2.2.1
  have e193_4 := (f4.ne rfl (f3.ne rfl (f2.ne rfl (f1.ne rfl e193))))
  refine s_iastore (j := 0) rfl e193_4 (by decide) rfl (fun h5 o5 f5 => ?_)
  have s5 := s4.put f5
  refine q_aload_n rfl rfl ?_
  refine q_dup rfl rfl ?_
  have e191_5 := (o4.ne f5 rfl)
  refine s_get (v := .int 0) rfl e191_5 rfl rfl ?_
  refine q_iconst rfl ?_
  refine s_iadd (k := 1) rfl (by decide) ?_
  refine s_put (vs' := [.int 0, .ref 192, .ref 193, .int 1, .ref 194, .ref 195, .ref 196, .ref 197, .ref 198, .ref 199, .ref 200, .ref 201, .ref 202, .ref 203, .ref 204, .ref 205, .int (-1), .int 0, .ref 206, .ref 207, .ref 208, .ref 209, .ref 210, .ref 211, .ref 212, .ref 213, .ref 214, .ref 215, .int 0, .int 0, .int 0, .int 0, .ref 216, .ref 217, .ref 218, .ref 219, .ref 220, .int (-1), .int 0, .int 0, .int 0, .int 0, .int 0, .int 0, .ref 221, .ref 222, .ref 223, .ref 224, .int 0, .ref 225, .int 0, .ref 226, .ref 227, .int 0, .ref 228, .ref 229, .ref 230, .ref 231, .ref 232]) rfl e191_5 rfl rfl rfl rfl (fun h6 o6 f6 => ?_)
  have s6 := s5.put f6
  refine s_iinc (y := 1) (lv' := [(2, .int 1), (0, .ref 191), (1, .int 8)]) rfl rfl (by decide) (by decide) rfl ?_
  refine q_goto rfl ?_
  refine q_iload_n rfl rfl ?_
  refine q_iload_n rfl rfl ?_
  refine q_icmp_ge rfl (fun c => absurd c (by decide)) (fun _ => ?_)
  refine q_aload_n rfl rfl ?_
  refine s_get (v := .ref 193) rfl o6 rfl rfl ?_
  refine q_aload_n rfl rfl ?_
  refine s_get (v := .int 1) rfl o6 rfl rfl ?_
  refine q_aload_n rfl rfl ?_
  refine s_get (v := .ref 192) rfl o6 rfl rfl ?_
  refine q_iload_n rfl rfl ?_
  have e192_6 := (f6.ne rfl (f5.ne rfl e192_4))
  refine s_iaload (j := 1) (v := .int 0) rfl e192_6 (by decide) rfl (by first | rfl | decide) ?_
  have e193_6 := (f6.ne rfl o5)
  refine s_iastore (j := 1) rfl e193_6 (by decide) rfl (fun h7 o7 f7 => ?_)
  have s7 := s6.put f7
  refine q_aload_n rfl rfl ?_
  refine q_dup rfl rfl ?_
  have e191_7 := (o6.ne f7 rfl)
  refine s_get (v := .int 1) rfl e191_7 rfl rfl ?_
  refine q_iconst rfl ?_
  refine s_iadd (k := 2) rfl (by decide) ?_
  refine s_put (vs' := [.int 0, .ref 192, .ref 193, .int 2, .ref 194, .ref 195, .ref 196, .ref 197, .ref 198, .ref 199, .ref 200, .ref 201, .ref 202, .ref 203, .ref 204, .ref 205, .int (-1), .int 0, .ref 206, .ref 207, .ref 208, .ref 209, .ref 210, .ref 211, .ref 212, .ref 213, .ref 214, .ref 215, .int 0, .int 0, .int 0, .int 0, .ref 216, .ref 217, .ref 218, .ref 219, .ref 220, .int (-1), .int 0, .int 0, .int 0, .int 0, .int 0, .int 0, .ref 221, .ref 222, .ref 223, .ref 224, .int 0, .ref 225, .int 0, .ref 226, .ref 227, .int 0, .ref 228, .ref 229, .ref 230, .ref 231, .ref 232]) rfl e191_7 rfl rfl rfl rfl (fun h8 o8 f8 => ?_)
  have s8 := s7.put f8
  refine s_iinc (y := 2) (lv' := [(2, .int 2), (0, .ref 191), (1, .int 8)]) rfl rfl (by decide) (by decide) rfl ?_
  refine q_goto rfl ?_
  refine q_iload_n rfl rfl ?_
  refine q_iload_n rfl rfl ?_
  refine q_icmp_ge rfl (fun c => absurd c (by decide)) (fun _ => ?_)
  refine q_aload_n rfl rfl ?_
  refine s_get (v := .ref 193) rfl o8 rfl rfl ?_
  refine q_aload_n rfl rfl ?_
  refine s_get (v := .int 2) rfl o8 rfl rfl ?_
  refine q_aload_n rfl rfl ?_
  refine s_get (v := .ref 192) rfl o8 rfl rfl ?_
  refine q_iload_n rfl rfl ?_
  have e192_8 := (f8.ne rfl (f7.ne rfl e192_6))
  refine s_iaload (j := 2) (v := .int 0) rfl e192_8 (by decide) rfl (by first | rfl | decide) ?_
  have e193_8 := (f8.ne rfl o7)
  refine s_iastore (j := 2) rfl e193_8 (by decide) rfl (fun h9 o9 f9 => ?_)
  have s9 := s8.put f9
  refine q_aload_n rfl rfl ?_
  refine q_dup rfl rfl ?_
  have e191_9 := (o8.ne f9 rfl)
  refine s_get (v := .int 2) rfl e191_9 rfl rfl ?_
  refine q_iconst rfl ?_
  refine s_iadd (k := 3) rfl (by decide) ?_
  refine s_put (vs' := [.int 0, .ref 192, .ref 193, .int 3, .ref 194, .ref 195, .ref 196, .ref 197, .ref 198, .ref 199, .ref 200, .ref 201, .ref 202, .ref 203, .ref 204, .ref 205, .int (-1), .int 0, .ref 206, .ref 207, .ref 208, .ref 209, .ref 210, .ref 211, .ref 212, .ref 213, .ref 214, .ref 215, .int 0, .int 0, .int 0, .int 0, .ref 216, .ref 217, .ref 218, .ref 219, .ref 220, .int (-1), .int 0, .int 0, .int 0, .int 0, .int 0, .int 0, .ref 221, .ref 222, .ref 223, .ref 224, .int 0, .ref 225, .int 0, .ref 226, .ref 227, .int 0, .ref 228, .ref 229, .ref 230, .ref 231, .ref 232]) rfl e191_9 rfl rfl rfl rfl (fun h10 o10 f10 => ?_)
  have s10 := s9.put f10
  refine s_iinc (y := 3) (lv' := [(2, .int 3), (0, .ref 191), (1, .int 8)]) rfl rfl (by decide) (by decide) rfl ?_
  refine q_goto rfl ?_
  refine q_iload_n rfl rfl ?_
  refine q_iload_n rfl rfl ?_
  refine q_icmp_ge rfl (fun c => absurd c (by decide)) (fun _ => ?_)
  refine q_aload_n rfl rfl ?_
  refine s_get (v := .ref 193) rfl o10 rfl rfl ?_
  refine q_aload_n rfl rfl ?_
  refine s_get (v := .int 3) rfl o10 rfl rfl ?_
  refine q_aload_n rfl rfl ?_
  refine s_get (v := .ref 192) rfl o10 rfl rfl ?_
  refine q_iload_n rfl rfl ?_
  have e192_10 := (f10.ne rfl (f9.ne rfl e192_8))
  refine s_iaload (j := 3) (v := .int 0) rfl e192_10 (by decide) rfl (by first | rfl | decide) ?_
  have e193_10 := (f10.ne rfl o9)
  refine s_iastore (j := 3) rfl e193_10 (by decide) rfl (fun h11 o11 f11 => ?_)
  have s11 := s10.put f11
  refine q_aload_n rfl rfl ?_
  refine q_dup rfl rfl ?_
  have e191_11 := (o10.ne f11 rfl)
  refine s_get (v := .int 3) rfl e191_11 rfl rfl ?_
  refine q_iconst rfl ?_
  refine s_iadd (k := 4) rfl (by decide) ?_
  refine s_put (vs' := [.int 0, .ref 192, .ref 193, .int 4, .ref 194, .ref 195, .ref 196, .ref 197, .ref 198, .ref 199, .ref 200, .ref 201, .ref 202, .ref 203, .ref 204, .ref 205, .int (-1), .int 0, .ref 206, .ref 207, .ref 208, .ref 209, .ref 210, .ref 211, .ref 212, .ref 213, .ref 214, .ref 215, .int 0, .int 0, .int 0, .int 0, .ref 216, .ref 217, .ref 218, .ref 219, .ref 220, .int (-1), .int 0, .int 0, .int 0, .int 0, .int 0, .int 0, .ref 221, .ref 222, .ref 223, .ref 224, .int 0, .ref 225, .int 0, .ref 226, .ref 227, .int 0, .ref 228, .ref 229, .ref 230, .ref 231, .ref 232]) rfl e191_11 rfl rfl rfl rfl (fun h12 o12 f12 => ?_)
  have s12 := s11.put f12
  refine s_iinc (y := 4) (lv' := [(2, .int 4), (0, .ref 191), (1, .int 8)]) rfl rfl (by decide) (by decide) rfl ?_
  refine q_goto rfl ?_
  refine q_iload_n rfl rfl ?_
  refine q_iload_n rfl rfl ?_
  refine q_icmp_ge rfl (fun c => absurd c (by decide)) (fun _ => ?_)
  refine q_aload_n rfl rfl ?_
  refine s_get (v := .ref 193) rfl o12 rfl rfl ?_
  refine q_aload_n rfl rfl ?_
  refine s_get (v := .int 4) rfl o12 rfl rfl ?_
  refine q_aload_n rfl rfl ?_
  refine s_get (v := .ref 192) rfl o12 rfl rfl ?_
  refine q_iload_n rfl rfl ?_
  have e192_12 := (f12.ne rfl (f11.ne rfl e192_10))
  refine s_iaload (j := 4) (v := .int 0) rfl e192_12 (by decide) rfl (by first | rfl | decide) ?_
  have e193_12 := (f12.ne rfl o11)
  refine s_iastore (j := 4) rfl e193_12 (by decide) rfl (fun h13 o13 f13 => ?_)
  have s13 := s12.put f13
  refine q_aload_n rfl rfl ?_
  refine q_dup rfl rfl ?_
  have e191_13 := (o12.ne f13 rfl)
  refine s_get (v := .int 4) rfl e191_13 rfl rfl ?_
  refine q_iconst rfl ?_
  refine s_iadd (k := 5) rfl (by decide) ?_
  refine s_put (vs' := [.int 0, .ref 192, .ref 193, .int 5, .ref 194, .ref 195, .ref 196, .ref 197, .ref 198, .ref 199, .ref 200, .ref 201, .ref 202, .ref 203, .ref 204, .ref 205, .int (-1), .int 0, .ref 206, .ref 207, .ref 208, .ref 209, .ref 210, .ref 211, .ref 212, .ref 213, .ref 214, .ref 215, .int 0, .int 0, .int 0, .int 0, .ref 216, .ref 217, .ref 218, .ref 219, .ref 220, .int (-1), .int 0, .int 0, .int 0, .int 0, .int 0, .int 0, .ref 221, .ref 222, .ref 223, .ref 224, .int 0, .ref 225, .int 0, .ref 226, .ref 227, .int 0, .ref 228, .ref 229, .ref 230, .ref 231, .ref 232]) rfl e191_13 rfl rfl rfl rfl (fun h14 o14 f14 => ?_)
  have s14 := s13.put f14
  refine s_iinc (y := 5) (lv' := [(2, .int 5), (0, .ref 191), (1, .int 8)]) rfl rfl (by decide) (by decide) rfl ?_
  refine q_goto rfl ?_
  refine q_iload_n rfl rfl ?_
  refine q_iload_n rfl rfl ?_
  refine q_icmp_ge rfl (fun c => absurd c (by decide)) (fun _ => ?_)
  refine q_aload_n rfl rfl ?_
  refine s_get (v := .ref 193) rfl o14 rfl rfl ?_
  refine q_aload_n rfl rfl ?_
  refine s_get (v := .int 5) rfl o14 rfl rfl ?_
  refine q_aload_n rfl rfl ?_
  refine s_get (v := .ref 192) rfl o14 rfl rfl ?_
  refine q_iload_n rfl rfl ?_
  have e192_14 := (f14.ne rfl (f13.ne rfl e192_12))
  refine s_iaload (j := 5) (v := .int 0) rfl e192_14 (by decide) rfl (by first | rfl | decide) ?_
  have e193_14 := (f14.ne rfl o13)
  refine s_iastore (j := 5) rfl e193_14 (by decide) rfl (fun h15 o15 f15 => ?_)
  have s15 := s14.put f15
  refine q_aload_n rfl rfl ?_
  refine q_dup rfl rfl ?_
  have e191_15 := (o14.ne f15 rfl)
  refine s_get (v := .int 5) rfl e191_15 rfl rfl ?_
  refine q_iconst rfl ?_
  refine s_iadd (k := 6) rfl (by decide) ?_
  refine s_put (vs' := [.int 0, .ref 192, .ref 193, .int 6, .ref 194, .ref 195, .ref 196, .ref 197, .ref 198, .ref 199, .ref 200, .ref 201, .ref 202, .ref 203, .ref 204, .ref 205, .int (-1), .int 0, .ref 206, .ref 207, .ref 208, .ref 209, .ref 210, .ref 211, .ref 212, .ref 213, .ref 214, .ref 215, .int 0, .int 0, .int 0, .int 0, .ref 216, .ref 217, .ref 218, .ref 219, .ref 220, .int (-1), .int 0, .int 0, .int 0, .int 0, .int 0, .int 0, .ref 221, .ref 222, .ref 223, .ref 224, .int 0, .ref 225, .int 0, .ref 226, .ref 227, .int 0, .ref 228, .ref 229, .ref 230, .ref 231, .ref 232]) rfl e191_15 rfl rfl rfl rfl (fun h16 o16 f16 => ?_)
  have s16 := s15.put f16
  refine s_iinc (y := 6) (lv' := [(2, .int 6), (0, .ref 191), (1, .int 8)]) rfl rfl (by decide) (by decide) rfl ?_
  refine q_goto rfl ?_
  refine q_iload_n rfl rfl ?_
  refine q_iload_n rfl rfl ?_
  refine q_icmp_ge rfl (fun c => absurd c (by decide)) (fun _ => ?_)
  refine q_aload_n rfl rfl ?_
  refine s_get (v := .ref 193) rfl o16 rfl rfl ?_
  refine q_aload_n rfl rfl ?_
  refine s_get (v := .int 6) rfl o16 rfl rfl ?_
  refine q_aload_n rfl rfl ?_
  refine s_get (v := .ref 192) rfl o16 rfl rfl ?_
  refine q_iload_n rfl rfl ?_
  have e192_16 := (f16.ne rfl (f15.ne rfl e192_14))
  refine s_iaload (j := 6) (v := .int 0) rfl e192_16 (by decide) rfl (by first | rfl | decide) ?_
  have e193_16 := (f16.ne rfl o15)
  refine s_iastore (j := 6) rfl e193_16 (by decide) rfl (fun h17 o17 f17 => ?_)
  have s17 := s16.put f17
  refine q_aload_n rfl rfl ?_
  refine q_dup rfl rfl ?_
  have e191_17 := (o16.ne f17 rfl)
  refine s_get (v := .int 6) rfl e191_17 rfl rfl ?_
  refine q_iconst rfl ?_
  refine s_iadd (k := 7) rfl (by decide) ?_
  refine s_put (vs' := [.int 0, .ref 192, .ref 193, .int 7, .ref 194, .ref 195, .ref 196, .ref 197, .ref 198, .ref 199, .ref 200, .ref 201, .ref 202, .ref 203, .ref 204, .ref 205, .int (-1), .int 0, .ref 206, .ref 207, .ref 208, .ref 209, .ref 210, .ref 211, .ref 212, .ref 213, .ref 214, .ref 215, .int 0, .int 0, .int 0, .int 0, .ref 216, .ref 217, .ref 218, .ref 219, .ref 220, .int (-1), .int 0, .int 0, .int 0, .int 0, .int 0, .int 0, .ref 221, .ref 222, .ref 223, .ref 224, .int 0, .ref 225, .int 0, .ref 226, .ref 227, .int 0, .ref 228, .ref 229, .ref 230, .ref 231, .ref 232]) rfl e191_17 rfl rfl rfl rfl (fun h18 o18 f18 => ?_)
  have s18 := s17.put f18
  refine s_iinc (y := 7) (lv' := [(2, .int 7), (0, .ref 191), (1, .int 8)]) rfl rfl (by decide) (by decide) rfl ?_
  refine q_goto rfl ?_
  refine q_iload_n rfl rfl ?_
  refine q_iload_n rfl rfl ?_
  refine q_icmp_ge rfl (fun c => absurd c (by decide)) (fun _ => ?_)
  refine q_aload_n rfl rfl ?_
  refine s_get (v := .ref 193) rfl o18 rfl rfl ?_
  refine q_aload_n rfl rfl ?_
  refine s_get (v := .int 7) rfl o18 rfl rfl ?_
  refine q_aload_n rfl rfl ?_
  refine s_get (v := .ref 192) rfl o18 rfl rfl ?_
  refine q_iload_n rfl rfl ?_
  have e192_18 := (f18.ne rfl (f17.ne rfl e192_16))
  refine s_iaload (j := 7) (v := .int 0) rfl e192_18 (by decide) rfl (by first | rfl | decide) ?_
  have e193_18 := (f18.ne rfl o17)
  refine s_iastore (j := 7) rfl e193_18 (by decide) rfl (fun h19 o19 f19 => ?_)
  have s19 := s18.put f19
  refine q_aload_n rfl rfl ?_
  refine q_dup rfl rfl ?_
  have e191_19 := (o18.ne f19 rfl)
  refine s_get (v := .int 7) rfl e191_19 rfl rfl ?_
  refine q_iconst rfl ?_
  refine s_iadd (k := 8) rfl (by decide) ?_
  refine s_put (vs' := [.int 0, .ref 192, .ref 193, .int 8, .ref 194, .ref 195, .ref 196, .ref 197, .ref 198, .ref 199, .ref 200, .ref 201, .ref 202, .ref 203, .ref 204, .ref 205, .int (-1), .int 0, .ref 206, .ref 207, .ref 208, .ref 209, .ref 210, .ref 211, .ref 212, .ref 213, .ref 214, .ref 215, .int 0, .int 0, .int 0, .int 0, .ref 216, .ref 217, .ref 218, .ref 219, .ref 220, .int (-1), .int 0, .int 0, .int 0, .int 0, .int 0, .int 0, .ref 221, .ref 222, .ref 223, .ref 224, .int 0, .ref 225, .int 0, .ref 226, .ref 227, .int 0, .ref 228, .ref 229, .ref 230, .ref 231, .ref 232]) rfl e191_19 rfl rfl rfl rfl (fun h20 o20 f20 => ?_)
  have s20 := s19.put f20
  refine s_iinc (y := 8) (lv' := [(2, .int 8), (0, .ref 191), (1, .int 8)]) rfl rfl (by decide) (by decide) rfl ?_
  refine q_goto rfl ?_
  refine q_iload_n rfl rfl ?_
  refine q_iload_n rfl rfl ?_
  refine q_icmp_ge rfl (fun _ => ?_) (fun c => absurd (by decide) c)
  refine q_iconst rfl ?_
  refine s_istore_n (lv' := [(2, .int 0), (0, .ref 191), (1, .int 8)]) rfl (by decide) rfl ?_
  have e192_20 := (f20.ne rfl (f19.ne rfl e192_18))
  refine en_loop (m := 191) (a := 192) rfl rfl (by decide) (by decide) 20 0 h20 _ rfl o20 e192_20 (fun h21 f21 => ?_)
  have s21 := s20.put f21
  show aW aiP 217 16 636 88 [(2, .int 20), (0, .ref 191), (1, .int 8)] [] h21 _
  refine q_aload_n rfl rfl ?_
  have e191_21 := (o20.ne f21 rfl)
  refine s_get (v := .int 8) rfl e191_21 rfl rfl ?_
  refine q_ireturn rfl rfl ?_
  show aW aiP 0 17 658 243 [(4, .int 0), (3, .ref 233), (2, .ref 191), (1, .ref 6), (0, .ref 0)] [.int 8, .int 8] h21 _
  refine q_icmp_eq rfl (fun _ => ?_) (fun c => absurd (by decide) c)
  refine s_iinc (y := 6) (lv' := [(4, .int 6), (3, .ref 233), (2, .ref 191), (1, .ref 6), (0, .ref 0)]) rfl rfl (by decide) (by decide) rfl ?_
  refine q_goto rfl ?_
  refine q_iload rfl rfl ?_
  refine q_aload_n rfl rfl ?_
  have e0_21 := (f21.ne rfl (f20.ne rfl (f19.ne rfl (f18.ne rfl (f17.ne rfl (f16.ne rfl (f15.ne rfl (f14.ne rfl (f13.ne rfl (f12.ne rfl (f11.ne rfl (f10.ne rfl (f9.ne rfl (f8.ne rfl (f7.ne rfl (f6.ne rfl (f5.ne rfl (f4.ne rfl e0_3))))))))))))))))))
  refine s_alen (x := 6) rfl e0_21 rfl (by decide) ?_
  refine q_bipush rfl ?_
  refine s_isub (k := 0) rfl (by decide) ?_
  refine q_icmp_gt rfl (fun _ => ?_) (fun c => absurd (by decide) c)
  refine q_iconst rfl ?_
  refine q_ireturn rfl rfl ?_
  exact ⟨rfl, s21.bd rfl⟩
set_option maxRecDepth 20000 in
set_option maxHeartbeats 4000000 in
theorem p_case1_9 {xs : Nat → Int32} {h : ai_H} (F : Fresh 6 xs h) (hk : xs 0 &&& 31 = 1) (hw : xs 1 = 9) : aW aiP 0 17 658 33 [(4, .int 0), (3, .ref 233), (2, .ref 191), (1, .ref 6), (0, .ref 0)] [] h p_Q := by
  have s0 := F.2.2.2.2.2.2.2.2.2.2.2.2.2.2.2.2.2.2.2.2.2.2.2.2.2.2.2.2.2.2.2.2.2.2.2.2.2.2.2.2.2.2.2.2.2.2.2.2.2.2.2.2.2.2.2.2.2.2.2.2.2.2.2.2.2.2.2.2.2.2
  refine q_aload_n rfl rfl ?_
  refine q_iload rfl rfl ?_
  have e0 := F.1
  refine s_iaload (j := 0) (v := .int (xs 0)) rfl e0 (by decide) rfl (by first | rfl | decide) ?_
  refine q_bipush rfl ?_
  refine s_iand (k := ((xs 0) &&& (31 : Int32))) rfl rfl ?_
  rw [hk]
  show aW aiP 0 17 658 40 [(4, .int 0), (3, .ref 233), (2, .ref 191), (1, .ref 6), (0, .ref 0)] [.int 1] h _
  refine s_sw (tg := 223) rfl rfl ?_
  refine q_aload_n rfl rfl ?_
  refine q_aload_n rfl rfl ?_
  refine q_iload rfl rfl ?_
  refine q_iconst rfl ?_
  refine s_iadd (k := 1) rfl (by decide) ?_
  refine s_iaload (j := 1) (v := .int (xs 1)) rfl e0 (by decide) rfl (by first | rfl | decide) ?_
  rw [hw]
  have e6 := F.2.2.2.2.2.2.1
  refine s_callV (as := [.int 9]) (rest := []) (d' := 16) (w' := 637) (lv' := [(0, .ref 6), (1, .int 9)]) rfl e6 rfl rfl rfl rfl rfl rfl ?_
  refine q_iload_n rfl rfl ?_
  refine q_if_lt rfl (fun c => absurd c (by decide)) (fun _ => ?_)
  refine q_iload_n rfl rfl ?_
  refine q_bipush rfl ?_
  refine q_icmp_gt rfl (fun c => absurd c (by decide)) (fun _ => ?_)
  refine q_aload_n rfl rfl ?_
  refine s_get (v := .int 0) rfl e6 rfl rfl ?_
  refine q_iload_n rfl rfl ?_
  refine s_iadd (k := 9) rfl (by decide) ?_
  refine q_sipush rfl ?_
  refine q_icmp_le rfl (fun _ => ?_) (fun c => absurd (by decide) c)
  refine q_aload_n rfl rfl ?_
  refine s_get (v := .ref 7) rfl e6 rfl rfl ?_
  refine q_iconst rfl ?_
  refine q_aload_n rfl rfl ?_
  refine s_get (v := .ref 8) rfl e6 rfl rfl ?_
  refine q_aload_n rfl rfl ?_
  refine s_get (v := .int 0) rfl e6 rfl rfl ?_
  refine q_iload_n rfl rfl ?_
  have e7 := F.2.2.2.2.2.2.2.1
  have e8 := F.2.2.2.2.2.2.2.2.1
  refine s_copy (sp := 0) (dp := 0) (k := 9) rfl e7 e8 (by decide) (by decide) (by decide) rfl (by decide) (by decide) (by decide) (fun i _ => rfl) (fun h1 o1 f1 => ?_)
  have s1 := s0.put f1
  refine q_aload_n rfl rfl ?_
  refine q_dup rfl rfl ?_
  have e6_1 := (e6.ne f1 rfl)
  refine s_get (v := .int 0) rfl e6_1 rfl rfl ?_
  refine q_iload_n rfl rfl ?_
  refine s_iadd (k := 9) rfl (by decide) ?_
  refine s_put (vs' := [.ref 7, .ref 8, .int 9, .ref 9, .int (-1), .ref 51, .ref 93, .ref 135, .ref 177, .ref 180, .int 0, .ref 183, .ref 186, .ref 189]) rfl e6_1 rfl rfl rfl rfl (fun h2 o2 f2 => ?_)
  have s2 := s1.put f2
  refine q_aload_n rfl rfl ?_
  refine s_get (v := .ref 7) rfl o2 rfl rfl ?_
  refine q_iconst rfl ?_
  refine s_callS (as := [.ref 7, .int 0]) (rest := []) (d' := 15) (w' := 614) (lv' := [(0, .ref 7), (1, .int 0)]) rfl rfl rfl rfl rfl rfl rfl rfl ?_
  refine q_iconst rfl ?_
  refine s_istore_n (lv' := [(2, .int 0), (0, .ref 7), (1, .int 0)]) rfl (by decide) rfl ?_
  refine q_aload_n rfl rfl ?_
  have e7_2 := (f2.ne rfl (f1.ne rfl e7))
  refine s_alen (x := 20) rfl e7_2 rfl (by decide) ?_
  refine s_istore_n (lv' := [(3, .int 20), (2, .int 0), (0, .ref 7), (1, .int 0)]) rfl (by decide) rfl ?_
  refine aW_lv (l := [(2, .int (nI 0)), (3, .int 20), (0, .ref 7), (1, .int 0)]) ?_ rfl rfl (by repeat' (first | exact inL_n | refine inL_c rfl ?_))
  refine fi_loop (a := 7) (by decide) 20 0 h2 _ rfl e7_2 (fun h3 f3 => ?_)
  have s3 := s2.put f3
  show aW aiP 15 16 637 59 [(0, .ref 6), (1, .int 9)] [] h3 _
  refine q_aload_n rfl rfl ?_
  have e6_3 := (o2.ne f3 rfl)
  refine s_get (v := .int 9) rfl e6_3 rfl rfl ?_
  refine q_ireturn rfl rfl ?_
  show aW aiP 0 17 658 233 [(4, .int 0), (3, .ref 233), (2, .ref 191), (1, .ref 6), (0, .ref 0)] [.int 9] h3 _
  refine q_aload_n rfl rfl ?_
  refine q_aload_n rfl rfl ?_
  refine q_iload rfl rfl ?_
  refine q_iconst rfl ?_
  refine s_iadd (k := 1) rfl (by decide) ?_
  have e0_3 := (f3.ne rfl (f2.ne rfl (f1.ne rfl e0)))
  refine s_iaload (j := 1) (v := .int (xs 1)) rfl e0_3 (by decide) rfl (by first | rfl | decide) ?_
  rw [hw]
  have e191 := F.2.2.2.2.2.2.2.2.2.2.2.2.2.2.2.2.2.2.2.2.2.2.2.2.2.2.2.1
  have e191_3 := (((e191.ne f1 rfl).ne f2 rfl).ne f3 rfl)
  refine s_callV (as := [.int 9]) (rest := [.int 9]) (d' := 16) (w' := 636) (lv' := [(0, .ref 191), (1, .int 9)]) rfl e191_3 rfl rfl rfl rfl rfl rfl ?_
  refine q_aload_n rfl rfl ?_
  refine q_iconst rfl ?_
  refine s_put (vs' := [.int 0, .ref 192, .ref 193, .int 0, .ref 194, .ref 195, .ref 196, .ref 197, .ref 198, .ref 199, .ref 200, .ref 201, .ref 202, .ref 203, .ref 204, .ref 205, .int (-1), .int 0, .ref 206, .ref 207, .ref 208, .ref 209, .ref 210, .ref 211, .ref 212, .ref 213, .ref 214, .ref 215, .int 0, .int 0, .int 0, .int 0, .ref 216, .ref 217, .ref 218, .ref 219, .ref 220, .int (-1), .int 0, .int 0, .int 0, .int 0, .int 0, .int 0, .ref 221, .ref 222, .ref 223, .ref 224, .int 0, .ref 225, .int 0, .ref 226, .ref 227, .int 0, .ref 228, .ref 229, .ref 230, .ref 231, .ref 232]) rfl e191_3 rfl rfl rfl rfl (fun h4 o4 f4 => ?_)
  have s4 := s3.put f4
  refine q_iload_n rfl rfl ?_
  refine q_if_lt rfl (fun c => absurd c (by decide)) (fun _ => ?_)
  refine q_iload_n rfl rfl ?_
  refine q_bipush rfl ?_
  refine q_icmp_gt rfl (fun c => absurd c (by decide)) (fun _ => ?_)
  refine q_aload_n rfl rfl ?_
  refine s_get (v := .int 0) rfl o4 rfl rfl ?_
  refine q_iload_n rfl rfl ?_
  refine s_iadd (k := 9) rfl (by decide) ?_
  refine q_sipush rfl ?_
  refine q_icmp_le rfl (fun _ => ?_) (fun c => absurd (by decide) c)
  refine q_iconst rfl ?_
  refine s_istore_n (lv' := [(2, .int 0), (0, .ref 191), (1, .int 9)]) rfl (by decide) rfl ?_
  refine q_iload_n rfl rfl ?_
  refine q_iload_n rfl rfl ?_
  refine q_icmp_ge rfl (fun c => absurd c (by decide)) (fun _ => ?_)
  refine q_aload_n rfl rfl ?_
  refine s_get (v := .ref 193) rfl o4 rfl rfl ?_
  refine q_aload_n rfl rfl ?_
  refine s_get (v := .int 0) rfl o4 rfl rfl ?_
  refine q_aload_n rfl rfl ?_
  refine s_get (v := .ref 192) rfl o4 rfl rfl ?_
  refine q_iload_n rfl rfl ?_
  have e192 := F.2.2.2.2.2.2.2.2.2.2.2.2.2.2.2.2.2.2.2.2.2.2.2.2.2.2.2.2.1
  have e192_4 := (f4.ne rfl (f3.ne rfl (f2.ne rfl (f1.ne rfl e192))))
  refine s_iaload (j := 0) (v := .int 0) rfl e192_4 (by decide) rfl (by first | rfl | decide) ?_
  have e193 := F.2.2.2.2.2.2.2.2.2.2.2.2.2.2.2.2.2.2.2.2.2.2.2.2.2.2.2.2.2.1
  have e193_4 := (f4.ne rfl (f3.ne rfl (f2.ne rfl (f1.ne rfl e193))))
  refine s_iastore (j := 0) rfl e193_4 (by decide) rfl (fun h5 o5 f5 => ?_)
  have s5 := s4.put f5
  refine q_aload_n rfl rfl ?_
  refine q_dup rfl rfl ?_
  have e191_5 := (o4.ne f5 rfl)
  refine s_get (v := .int 0) rfl e191_5 rfl rfl ?_
  refine q_iconst rfl ?_
  refine s_iadd (k := 1) rfl (by decide) ?_
  refine s_put (vs' := [.int 0, .ref 192, .ref 193, .int 1, .ref 194, .ref 195, .ref 196, .ref 197, .ref 198, .ref 199, .ref 200, .ref 201, .ref 202, .ref 203, .ref 204, .ref 205, .int (-1), .int 0, .ref 206, .ref 207, .ref 208, .ref 209, .ref 210, .ref 211, .ref 212, .ref 213, .ref 214, .ref 215, .int 0, .int 0, .int 0, .int 0, .ref 216, .ref 217, .ref 218, .ref 219, .ref 220, .int (-1), .int 0, .int 0, .int 0, .int 0, .int 0, .int 0, .ref 221, .ref 222, .ref 223, .ref 224, .int 0, .ref 225, .int 0, .ref 226, .ref 227, .int 0, .ref 228, .ref 229, .ref 230, .ref 231, .ref 232]) rfl e191_5 rfl rfl rfl rfl (fun h6 o6 f6 => ?_)
  have s6 := s5.put f6
  refine s_iinc (y := 1) (lv' := [(2, .int 1), (0, .ref 191), (1, .int 9)]) rfl rfl (by decide) (by decide) rfl ?_
  refine q_goto rfl ?_
  refine q_iload_n rfl rfl ?_
  refine q_iload_n rfl rfl ?_
  refine q_icmp_ge rfl (fun c => absurd c (by decide)) (fun _ => ?_)
  refine q_aload_n rfl rfl ?_
  refine s_get (v := .ref 193) rfl o6 rfl rfl ?_
  refine q_aload_n rfl rfl ?_
  refine s_get (v := .int 1) rfl o6 rfl rfl ?_
  refine q_aload_n rfl rfl ?_
  refine s_get (v := .ref 192) rfl o6 rfl rfl ?_
  refine q_iload_n rfl rfl ?_
  have e192_6 := (f6.ne rfl (f5.ne rfl e192_4))
  refine s_iaload (j := 1) (v := .int 0) rfl e192_6 (by decide) rfl (by first | rfl | decide) ?_
  have e193_6 := (f6.ne rfl o5)
  refine s_iastore (j := 1) rfl e193_6 (by decide) rfl (fun h7 o7 f7 => ?_)
  have s7 := s6.put f7
  refine q_aload_n rfl rfl ?_
  refine q_dup rfl rfl ?_
  have e191_7 := (o6.ne f7 rfl)
  refine s_get (v := .int 1) rfl e191_7 rfl rfl ?_
  refine q_iconst rfl ?_
  refine s_iadd (k := 2) rfl (by decide) ?_
  refine s_put (vs' := [.int 0, .ref 192, .ref 193, .int 2, .ref 194, .ref 195, .ref 196, .ref 197, .ref 198, .ref 199, .ref 200, .ref 201, .ref 202, .ref 203, .ref 204, .ref 205, .int (-1), .int 0, .ref 206, .ref 207, .ref 208, .ref 209, .ref 210, .ref 211, .ref 212, .ref 213, .ref 214, .ref 215, .int 0, .int 0, .int 0, .int 0, .ref 216, .ref 217, .ref 218, .ref 219, .ref 220, .int (-1), .int 0, .int 0, .int 0, .int 0, .int 0, .int 0, .ref 221, .ref 222, .ref 223, .ref 224, .int 0, .ref 225, .int 0, .ref 226, .ref 227, .int 0, .ref 228, .ref 229, .ref 230, .ref 231, .ref 232]) rfl e191_7 rfl rfl rfl rfl (fun h8 o8 f8 => ?_)
  have s8 := s7.put f8
  refine s_iinc (y := 2) (lv' := [(2, .int 2), (0, .ref 191), (1, .int 9)]) rfl rfl (by decide) (by decide) rfl ?_
  refine q_goto rfl ?_
  refine q_iload_n rfl rfl ?_
  refine q_iload_n rfl rfl ?_
  refine q_icmp_ge rfl (fun c => absurd c (by decide)) (fun _ => ?_)
  refine q_aload_n rfl rfl ?_
  refine s_get (v := .ref 193) rfl o8 rfl rfl ?_
  refine q_aload_n rfl rfl ?_
  refine s_get (v := .int 2) rfl o8 rfl rfl ?_
  refine q_aload_n rfl rfl ?_
  refine s_get (v := .ref 192) rfl o8 rfl rfl ?_
  refine q_iload_n rfl rfl ?_
  have e192_8 := (f8.ne rfl (f7.ne rfl e192_6))
  refine s_iaload (j := 2) (v := .int 0) rfl e192_8 (by decide) rfl (by first | rfl | decide) ?_
  have e193_8 := (f8.ne rfl o7)
  refine s_iastore (j := 2) rfl e193_8 (by decide) rfl (fun h9 o9 f9 => ?_)
  have s9 := s8.put f9
  refine q_aload_n rfl rfl ?_
  refine q_dup rfl rfl ?_
  have e191_9 := (o8.ne f9 rfl)
  refine s_get (v := .int 2) rfl e191_9 rfl rfl ?_
  refine q_iconst rfl ?_
  refine s_iadd (k := 3) rfl (by decide) ?_
  refine s_put (vs' := [.int 0, .ref 192, .ref 193, .int 3, .ref 194, .ref 195, .ref 196, .ref 197, .ref 198, .ref 199, .ref 200, .ref 201, .ref 202, .ref 203, .ref 204, .ref 205, .int (-1), .int 0, .ref 206, .ref 207, .ref 208, .ref 209, .ref 210, .ref 211, .ref 212, .ref 213, .ref 214, .ref 215, .int 0, .int 0, .int 0, .int 0, .ref 216, .ref 217, .ref 218, .ref 219, .ref 220, .int (-1), .int 0, .int 0, .int 0, .int 0, .int 0, .int 0, .ref 221, .ref 222, .ref 223, .ref 224, .int 0, .ref 225, .int 0, .ref 226, .ref 227, .int 0, .ref 228, .ref 229, .ref 230, .ref 231, .ref 232]) rfl e191_9 rfl rfl rfl rfl (fun h10 o10 f10 => ?_)
  have s10 := s9.put f10
  refine s_iinc (y := 3) (lv' := [(2, .int 3), (0, .ref 191), (1, .int 9)]) rfl rfl (by decide) (by decide) rfl ?_
  refine q_goto rfl ?_
  refine q_iload_n rfl rfl ?_
  refine q_iload_n rfl rfl ?_
  refine q_icmp_ge rfl (fun c => absurd c (by decide)) (fun _ => ?_)
  refine q_aload_n rfl rfl ?_
  refine s_get (v := .ref 193) rfl o10 rfl rfl ?_
  refine q_aload_n rfl rfl ?_
  refine s_get (v := .int 3) rfl o10 rfl rfl ?_
  refine q_aload_n rfl rfl ?_
  refine s_get (v := .ref 192) rfl o10 rfl rfl ?_
  refine q_iload_n rfl rfl ?_
  have e192_10 := (f10.ne rfl (f9.ne rfl e192_8))
  refine s_iaload (j := 3) (v := .int 0) rfl e192_10 (by decide) rfl (by first | rfl | decide) ?_
  have e193_10 := (f10.ne rfl o9)
  refine s_iastore (j := 3) rfl e193_10 (by decide) rfl (fun h11 o11 f11 => ?_)
  have s11 := s10.put f11
  refine q_aload_n rfl rfl ?_
  refine q_dup rfl rfl ?_
  have e191_11 := (o10.ne f11 rfl)
  refine s_get (v := .int 3) rfl e191_11 rfl rfl ?_
  refine q_iconst rfl ?_
  refine s_iadd (k := 4) rfl (by decide) ?_
  refine s_put (vs' := [.int 0, .ref 192, .ref 193, .int 4, .ref 194, .ref 195, .ref 196, .ref 197, .ref 198, .ref 199, .ref 200, .ref 201, .ref 202, .ref 203, .ref 204, .ref 205, .int (-1), .int 0, .ref 206, .ref 207, .ref 208, .ref 209, .ref 210, .ref 211, .ref 212, .ref 213, .ref 214, .ref 215, .int 0, .int 0, .int 0, .int 0, .ref 216, .ref 217, .ref 218, .ref 219, .ref 220, .int (-1), .int 0, .int 0, .int 0, .int 0, .int 0, .int 0, .ref 221, .ref 222, .ref 223, .ref 224, .int 0, .ref 225, .int 0, .ref 226, .ref 227, .int 0, .ref 228, .ref 229, .ref 230, .ref 231, .ref 232]) rfl e191_11 rfl rfl rfl rfl (fun h12 o12 f12 => ?_)
  have s12 := s11.put f12
  refine s_iinc (y := 4) (lv' := [(2, .int 4), (0, .ref 191), (1, .int 9)]) rfl rfl (by decide) (by decide) rfl ?_
  refine q_goto rfl ?_
  refine q_iload_n rfl rfl ?_
  refine q_iload_n rfl rfl ?_
  refine q_icmp_ge rfl (fun c => absurd c (by decide)) (fun _ => ?_)
  refine q_aload_n rfl rfl ?_
  refine s_get (v := .ref 193) rfl o12 rfl rfl ?_
  refine q_aload_n rfl rfl ?_
  refine s_get (v := .int 4) rfl o12 rfl rfl ?_
  refine q_aload_n rfl rfl ?_
  refine s_get (v := .ref 192) rfl o12 rfl rfl ?_
  refine q_iload_n rfl rfl ?_
  have e192_12 := (f12.ne rfl (f11.ne rfl e192_10))
  refine s_iaload (j := 4) (v := .int 0) rfl e192_12 (by decide) rfl (by first | rfl | decide) ?_
  have e193_12 := (f12.ne rfl o11)
  refine s_iastore (j := 4) rfl e193_12 (by decide) rfl (fun h13 o13 f13 => ?_)
  have s13 := s12.put f13
  refine q_aload_n rfl rfl ?_
  refine q_dup rfl rfl ?_
  have e191_13 := (o12.ne f13 rfl)
  refine s_get (v := .int 4) rfl e191_13 rfl rfl ?_
  refine q_iconst rfl ?_
  refine s_iadd (k := 5) rfl (by decide) ?_
  refine s_put (vs' := [.int 0, .ref 192, .ref 193, .int 5, .ref 194, .ref 195, .ref 196, .ref 197, .ref 198, .ref 199, .ref 200, .ref 201, .ref 202, .ref 203, .ref 204, .ref 205, .int (-1), .int 0, .ref 206, .ref 207, .ref 208, .ref 209, .ref 210, .ref 211, .ref 212, .ref 213, .ref 214, .ref 215, .int 0, .int 0, .int 0, .int 0, .ref 216, .ref 217, .ref 218, .ref 219, .ref 220, .int (-1), .int 0, .int 0, .int 0, .int 0, .int 0, .int 0, .ref 221, .ref 222, .ref 223, .ref 224, .int 0, .ref 225, .int 0, .ref 226, .ref 227, .int 0, .ref 228, .ref 229, .ref 230, .ref 231, .ref 232]) rfl e191_13 rfl rfl rfl rfl (fun h14 o14 f14 => ?_)
  have s14 := s13.put f14
  refine s_iinc (y := 5) (lv' := [(2, .int 5), (0, .ref 191), (1, .int 9)]) rfl rfl (by decide) (by decide) rfl ?_
  refine q_goto rfl ?_
  refine q_iload_n rfl rfl ?_
  refine q_iload_n rfl rfl ?_
  refine q_icmp_ge rfl (fun c => absurd c (by decide)) (fun _ => ?_)
  refine q_aload_n rfl rfl ?_
  refine s_get (v := .ref 193) rfl o14 rfl rfl ?_
  refine q_aload_n rfl rfl ?_
  refine s_get (v := .int 5) rfl o14 rfl rfl ?_
  refine q_aload_n rfl rfl ?_
  refine s_get (v := .ref 192) rfl o14 rfl rfl ?_
  refine q_iload_n rfl rfl ?_
  have e192_14 := (f14.ne rfl (f13.ne rfl e192_12))
  refine s_iaload (j := 5) (v := .int 0) rfl e192_14 (by decide) rfl (by first | rfl | decide) ?_
  have e193_14 := (f14.ne rfl o13)
  refine s_iastore (j := 5) rfl e193_14 (by decide) rfl (fun h15 o15 f15 => ?_)
  have s15 := s14.put f15
  refine q_aload_n rfl rfl ?_
  refine q_dup rfl rfl ?_
  have e191_15 := (o14.ne f15 rfl)
  refine s_get (v := .int 5) rfl e191_15 rfl rfl ?_
  refine q_iconst rfl ?_
  refine s_iadd (k := 6) rfl (by decide) ?_
  refine s_put (vs' := [.int 0, .ref 192, .ref 193, .int 6, .ref 194, .ref 195, .ref 196, .ref 197, .ref 198, .ref 199, .ref 200, .ref 201, .ref 202, .ref 203, .ref 204, .ref 205, .int (-1), .int 0, .ref 206, .ref 207, .ref 208, .ref 209, .ref 210, .ref 211, .ref 212, .ref 213, .ref 214, .ref 215, .int 0, .int 0, .int 0, .int 0, .ref 216, .ref 217, .ref 218, .ref 219, .ref 220, .int (-1), .int 0, .int 0, .int 0, .int 0, .int 0, .int 0, .ref 221, .ref 222, .ref 223, .ref 224, .int 0, .ref 225, .int 0, .ref 226, .ref 227, .int 0, .ref 228, .ref 229, .ref 230, .ref 231, .ref 232]) rfl e191_15 rfl rfl rfl rfl (fun h16 o16 f16 => ?_)
  have s16 := s15.put f16
  refine s_iinc (y := 6) (lv' := [(2, .int 6), (0, .ref 191), (1, .int 9)]) rfl rfl (by decide) (by decide) rfl ?_
  refine q_goto rfl ?_
  refine q_iload_n rfl rfl ?_
  refine q_iload_n rfl rfl ?_
  refine q_icmp_ge rfl (fun c => absurd c (by decide)) (fun _ => ?_)
  refine q_aload_n rfl rfl ?_
  refine s_get (v := .ref 193) rfl o16 rfl rfl ?_
  refine q_aload_n rfl rfl ?_
  refine s_get (v := .int 6) rfl o16 rfl rfl ?_
  refine q_aload_n rfl rfl ?_
  refine s_get (v := .ref 192) rfl o16 rfl rfl ?_
  refine q_iload_n rfl rfl ?_
  have e192_16 := (f16.ne rfl (f15.ne rfl e192_14))
  refine s_iaload (j := 6) (v := .int 0) rfl e192_16 (by decide) rfl (by first | rfl | decide) ?_
  have e193_16 := (f16.ne rfl o15)
  refine s_iastore (j := 6) rfl e193_16 (by decide) rfl (fun h17 o17 f17 => ?_)
  have s17 := s16.put f17
  refine q_aload_n rfl rfl ?_
  refine q_dup rfl rfl ?_
  have e191_17 := (o16.ne f17 rfl)
  refine s_get (v := .int 6) rfl e191_17 rfl rfl ?_
  refine q_iconst rfl ?_
  refine s_iadd (k := 7) rfl (by decide) ?_
  refine s_put (vs' := [.int 0, .ref 192, .ref 193, .int 7, .ref 194, .ref 195, .ref 196, .ref 197, .ref 198, .ref 199, .ref 200, .ref 201, .ref 202, .ref 203, .ref 204, .ref 205, .int (-1), .int 0, .ref 206, .ref 207, .ref 208, .ref 209, .ref 210, .ref 211, .ref 212, .ref 213, .ref 214, .ref 215, .int 0, .int 0, .int 0, .int 0, .ref 216, .ref 217, .ref 218, .ref 219, .ref 220, .int (-1), .int 0, .int 0, .int 0, .int 0, .int 0, .int 0, .ref 221, .ref 222, .ref 223, .ref 224, .int 0, .ref 225, .int 0, .ref 226, .ref 227, .int 0, .ref 228, .ref 229, .ref 230, .ref 231, .ref 232]) rfl e191_17 rfl rfl rfl rfl (fun h18 o18 f18 => ?_)
  have s18 := s17.put f18
  refine s_iinc (y := 7) (lv' := [(2, .int 7), (0, .ref 191), (1, .int 9)]) rfl rfl (by decide) (by decide) rfl ?_
  refine q_goto rfl ?_
  refine q_iload_n rfl rfl ?_
  refine q_iload_n rfl rfl ?_
  refine q_icmp_ge rfl (fun c => absurd c (by decide)) (fun _ => ?_)
  refine q_aload_n rfl rfl ?_
  refine s_get (v := .ref 193) rfl o18 rfl rfl ?_
  refine q_aload_n rfl rfl ?_
  refine s_get (v := .int 7) rfl o18 rfl rfl ?_
  refine q_aload_n rfl rfl ?_
  refine s_get (v := .ref 192) rfl o18 rfl rfl ?_
  refine q_iload_n rfl rfl ?_
  have e192_18 := (f18.ne rfl (f17.ne rfl e192_16))
  refine s_iaload (j := 7) (v := .int 0) rfl e192_18 (by decide) rfl (by first | rfl | decide) ?_
  have e193_18 := (f18.ne rfl o17)
  refine s_iastore (j := 7) rfl e193_18 (by decide) rfl (fun h19 o19 f19 => ?_)
  have s19 := s18.put f19
  refine q_aload_n rfl rfl ?_
  refine q_dup rfl rfl ?_
  have e191_19 := (o18.ne f19 rfl)
  refine s_get (v := .int 7) rfl e191_19 rfl rfl ?_
  refine q_iconst rfl ?_
  refine s_iadd (k := 8) rfl (by decide) ?_
  refine s_put (vs' := [.int 0, .ref 192, .ref 193, .int 8, .ref 194, .ref 195, .ref 196, .ref 197, .ref 198, .ref 199, .ref 200, .ref 201, .ref 202, .ref 203, .ref 204, .ref 205, .int (-1), .int 0, .ref 206, .ref 207, .ref 208, .ref 209, .ref 210, .ref 211, .ref 212, .ref 213, .ref 214, .ref 215, .int 0, .int 0, .int 0, .int 0, .ref 216, .ref 217, .ref 218, .ref 219, .ref 220, .int (-1), .int 0, .int 0, .int 0, .int 0, .int 0, .int 0, .ref 221, .ref 222, .ref 223, .ref 224, .int 0, .ref 225, .int 0, .ref 226, .ref 227, .int 0, .ref 228, .ref 229, .ref 230, .ref 231, .ref 232]) rfl e191_19 rfl rfl rfl rfl (fun h20 o20 f20 => ?_)
  have s20 := s19.put f20
  refine s_iinc (y := 8) (lv' := [(2, .int 8), (0, .ref 191), (1, .int 9)]) rfl rfl (by decide) (by decide) rfl ?_
  refine q_goto rfl ?_
  refine q_iload_n rfl rfl ?_
  refine q_iload_n rfl rfl ?_
  refine q_icmp_ge rfl (fun c => absurd c (by decide)) (fun _ => ?_)
  refine q_aload_n rfl rfl ?_
  refine s_get (v := .ref 193) rfl o20 rfl rfl ?_
  refine q_aload_n rfl rfl ?_
  refine s_get (v := .int 8) rfl o20 rfl rfl ?_
  refine q_aload_n rfl rfl ?_
  refine s_get (v := .ref 192) rfl o20 rfl rfl ?_
  refine q_iload_n rfl rfl ?_
  have e192_20 := (f20.ne rfl (f19.ne rfl e192_18))
  refine s_iaload (j := 8) (v := .int 0) rfl e192_20 (by decide) rfl (by first | rfl | decide) ?_
  have e193_20 := (f20.ne rfl o19)
  refine s_iastore (j := 8) rfl e193_20 (by decide) rfl (fun h21 o21 f21 => ?_)
  have s21 := s20.put f21
  refine q_aload_n rfl rfl ?_
  refine q_dup rfl rfl ?_
  have e191_21 := (o20.ne f21 rfl)
  refine s_get (v := .int 8) rfl e191_21 rfl rfl ?_
  refine q_iconst rfl ?_
  refine s_iadd (k := 9) rfl (by decide) ?_
  refine s_put (vs' := [.int 0, .ref 192, .ref 193, .int 9, .ref 194, .ref 195, .ref 196, .ref 197, .ref 198, .ref 199, .ref 200, .ref 201, .ref 202, .ref 203, .ref 204, .ref 205, .int (-1), .int 0, .ref 206, .ref 207, .ref 208, .ref 209, .ref 210, .ref 211, .ref 212, .ref 213, .ref 214, .ref 215, .int 0, .int 0, .int 0, .int 0, .ref 216, .ref 217, .ref 218, .ref 219, .ref 220, .int (-1), .int 0, .int 0, .int 0, .int 0, .int 0, .int 0, .ref 221, .ref 222, .ref 223, .ref 224, .int 0, .ref 225, .int 0, .ref 226, .ref 227, .int 0, .ref 228, .ref 229, .ref 230, .ref 231, .ref 232]) rfl e191_21 rfl rfl rfl rfl (fun h22 o22 f22 => ?_)
  have s22 := s21.put f22
  refine s_iinc (y := 9) (lv' := [(2, .int 9), (0, .ref 191), (1, .int 9)]) rfl rfl (by decide) (by decide) rfl ?_
  refine q_goto rfl ?_
  refine q_iload_n rfl rfl ?_
  refine q_iload_n rfl rfl ?_
  refine q_icmp_ge rfl (fun _ => ?_) (fun c => absurd (by decide) c)
  refine q_iconst rfl ?_
  refine s_istore_n (lv' := [(2, .int 0), (0, .ref 191), (1, .int 9)]) rfl (by decide) rfl ?_
  have e192_22 := (f22.ne rfl (f21.ne rfl e192_20))
  refine en_loop (m := 191) (a := 192) rfl rfl (by decide) (by decide) 20 0 h22 _ rfl o22 e192_22 (fun h23 f23 => ?_)
  have s23 := s22.put f23
  show aW aiP 217 16 636 88 [(2, .int 20), (0, .ref 191), (1, .int 9)] [] h23 _
  refine q_aload_n rfl rfl ?_
  have e191_23 := (o22.ne f23 rfl)
  refine s_get (v := .int 9) rfl e191_23 rfl rfl ?_
  refine q_ireturn rfl rfl ?_
  show aW aiP 0 17 658 243 [(4, .int 0), (3, .ref 233), (2, .ref 191), (1, .ref 6), (0, .ref 0)] [.int 9, .int 9] h23 _
  refine q_icmp_eq rfl (fun _ => ?_) (fun c => absurd (by decide) c)
  refine s_iinc (y := 6) (lv' := [(4, .int 6), (3, .ref 233), (2, .ref 191), (1, .ref 6), (0, .ref 0)]) rfl rfl (by decide) (by decide) rfl ?_
  refine q_goto rfl ?_
  refine q_iload rfl rfl ?_
  refine q_aload_n rfl rfl ?_
  have e0_23 := (f23.ne rfl (f22.ne rfl (f21.ne rfl (f20.ne rfl (f19.ne rfl (f18.ne rfl (f17.ne rfl (f16.ne rfl (f15.ne rfl (f14.ne rfl (f13.ne rfl (f12.ne rfl (f11.ne rfl (f10.ne rfl (f9.ne rfl (f8.ne rfl (f7.ne rfl (f6.ne rfl (f5.ne rfl (f4.ne rfl e0_3))))))))))))))))))))
  refine s_alen (x := 6) rfl e0_23 rfl (by decide) ?_
  refine q_bipush rfl ?_
  refine s_isub (k := 0) rfl (by decide) ?_
  refine q_icmp_gt rfl (fun _ => ?_) (fun c => absurd (by decide) c)
  refine q_iconst rfl ?_
  refine q_ireturn rfl rfl ?_
  exact ⟨rfl, s23.bd rfl⟩
set_option maxRecDepth 20000 in
set_option maxHeartbeats 4000000 in
theorem p_case1_10 {xs : Nat → Int32} {h : ai_H} (F : Fresh 6 xs h) (hk : xs 0 &&& 31 = 1) (hw : xs 1 = 10) : aW aiP 0 17 658 33 [(4, .int 0), (3, .ref 233), (2, .ref 191), (1, .ref 6), (0, .ref 0)] [] h p_Q := by
  have s0 := F.2.2.2.2.2.2.2.2.2.2.2.2.2.2.2.2.2.2.2.2.2.2.2.2.2.2.2.2.2.2.2.2.2.2.2.2.2.2.2.2.2.2.2.2.2.2.2.2.2.2.2.2.2.2.2.2.2.2.2.2.2.2.2.2.2.2.2.2.2.2
  refine q_aload_n rfl rfl ?_
  refine q_iload rfl rfl ?_
  have e0 := F.1
  refine s_iaload (j := 0) (v := .int (xs 0)) rfl e0 (by decide) rfl (by first | rfl | decide) ?_
  refine q_bipush rfl ?_
  refine s_iand (k := ((xs 0) &&& (31 : Int32))) rfl rfl ?_
  rw [hk]
  show aW aiP 0 17 658 40 [(4, .int 0), (3, .ref 233), (2, .ref 191), (1, .ref 6), (0, .ref 0)] [.int 1] h _
  refine s_sw (tg := 223) rfl rfl ?_
  refine q_aload_n rfl rfl ?_
  refine q_aload_n rfl rfl ?_
  refine q_iload rfl rfl ?_
  refine q_iconst rfl ?_
  refine s_iadd (k := 1) rfl (by decide) ?_
  refine s_iaload (j := 1) (v := .int (xs 1)) rfl e0 (by decide) rfl (by first | rfl | decide) ?_
  rw [hw]
  have e6 := F.2.2.2.2.2.2.1
  refine s_callV (as := [.int 10]) (rest := []) (d' := 16) (w' := 637) (lv' := [(0, .ref 6), (1, .int 10)]) rfl e6 rfl rfl rfl rfl rfl rfl ?_
  refine q_iload_n rfl rfl ?_
  refine q_if_lt rfl (fun c => absurd c (by decide)) (fun _ => ?_)
  refine q_iload_n rfl rfl ?_
  refine q_bipush rfl ?_
  refine q_icmp_gt rfl (fun c => absurd c (by decide)) (fun _ => ?_)
  refine q_aload_n rfl rfl ?_
  refine s_get (v := .int 0) rfl e6 rfl rfl ?_
  refine q_iload_n rfl rfl ?_
  refine s_iadd (k := 10) rfl (by decide) ?_
  refine q_sipush rfl ?_
  refine q_icmp_le rfl (fun _ => ?_) (fun c => absurd (by decide) c)
  refine q_aload_n rfl rfl ?_
  refine s_get (v := .ref 7) rfl e6 rfl rfl ?_
  refine q_iconst rfl ?_
  refine q_aload_n rfl rfl ?_
  refine s_get (v := .ref 8) rfl e6 rfl rfl ?_
  refine q_aload_n rfl rfl ?_
  refine s_get (v := .int 0) rfl e6 rfl rfl ?_
  refine q_iload_n rfl rfl ?_
  have e7 := F.2.2.2.2.2.2.2.1
  have e8 := F.2.2.2.2.2.2.2.2.1
  refine s_copy (sp := 0) (dp := 0) (k := 10) rfl e7 e8 (by decide) (by decide) (by decide) rfl (by decide) (by decide) (by decide) (fun i _ => rfl) (fun h1 o1 f1 => ?_)
  have s1 := s0.put f1
  refine q_aload_n rfl rfl ?_
  refine q_dup rfl rfl ?_
  have e6_1 := (e6.ne f1 rfl)
  refine s_get (v := .int 0) rfl e6_1 rfl rfl ?_
  refine q_iload_n rfl rfl ?_
  refine s_iadd (k := 10) rfl (by decide) ?_
  refine s_put (vs' := [.ref 7, .ref 8, .int 10, .ref 9, .int (-1), .ref 51, .ref 93, .ref 135, .ref 177, .ref 180, .int 0, .ref 183, .ref 186, .ref 189]) rfl e6_1 rfl rfl rfl rfl (fun h2 o2 f2 => ?_)
  have s2 := s1.put f2
  refine q_aload_n rfl rfl ?_
  refine s_get (v := .ref 7) rfl o2 rfl rfl ?_
  refine q_iconst rfl ?_
  refine s_callS (as := [.ref 7, .int 0]) (rest := []) (d' := 15) (w' := 614) (lv' := [(0, .ref 7), (1, .int 0)]) rfl rfl rfl rfl rfl rfl rfl rfl ?_
  refine q_iconst rfl ?_
  refine s_istore_n (lv' := [(2, .int 0), (0, .ref 7), (1, .int 0)]) rfl (by decide) rfl ?_
  refine q_aload_n rfl rfl ?_
  have e7_2 := (f2.ne rfl (f1.ne rfl e7))
  refine s_alen (x := 20) rfl e7_2 rfl (by decide) ?_
  refine s_istore_n (lv' := [(3, .int 20), (2, .int 0), (0, .ref 7), (1, .int 0)]) rfl (by decide) rfl ?_
  refine aW_lv (l := [(2, .int (nI 0)), (3, .int 20), (0, .ref 7), (1, .int 0)]) ?_ rfl rfl (by repeat' (first | exact inL_n | refine inL_c rfl ?_))
  refine fi_loop (a := 7) (by decide) 20 0 h2 _ rfl e7_2 (fun h3 f3 => ?_)
  have s3 := s2.put f3
  show aW aiP 15 16 637 59 [(0, .ref 6), (1, .int 10)] [] h3 _
  refine q_aload_n rfl rfl ?_
  have e6_3 := (o2.ne f3 rfl)
  refine s_get (v := .int 10) rfl e6_3 rfl rfl ?_
  refine q_ireturn rfl rfl ?_
  show aW aiP 0 17 658 233 [(4, .int 0), (3, .ref 233), (2, .ref 191), (1, .ref 6), (0, .ref 0)] [.int 10] h3 _
  refine q_aload_n rfl rfl ?_
  refine q_aload_n rfl rfl ?_
  refine q_iload rfl rfl ?_
  refine q_iconst rfl ?_
  refine s_iadd (k := 1) rfl (by decide) ?_
  have e0_3 := (f3.ne rfl (f2.ne rfl (f1.ne rfl e0)))
  refine s_iaload (j := 1) (v := .int (xs 1)) rfl e0_3 (by decide) rfl (by first | rfl | decide) ?_
  rw [hw]
  have e191 := F.2.2.2.2.2.2.2.2.2.2.2.2.2.2.2.2.2.2.2.2.2.2.2.2.2.2.2.1
  have e191_3 := (((e191.ne f1 rfl).ne f2 rfl).ne f3 rfl)
  refine s_callV (as := [.int 10]) (rest := [.int 10]) (d' := 16) (w' := 636) (lv' := [(0, .ref 191), (1, .int 10)]) rfl e191_3 rfl rfl rfl rfl rfl rfl ?_
  refine q_aload_n rfl rfl ?_
  refine q_iconst rfl ?_
  refine s_put (vs' := [.int 0, .ref 192, .ref 193, .int 0, .ref 194, .ref 195, .ref 196, .ref 197, .ref 198, .ref 199, .ref 200, .ref 201, .ref 202, .ref 203, .ref 204, .ref 205, .int (-1), .int 0, .ref 206, .ref 207, .ref 208, .ref 209, .ref 210, .ref 211, .ref 212, .ref 213, .ref 214, .ref 215, .int 0, .int 0, .int 0, .int 0, .ref 216, .ref 217, .ref 218, .ref 219, .ref 220, .int (-1), .int 0, .int 0, .int 0, .int 0, .int 0, .int 0, .ref 221, .ref 222, .ref 223, .ref 224, .int 0, .ref 225, .int 0, .ref 226, .ref 227, .int 0, .ref 228, .ref 229, .ref 230, .ref 231, .ref 232]) rfl e191_3 rfl rfl rfl rfl (fun h4 o4 f4 => ?_)
  have s4 := s3.put f4
  refine q_iload_n rfl rfl ?_
  refine q_if_lt rfl (fun c => absurd c (by decide)) (fun _ => ?_)
  refine q_iload_n rfl rfl ?_
  refine q_bipush rfl ?_
  refine q_icmp_gt rfl (fun c => absurd c (by decide)) (fun _ => ?_)
  refine q_aload_n rfl rfl ?_
  refine s_get (v := .int 0) rfl o4 rfl rfl ?_
  refine q_iload_n rfl rfl ?_
  refine s_iadd (k := 10) rfl (by decide) ?_
  refine q_sipush rfl ?_
  refine q_icmp_le rfl (fun _ => ?_) (fun c => absurd (by decide) c)
  refine q_iconst rfl ?_
  refine s_istore_n (lv' := [(2, .int 0), (0, .ref 191), (1, .int 10)]) rfl (by decide) rfl ?_
  refine q_iload_n rfl rfl ?_
  refine q_iload_n rfl rfl ?_
  refine q_icmp_ge rfl (fun c => absurd c (by decide)) (fun _ => ?_)
  refine q_aload_n rfl rfl ?_
  refine s_get (v := .ref 193) rfl o4 rfl rfl ?_
  refine q_aload_n rfl rfl ?_
  refine s_get (v := .int 0) rfl o4 rfl rfl ?_
  refine q_aload_n rfl rfl ?_
  refine s_get (v := .ref 192) rfl o4 rfl rfl ?_
  refine q_iload_n rfl rfl ?_
  have e192 := F.2.2.2.2.2.2.2.2.2.2.2.2.2.2.2.2.2.2.2.2.2.2.2.2.2.2.2.2.1
  have e192_4 := (f4.ne rfl (f3.ne rfl (f2.ne rfl (f1.ne rfl e192))))
  refine s_iaload (j := 0) (v := .int 0) rfl e192_4 (by decide) rfl (by first | rfl | decide) ?_
  have e193 := F.2.2.2.2.2.2.2.2.2.2.2.2.2.2.2.2.2.2.2.2.2.2.2.2.2.2.2.2.2.1
  have e193_4 := (f4.ne rfl (f3.ne rfl (f2.ne rfl (f1.ne rfl e193))))
  refine s_iastore (j := 0) rfl e193_4 (by decide) rfl (fun h5 o5 f5 => ?_)
  have s5 := s4.put f5
  refine q_aload_n rfl rfl ?_
  refine q_dup rfl rfl ?_
  have e191_5 := (o4.ne f5 rfl)
  refine s_get (v := .int 0) rfl e191_5 rfl rfl ?_
  refine q_iconst rfl ?_
  refine s_iadd (k := 1) rfl (by decide) ?_
  refine s_put (vs' := [.int 0, .ref 192, .ref 193, .int 1, .ref 194, .ref 195, .ref 196, .ref 197, .ref 198, .ref 199, .ref 200, .ref 201, .ref 202, .ref 203, .ref 204, .ref 205, .int (-1), .int 0, .ref 206, .ref 207, .ref 208, .ref 209, .ref 210, .ref 211, .ref 212, .ref 213, .ref 214, .ref 215, .int 0, .int 0, .int 0, .int 0, .ref 216, .ref 217, .ref 218, .ref 219, .ref 220, .int (-1), .int 0, .int 0, .int 0, .int 0, .int 0, .int 0, .ref 221, .ref 222, .ref 223, .ref 224, .int 0, .ref 225, .int 0, .ref 226, .ref 227, .int 0, .ref 228, .ref 229, .ref 230, .ref 231, .ref 232]) rfl e191_5 rfl rfl rfl rfl (fun h6 o6 f6 => ?_)
  have s6 := s5.put f6
  refine s_iinc (y := 1) (lv' := [(2, .int 1), (0, .ref 191), (1, .int 10)]) rfl rfl (by decide) (by decide) rfl ?_
  refine q_goto rfl ?_
  refine q_iload_n rfl rfl ?_
  refine q_iload_n rfl rfl ?_
  refine q_icmp_ge rfl (fun c => absurd c (by decide)) (fun _ => ?_)
  refine q_aload_n rfl rfl ?_
  refine s_get (v := .ref 193) rfl o6 rfl rfl ?_
  refine q_aload_n rfl rfl ?_
  refine s_get (v := .int 1) rfl o6 rfl rfl ?_
  refine q_aload_n rfl rfl ?_
  refine s_get (v := .ref 192) rfl o6 rfl rfl ?_
  refine q_iload_n rfl rfl ?_
  have e192_6 := (f6.ne rfl (f5.ne rfl e192_4))
  refine s_iaload (j := 1) (v := .int 0) rfl e192_6 (by decide) rfl (by first | rfl | decide) ?_
  have e193_6 := (f6.ne rfl o5)
  refine s_iastore (j := 1) rfl e193_6 (by decide) rfl (fun h7 o7 f7 => ?_)
  have s7 := s6.put f7
  refine q_aload_n rfl rfl ?_
  refine q_dup rfl rfl ?_
  have e191_7 := (o6.ne f7 rfl)
  refine s_get (v := .int 1) rfl e191_7 rfl rfl ?_
  refine q_iconst rfl ?_
  refine s_iadd (k := 2) rfl (by decide) ?_
  refine s_put (vs' := [.int 0, .ref 192, .ref 193, .int 2, .ref 194, .ref 195, .ref 196, .ref 197, .ref 198, .ref 199, .ref 200, .ref 201, .ref 202, .ref 203, .ref 204, .ref 205, .int (-1), .int 0, .ref 206, .ref 207, .ref 208, .ref 209, .ref 210, .ref 211, .ref 212, .ref 213, .ref 214, .ref 215, .int 0, .int 0, .int 0, .int 0, .ref 216, .ref 217, .ref 218, .ref 219, .ref 220, .int (-1), .int 0, .int 0, .int 0, .int 0, .int 0, .int 0, .ref 221, .ref 222, .ref 223, .ref 224, .int 0, .ref 225, .int 0, .ref 226, .ref 227, .int 0, .ref 228, .ref 229, .ref 230, .ref 231, .ref 232]) rfl e191_7 rfl rfl rfl rfl (fun h8 o8 f8 => ?_)
  have s8 := s7.put f8
  refine s_iinc (y := 2) (lv' := [(2, .int 2), (0, .ref 191), (1, .int 10)]) rfl rfl (by decide) (by decide) rfl ?_
  refine q_goto rfl ?_
  refine q_iload_n rfl rfl ?_
  refine q_iload_n rfl rfl ?_
  refine q_icmp_ge rfl (fun c => absurd c (by decide)) (fun _ => ?_)
  refine q_aload_n rfl rfl ?_
  refine s_get (v := .ref 193) rfl o8 rfl rfl ?_
  refine q_aload_n rfl rfl ?_
  refine s_get (v := .int 2) rfl o8 rfl rfl ?_
  refine q_aload_n rfl rfl ?_
  refine s_get (v := .ref 192) rfl o8 rfl rfl ?_
  refine q_iload_n rfl rfl ?_
  have e192_8 := (f8.ne rfl (f7.ne rfl e192_6))
  refine s_iaload (j := 2) (v := .int 0) rfl e192_8 (by decide) rfl (by first | rfl | decide) ?_
  have e193_8 := (f8.ne rfl o7)
  refine s_iastore (j := 2) rfl e193_8 (by decide) rfl (fun h9 o9 f9 => ?_)
  have s9 := s8.put f9
  refine q_aload_n rfl rfl ?_
  refine q_dup rfl rfl ?_
  have e191_9 := (o8.ne f9 rfl)
  refine s_get (v := .int 2) rfl e191_9 rfl rfl ?_
  refine q_iconst rfl ?_
  refine s_iadd (k := 3) rfl (by decide) ?_
  refine s_put (vs' := [.int 0, .ref 192, .ref 193, .int 3, .ref 194, .ref 195, .ref 196, .ref 197, .ref 198, .ref 199, .ref 200, .ref 201, .ref 202, .ref 203, .ref 204, .ref 205, .int (-1), .int 0, .ref 206, .ref 207, .ref 208, .ref 209, .ref 210, .ref 211, .ref 212, .ref 213, .ref 214, .ref 215, .int 0, .int 0, .int 0, .int 0, .ref 216, .ref 217, .ref 218, .ref 219, .ref 220, .int (-1), .int 0, .int 0, .int 0, .int 0, .int 0, .int 0, .ref 221, .ref 222, .ref 223, .ref 224, .int 0, .ref 225, .int 0, .ref 226, .ref 227, .int 0, .ref 228, .ref 229, .ref 230, .ref 231, .ref 232]) rfl e191_9 rfl rfl rfl rfl (fun h10 o10 f10 => ?_)
  have s10 := s9.put f10
  refine s_iinc (y := 3) (lv' := [(2, .int 3), (0, .ref 191), (1, .int 10)]) rfl rfl (by decide) (by decide) rfl ?_
  refine q_goto rfl ?_
  refine q_iload_n rfl rfl ?_
  refine q_iload_n rfl rfl ?_
  refine q_icmp_ge rfl (fun c => absurd c (by decide)) (fun _ => ?_)
  refine q_aload_n rfl rfl ?_
  refine s_get (v := .ref 193) rfl o10 rfl rfl ?_
  refine q_aload_n rfl rfl ?_
  refine s_get (v := .int 3) rfl o10 rfl rfl ?_
  refine q_aload_n rfl rfl ?_
  refine s_get (v := .ref 192) rfl o10 rfl rfl ?_
  refine q_iload_n rfl rfl ?_
  have e192_10 := (f10.ne rfl (f9.ne rfl e192_8))
  refine s_iaload (j := 3) (v := .int 0) rfl e192_10 (by decide) rfl (by first | rfl | decide) ?_
  have e193_10 := (f10.ne rfl o9)
  refine s_iastore (j := 3) rfl e193_10 (by decide) rfl (fun h11 o11 f11 => ?_)
  have s11 := s10.put f11
  refine q_aload_n rfl rfl ?_
  refine q_dup rfl rfl ?_
  have e191_11 := (o10.ne f11 rfl)
  refine s_get (v := .int 3) rfl e191_11 rfl rfl ?_
  refine q_iconst rfl ?_
  refine s_iadd (k := 4) rfl (by decide) ?_
  refine s_put (vs' := [.int 0, .ref 192, .ref 193, .int 4, .ref 194, .ref 195, .ref 196, .ref 197, .ref 198, .ref 199, .ref 200, .ref 201, .ref 202, .ref 203, .ref 204, .ref 205, .int (-1), .int 0, .ref 206, .ref 207, .ref 208, .ref 209, .ref 210, .ref 211, .ref 212, .ref 213, .ref 214, .ref 215, .int 0, .int 0, .int 0, .int 0, .ref 216, .ref 217, .ref 218, .ref 219, .ref 220, .int (-1), .int 0, .int 0, .int 0, .int 0, .int 0, .int 0, .ref 221, .ref 222, .ref 223, .ref 224, .int 0, .ref 225, .int 0, .ref 226, .ref 227, .int 0, .ref 228, .ref 229, .ref 230, .ref 231, .ref 232]) rfl e191_11 rfl rfl rfl rfl (fun h12 o12 f12 => ?_)
  have s12 := s11.put f12
  refine s_iinc (y := 4) (lv' := [(2, .int 4), (0, .ref 191), (1, .int 10)]) rfl rfl (by decide) (by decide) rfl ?_
  refine q_goto rfl ?_
  refine q_iload_n rfl rfl ?_
  refine q_iload_n rfl rfl ?_
  refine q_icmp_ge rfl (fun c => absurd c (by decide)) (fun _ => ?_)
  refine q_aload_n rfl rfl ?_
  refine s_get (v := .ref 193) rfl o12 rfl rfl ?_
  refine q_aload_n rfl rfl ?_
  refine s_get (v := .int 4) rfl o12 rfl rfl ?_
  refine q_aload_n rfl rfl ?_
  refine s_get (v := .ref 192) rfl o12 rfl rfl ?_
  refine q_iload_n rfl rfl ?_
  have e192_12 := (f12.ne rfl (f11.ne rfl e192_10))
  refine s_iaload (j := 4) (v := .int 0) rfl e192_12 (by decide) rfl (by first | rfl | decide) ?_
  have e193_12 := (f12.ne rfl o11)
  refine s_iastore (j := 4) rfl e193_12 (by decide) rfl (fun h13 o13 f13 => ?_)
  have s13 := s12.put f13
  refine q_aload_n rfl rfl ?_
  refine q_dup rfl rfl ?_
  have e191_13 := (o12.ne f13 rfl)
  refine s_get (v := .int 4) rfl e191_13 rfl rfl ?_
  refine q_iconst rfl ?_
  refine s_iadd (k := 5) rfl (by decide) ?_
  refine s_put (vs' := [.int 0, .ref 192, .ref 193, .int 5, .ref 194, .ref 195, .ref 196, .ref 197, .ref 198, .ref 199, .ref 200, .ref 201, .ref 202, .ref 203, .ref 204, .ref 205, .int (-1), .int 0, .ref 206, .ref 207, .ref 208, .ref 209, .ref 210, .ref 211, .ref 212, .ref 213, .ref 214, .ref 215, .int 0, .int 0, .int 0, .int 0, .ref 216, .ref 217, .ref 218, .ref 219, .ref 220, .int (-1), .int 0, .int 0, .int 0, .int 0, .int 0, .int 0, .ref 221, .ref 222, .ref 223, .ref 224, .int 0, .ref 225, .int 0, .ref 226, .ref 227, .int 0, .ref 228, .ref 229, .ref 230, .ref 231, .ref 232]) rfl e191_13 rfl rfl rfl rfl (fun h14 o14 f14 => ?_)
  have s14 := s13.put f14
  refine s_iinc (y := 5) (lv' := [(2, .int 5), (0, .ref 191), (1, .int 10)]) rfl rfl (by decide) (by decide) rfl ?_
  refine q_goto rfl ?_
  refine q_iload_n rfl rfl ?_
  refine q_iload_n rfl rfl ?_
  refine q_icmp_ge rfl (fun c => absurd c (by decide)) (fun _ => ?_)
  refine q_aload_n rfl rfl ?_
  refine s_get (v := .ref 193) rfl o14 rfl rfl ?_
  refine q_aload_n rfl rfl ?_
  refine s_get (v := .int 5) rfl o14 rfl rfl ?_
  refine q_aload_n rfl rfl ?_
  refine s_get (v := .ref 192) rfl o14 rfl rfl ?_
  refine q_iload_n rfl rfl ?_
  have e192_14 := (f14.ne rfl (f13.ne rfl e192_12))
  refine s_iaload (j := 5) (v := .int 0) rfl e192_14 (by decide) rfl (by first | rfl | decide) ?_
  have e193_14 := (f14.ne rfl o13)
  refine s_iastore (j := 5) rfl e193_14 (by decide) rfl (fun h15 o15 f15 => ?_)
  have s15 := s14.put f15
  refine q_aload_n rfl rfl ?_
  refine q_dup rfl rfl ?_
  have e191_15 := (o14.ne f15 rfl)
  refine s_get (v := .int 5) rfl e191_15 rfl rfl ?_
  refine q_iconst rfl ?_
  refine s_iadd (k := 6) rfl (by decide) ?_
  refine s_put (vs' := [.int 0, .ref 192, .ref 193, .int 6, .ref 194, .ref 195, .ref 196, .ref 197, .ref 198, .ref 199, .ref 200, .ref 201, .ref 202, .ref 203, .ref 204, .ref 205, .int (-1), .int 0, .ref 206, .ref 207, .ref 208, .ref 209, .ref 210, .ref 211, .ref 212, .ref 213, .ref 214, .ref 215, .int 0, .int 0, .int 0, .int 0, .ref 216, .ref 217, .ref 218, .ref 219, .ref 220, .int (-1), .int 0, .int 0, .int 0, .int 0, .int 0, .int 0, .ref 221, .ref 222, .ref 223, .ref 224, .int 0, .ref 225, .int 0, .ref 226, .ref 227, .int 0, .ref 228, .ref 229, .ref 230, .ref 231, .ref 232]) rfl e191_15 rfl rfl rfl rfl (fun h16 o16 f16 => ?_)
  have s16 := s15.put f16
  refine s_iinc (y := 6) (lv' := [(2, .int 6), (0, .ref 191), (1, .int 10)]) rfl rfl (by decide) (by decide) rfl ?_
  refine q_goto rfl ?_
  refine q_iload_n rfl rfl ?_
  refine q_iload_n rfl rfl ?_
  refine q_icmp_ge rfl (fun c => absurd c (by decide)) (fun _ => ?_)
  refine q_aload_n rfl rfl ?_
  refine s_get (v := .ref 193) rfl o16 rfl rfl ?_
  refine q_aload_n rfl rfl ?_
  refine s_get (v := .int 6) rfl o16 rfl rfl ?_
  refine q_aload_n rfl rfl ?_
  refine s_get (v := .ref 192) rfl o16 rfl rfl ?_
  refine q_iload_n rfl rfl ?_
  have e192_16 := (f16.ne rfl (f15.ne rfl e192_14))
  refine s_iaload (j := 6) (v := .int 0) rfl e192_16 (by decide) rfl (by first | rfl | decide) ?_
  have e193_16 := (f16.ne rfl o15)
  refine s_iastore (j := 6) rfl e193_16 (by decide) rfl (fun h17 o17 f17 => ?_)
  have s17 := s16.put f17
  refine q_aload_n rfl rfl ?_
  refine q_dup rfl rfl ?_
  have e191_17 := (o16.ne f17 rfl)
  refine s_get (v := .int 6) rfl e191_17 rfl rfl ?_
  refine q_iconst rfl ?_
  refine s_iadd (k := 7) rfl (by decide) ?_
  refine s_put (vs' := [.int 0, .ref 192, .ref 193, .int 7, .ref 194, .ref 195, .ref 196, .ref 197, .ref 198, .ref 199, .ref 200, .ref 201, .ref 202, .ref 203, .ref 204, .ref 205, .int (-1), .int 0, .ref 206, .ref 207, .ref 208, .ref 209, .ref 210, .ref 211, .ref 212, .ref 213, .ref 214, .ref 215, .int 0, .int 0, .int 0, .int 0, .ref 216, .ref 217, .ref 218, .ref 219, .ref 220, .int (-1), .int 0, .int 0, .int 0, .int 0, .int 0, .int 0, .ref 221, .ref 222, .ref 223, .ref 224, .int 0, .ref 225, .int 0, .ref 226, .ref 227, .int 0, .ref 228, .ref 229, .ref 230, .ref 231, .ref 232]) rfl e191_17 rfl rfl rfl rfl (fun h18 o18 f18 => ?_)
  have s18 := s17.put f18
  refine s_iinc (y := 7) (lv' := [(2, .int 7), (0, .ref 191), (1, .int 10)]) rfl rfl (by decide) (by decide) rfl ?_
  refine q_goto rfl ?_
  refine q_iload_n rfl rfl ?_
  refine q_iload_n rfl rfl ?_
  refine q_icmp_ge rfl (fun c => absurd c (by decide)) (fun _ => ?_)
  refine q_aload_n rfl rfl ?_
  refine s_get (v := .ref 193) rfl o18 rfl rfl ?_
  refine q_aload_n rfl rfl ?_
  refine s_get (v := .int 7) rfl o18 rfl rfl ?_
  refine q_aload_n rfl rfl ?_
  refine s_get (v := .ref 192) rfl o18 rfl rfl ?_
  refine q_iload_n rfl rfl ?_
  have e192_18 := (f18.ne rfl (f17.ne rfl e192_16))
  refine s_iaload (j := 7) (v := .int 0) rfl e192_18 (by decide) rfl (by first | rfl | decide) ?_
  have e193_18 := (f18.ne rfl o17)
  refine s_iastore (j := 7) rfl e193_18 (by decide) rfl (fun h19 o19 f19 => ?_)
  have s19 := s18.put f19
  refine q_aload_n rfl rfl ?_
  refine q_dup rfl rfl ?_
  have e191_19 := (o18.ne f19 rfl)
  refine s_get (v := .int 7) rfl e191_19 rfl rfl ?_
  refine q_iconst rfl ?_
  refine s_iadd (k := 8) rfl (by decide) ?_
  refine s_put (vs' := [.int 0, .ref 192, .ref 193, .int 8, .ref 194, .ref 195, .ref 196, .ref 197, .ref 198, .ref 199, .ref 200, .ref 201, .ref 202, .ref 203, .ref 204, .ref 205, .int (-1), .int 0, .ref 206, .ref 207, .ref 208, .ref 209, .ref 210, .ref 211, .ref 212, .ref 213, .ref 214, .ref 215, .int 0, .int 0, .int 0, .int 0, .ref 216, .ref 217, .ref 218, .ref 219, .ref 220, .int (-1), .int 0, .int 0, .int 0, .int 0, .int 0, .int 0, .ref 221, .ref 222, .ref 223, .ref 224, .int 0, .ref 225, .int 0, .ref 226, .ref 227, .int 0, .ref 228, .ref 229, .ref 230, .ref 231, .ref 232]) rfl e191_19 rfl rfl rfl rfl (fun h20 o20 f20 => ?_)
  have s20 := s19.put f20
  refine s_iinc (y := 8) (lv' := [(2, .int 8), (0, .ref 191), (1, .int 10)]) rfl rfl (by decide) (by decide) rfl ?_
  refine q_goto rfl ?_
  refine q_iload_n rfl rfl ?_
  refine q_iload_n rfl rfl ?_
  refine q_icmp_ge rfl (fun c => absurd c (by decide)) (fun _ => ?_)
  refine q_aload_n rfl rfl ?_
  refine s_get (v := .ref 193) rfl o20 rfl rfl ?_
  refine q_aload_n rfl rfl ?_
  refine s_get (v := .int 8) rfl o20 rfl rfl ?_
  refine q_aload_n rfl rfl ?_
  refine s_get (v := .ref 192) rfl o20 rfl rfl ?_
  refine q_iload_n rfl rfl ?_
  have e192_20 := (f20.ne rfl (f19.ne rfl e192_18))
  refine s_iaload (j := 8) (v := .int 0) rfl e192_20 (by decide) rfl (by first | rfl | decide) ?_
  have e193_20 := (f20.ne rfl o19)
  refine s_iastore (j := 8) rfl e193_20 (by decide) rfl (fun h21 o21 f21 => ?_)
  have s21 := s20.put f21
  refine q_aload_n rfl rfl ?_
  refine q_dup rfl rfl ?_
  have e191_21 := (o20.ne f21 rfl)
  refine s_get (v := .int 8) rfl e191_21 rfl rfl ?_
  refine q_iconst rfl ?_
  refine s_iadd (k := 9) rfl (by decide) ?_
  refine s_put (vs' := [.int 0, .ref 192, .ref 193, .int 9, .ref 194, .ref 195, .ref 196, .ref 197, .ref 198, .ref 199, .ref 200, .ref 201, .ref 202, .ref 203, .ref 204, .ref 205, .int (-1), .int 0, .ref 206, .ref 207, .ref 208, .ref 209, .ref 210, .ref 211, .ref 212, .ref 213, .ref 214, .ref 215, .int 0, .int 0, .int 0, .int 0, .ref 216, .ref 217, .ref 218, .ref 219, .ref 220, .int (-1), .int 0, .int 0, .int 0, .int 0, .int 0, .int 0, .ref 221, .ref 222, .ref 223, .ref 224, .int 0, .ref 225, .int 0, .ref 226, .ref 227, .int 0, .ref 228, .ref 229, .ref 230, .ref 231, .ref 232]) rfl e191_21 rfl rfl rfl rfl (fun h22 o22 f22 => ?_)
  have s22 := s21.put f22
  refine s_iinc (y := 9) (lv' := [(2, .int 9), (0, .ref 191), (1, .int 10)]) rfl rfl (by decide) (by decide) rfl ?_
  refine q_goto rfl ?_
  refine q_iload_n rfl rfl ?_
  refine q_iload_n rfl rfl ?_
  refine q_icmp_ge rfl (fun c => absurd c (by decide)) (fun _ => ?_)
  refine q_aload_n rfl rfl ?_
  refine s_get (v := .ref 193) rfl o22 rfl rfl ?_
  refine q_aload_n rfl rfl ?_
  refine s_get (v := .int 9) rfl o22 rfl rfl ?_
  refine q_aload_n rfl rfl ?_
  refine s_get (v := .ref 192) rfl o22 rfl rfl ?_
  refine q_iload_n rfl rfl ?_
  have e192_22 := (f22.ne rfl (f21.ne rfl e192_20))
  refine s_iaload (j := 9) (v := .int 0) rfl e192_22 (by decide) rfl (by first | rfl | decide) ?_
  have e193_22 := (f22.ne rfl o21)
  refine s_iastore (j := 9) rfl e193_22 (by decide) rfl (fun h23 o23 f23 => ?_)
  have s23 := s22.put f23
  refine q_aload_n rfl rfl ?_
  refine q_dup rfl rfl ?_
  have e191_23 := (o22.ne f23 rfl)
  refine s_get (v := .int 9) rfl e191_23 rfl rfl ?_
  refine q_iconst rfl ?_
  refine s_iadd (k := 10) rfl (by decide) ?_
  refine s_put (vs' := [.int 0, .ref 192, .ref 193, .int 10, .ref 194, .ref 195, .ref 196, .ref 197, .ref 198, .ref 199, .ref 200, .ref 201, .ref 202, .ref 203, .ref 204, .ref 205, .int (-1), .int 0, .ref 206, .ref 207, .ref 208, .ref 209, .ref 210, .ref 211, .ref 212, .ref 213, .ref 214, .ref 215, .int 0, .int 0, .int 0, .int 0, .ref 216, .ref 217, .ref 218, .ref 219, .ref 220, .int (-1), .int 0, .int 0, .int 0, .int 0, .int 0, .int 0, .ref 221, .ref 222, .ref 223, .ref 224, .int 0, .ref 225, .int 0, .ref 226, .ref 227, .int 0, .ref 228, .ref 229, .ref 230, .ref 231, .ref 232]) rfl e191_23 rfl rfl rfl rfl (fun h24 o24 f24 => ?_)
  have s24 := s23.put f24
  refine s_iinc (y := 10) (lv' := [(2, .int 10), (0, .ref 191), (1, .int 10)]) rfl rfl (by decide) (by decide) rfl ?_
  refine q_goto rfl ?_
  refine q_iload_n rfl rfl ?_
  refine q_iload_n rfl rfl ?_
  refine q_icmp_ge rfl (fun _ => ?_) (fun c => absurd (by decide) c)
  refine q_iconst rfl ?_
  refine s_istore_n (lv' := [(2, .int 0), (0, .ref 191), (1, .int 10)]) rfl (by decide) rfl ?_
  have e192_24 := (f24.ne rfl (f23.ne rfl e192_22))
  refine en_loop (m := 191) (a := 192) rfl rfl (by decide) (by decide) 20 0 h24 _ rfl o24 e192_24 (fun h25 f25 => ?_)
  have s25 := s24.put f25
  show aW aiP 217 16 636 88 [(2, .int 20), (0, .ref 191), (1, .int 10)] [] h25 _
  refine q_aload_n rfl rfl ?_
  have e191_25 := (o24.ne f25 rfl)
  refine s_get (v := .int 10) rfl e191_25 rfl rfl ?_
  refine q_ireturn rfl rfl ?_
  show aW aiP 0 17 658 243 [(4, .int 0), (3, .ref 233), (2, .ref 191), (1, .ref 6), (0, .ref 0)] [.int 10, .int 10] h25 _
  refine q_icmp_eq rfl (fun _ => ?_) (fun c => absurd (by decide) c)
  refine s_iinc (y := 6) (lv' := [(4, .int 6), (3, .ref 233), (2, .ref 191), (1, .ref 6), (0, .ref 0)]) rfl rfl (by decide) (by decide) rfl ?_
  refine q_goto rfl ?_
  refine q_iload rfl rfl ?_
  refine q_aload_n rfl rfl ?_
  have e0_25 := (f25.ne rfl (f24.ne rfl (f23.ne rfl (f22.ne rfl (f21.ne rfl (f20.ne rfl (f19.ne rfl (f18.ne rfl (f17.ne rfl (f16.ne rfl (f15.ne rfl (f14.ne rfl (f13.ne rfl (f12.ne rfl (f11.ne rfl (f10.ne rfl (f9.ne rfl (f8.ne rfl (f7.ne rfl (f6.ne rfl (f5.ne rfl (f4.ne rfl e0_3))))))))))))))))))))))
  refine s_alen (x := 6) rfl e0_25 rfl (by decide) ?_
  refine q_bipush rfl ?_
  refine s_isub (k := 0) rfl (by decide) ?_
  refine q_icmp_gt rfl (fun _ => ?_) (fun c => absurd (by decide) c)
  refine q_iconst rfl ?_
  refine q_ireturn rfl rfl ?_
  exact ⟨rfl, s25.bd rfl⟩
set_option maxRecDepth 20000 in
set_option maxHeartbeats 4000000 in
theorem p_case1_11 {xs : Nat → Int32} {h : ai_H} (F : Fresh 6 xs h) (hk : xs 0 &&& 31 = 1) (hw : xs 1 = 11) : aW aiP 0 17 658 33 [(4, .int 0), (3, .ref 233), (2, .ref 191), (1, .ref 6), (0, .ref 0)] [] h p_Q := by
  have s0 := F.2.2.2.2.2.2.2.2.2.2.2.2.2.2.2.2.2.2.2.2.2.2.2.2.2.2.2.2.2.2.2.2.2.2.2.2.2.2.2.2.2.2.2.2.2.2.2.2.2.2.2.2.2.2.2.2.2.2.2.2.2.2.2.2.2.2.2.2.2.2
  refine q_aload_n rfl rfl ?_
  refine q_iload rfl rfl ?_
  have e0 := F.1
  refine s_iaload (j := 0) (v := .int (xs 0)) rfl e0 (by decide) rfl (by first | rfl | decide) ?_
  refine q_bipush rfl ?_
  refine s_iand (k := ((xs 0) &&& (31 : Int32))) rfl rfl ?_
  rw [hk]
  show aW aiP 0 17 658 40 [(4, .int 0), (3, .ref 233), (2, .ref 191), (1, .ref 6), (0, .ref 0)] [.int 1] h _
  refine s_sw (tg := 223) rfl rfl ?_
  refine q_aload_n rfl rfl ?_
  refine q_aload_n rfl rfl ?_
  refine q_iload rfl rfl ?_
  refine q_iconst rfl ?_
  refine s_iadd (k := 1) rfl (by decide) ?_
  refine s_iaload (j := 1) (v := .int (xs 1)) rfl e0 (by decide) rfl (by first | rfl | decide) ?_
  rw [hw]
  have e6 := F.2.2.2.2.2.2.1
  refine s_callV (as := [.int 11]) (rest := []) (d' := 16) (w' := 637) (lv' := [(0, .ref 6), (1, .int 11)]) rfl e6 rfl rfl rfl rfl rfl rfl ?_
  refine q_iload_n rfl rfl ?_
  refine q_if_lt rfl (fun c => absurd c (by decide)) (fun _ => ?_)
  refine q_iload_n rfl rfl ?_
  refine q_bipush rfl ?_
  refine q_icmp_gt rfl (fun c => absurd c (by decide)) (fun _ => ?_)
  refine q_aload_n rfl rfl ?_
  refine s_get (v := .int 0) rfl e6 rfl rfl ?_
  refine q_iload_n rfl rfl ?_
  refine s_iadd (k := 11) rfl (by decide) ?_
  refine q_sipush rfl ?_
  refine q_icmp_le rfl (fun _ => ?_) (fun c => absurd (by decide) c)
  refine q_aload_n rfl rfl ?_
  refine s_get (v := .ref 7) rfl e6 rfl rfl ?_
  refine q_iconst rfl ?_
  refine q_aload_n rfl rfl ?_
  refine s_get (v := .ref 8) rfl e6 rfl rfl ?_
  refine q_aload_n rfl rfl ?_
  refine s_get (v := .int 0) rfl e6 rfl rfl ?_
  refine q_iload_n rfl rfl ?_
  have e7 := F.2.2.2.2.2.2.2.1
  have e8 := F.2.2.2.2.2.2.2.2.1
  refine s_copy (sp := 0) (dp := 0) (k := 11) rfl e7 e8 (by decide) (by decide) (by decide) rfl (by decide) (by decide) (by decide) (fun i _ => rfl) (fun h1 o1 f1 => ?_)
  have s1 := s0.put f1
  refine q_aload_n rfl rfl ?_
  refine q_dup rfl rfl ?_
  have e6_1 := (e6.ne f1 rfl)
  refine s_get (v := .int 0) rfl e6_1 rfl rfl ?_
  refine q_iload_n rfl rfl ?_
  refine s_iadd (k := 11) rfl (by decide) ?_
  refine s_put (vs' := [.ref 7, .ref 8, .int 11, .ref 9, .int (-1), .ref 51, .ref 93, .ref 135, .ref 177, .ref 180, .int 0, .ref 183, .ref 186, .ref 189]) rfl e6_1 rfl rfl rfl rfl (fun h2 o2 f2 => ?_)
  have s2 := s1.put f2
  refine q_aload_n rfl rfl ?_
  refine s_get (v := .ref 7) rfl o2 rfl rfl ?_
  refine q_iconst rfl ?_
  refine s_callS (as := [.ref 7, .int 0]) (rest := []) (d' := 15) (w' := 614) (lv' := [(0, .ref 7), (1, .int 0)]) rfl rfl rfl rfl rfl rfl rfl rfl ?_
  refine q_iconst rfl ?_
  refine s_istore_n (lv' := [(2, .int 0), (0, .ref 7), (1, .int 0)]) rfl (by decide) rfl ?_
  refine q_aload_n rfl rfl ?_
  have e7_2 := (f2.ne rfl (f1.ne rfl e7))
  refine s_alen (x := 20) rfl e7_2 rfl (by decide) ?_
  refine s_istore_n (lv' := [(3, .int 20), (2, .int 0), (0, .ref 7), (1, .int 0)]) rfl (by decide) rfl ?_
  refine aW_lv (l := [(2, .int (nI 0)), (3, .int 20), (0, .ref 7), (1, .int 0)]) ?_ rfl rfl (by repeat' (first | exact inL_n | refine inL_c rfl ?_))
  refine fi_loop (a := 7) (by decide) 20 0 h2 _ rfl e7_2 (fun h3 f3 => ?_)
  have s3 := s2.put f3
  show aW aiP 15 16 637 59 [(0, .ref 6), (1, .int 11)] [] h3 _
  refine q_aload_n rfl rfl ?_
  have e6_3 := (o2.ne f3 rfl)
  refine s_get (v := .int 11) rfl e6_3 rfl rfl ?_
  refine q_ireturn rfl rfl ?_
  show aW aiP 0 17 658 233 [(4, .int 0), (3, .ref 233), (2, .ref 191), (1, .ref 6), (0, .ref 0)] [.int 11] h3 _
  refine q_aload_n rfl rfl ?_
  refine q_aload_n rfl rfl ?_
  refine q_iload rfl rfl ?_
  refine q_iconst rfl ?_
  refine s_iadd (k := 1) rfl (by decide) ?_
  have e0_3 := (f3.ne rfl (f2.ne rfl (f1.ne rfl e0)))
  refine s_iaload (j := 1) (v := .int (xs 1)) rfl e0_3 (by decide) rfl (by first | rfl | decide) ?_
  rw [hw]
  have e191 := F.2.2.2.2.2.2.2.2.2.2.2.2.2.2.2.2.2.2.2.2.2.2.2.2.2.2.2.1
  have e191_3 := (((e191.ne f1 rfl).ne f2 rfl).ne f3 rfl)
  refine s_callV (as := [.int 11]) (rest := [.int 11]) (d' := 16) (w' := 636) (lv' := [(0, .ref 191), (1, .int 11)]) rfl e191_3 rfl rfl rfl rfl rfl rfl ?_
  refine q_aload_n rfl rfl ?_
  refine q_iconst rfl ?_
  refine s_put (vs' := [.int 0, .ref 192, .ref 193, .int 0, .ref 194, .ref 195, .ref 196, .ref 197, .ref 198, .ref 199, .ref 200, .ref 201, .ref 202, .ref 203, .ref 204, .ref 205, .int (-1), .int 0, .ref 206, .ref 207, .ref 208, .ref 209, .ref 210, .ref 211, .ref 212, .ref 213, .ref 214, .ref 215, .int 0, .int 0, .int 0, .int 0, .ref 216, .ref 217, .ref 218, .ref 219, .ref 220, .int (-1), .int 0, .int 0, .int 0, .int 0, .int 0, .int 0, .ref 221, .ref 222, .ref 223, .ref 224, .int 0, .ref 225, .int 0, .ref 226, .ref 227, .int 0, .ref 228, .ref 229, .ref 230, .ref 231, .ref 232]) rfl e191_3 rfl rfl rfl rfl (fun h4 o4 f4 => ?_)
  have s4 := s3.put f4
  refine q_iload_n rfl rfl ?_
  refine q_if_lt rfl (fun c => absurd c (by decide)) (fun _ => ?_)
  refine q_iload_n rfl rfl ?_
  refine q_bipush rfl ?_
  refine q_icmp_gt rfl (fun c => absurd c (by decide)) (fun _ => ?_)
  refine q_aload_n rfl rfl ?_
  refine s_get (v := .int 0) rfl o4 rfl rfl ?_
  refine q_iload_n rfl rfl ?_
  refine s_iadd (k := 11) rfl (by decide) ?_
  refine q_sipush rfl ?_
  refine q_icmp_le rfl (fun _ => ?_) (fun c => absurd (by decide) c)
  refine q_iconst rfl ?_
  refine s_istore_n (lv' := [(2, .int 0), (0, .ref 191), (1, .int 11)]) rfl (by decide) rfl ?_
  refine q_iload_n rfl rfl ?_
  refine q_iload_n rfl rfl ?_
  refine q_icmp_ge rfl (fun c => absurd c (by decide)) (fun _ => ?_)
  refine q_aload_n rfl rfl ?_
  refine s_get (v := .ref 193) rfl o4 rfl rfl ?_
  refine q_aload_n rfl rfl ?_
  refine s_get (v := .int 0) rfl o4 rfl rfl ?_
  refine q_aload_n rfl rfl ?_
  refine s_get (v := .ref 192) rfl o4 rfl rfl ?_
  refine q_iload_n rfl rfl ?_
  have e192 := F.2.2.2.2.2.2.2.2.2.2.2.2.2.2.2.2.2.2.2.2.2.2.2.2.2.2.2.2.1
  have e192_4 := (f4.ne rfl (f3.ne rfl (f2.ne rfl (f1.ne rfl e192))))
  refine s_iaload (j := 0) (v := .int 0) rfl e192_4 (by decide) rfl (by first | rfl | decide) ?_
  have e193 := F.2.2.2.2.2.2.2.2.2.2.2.2.2.2.2.2.2.2.2.2.2.2.2.2.2.2.2.2.2.1
  have e193_4 := (f4.ne rfl (f3.ne rfl (f2.ne rfl (f1.ne rfl e193))))
  refine s_iastore (j := 0) rfl e193_4 (by decide) rfl (fun h5 o5 f5 => ?_)
  have s5 := s4.put f5
  refine q_aload_n rfl rfl ?_
  refine q_dup rfl rfl ?_
  have e191_5 := (o4.ne f5 rfl)
  refine s_get (v := .int 0) rfl e191_5 rfl rfl ?_
  refine q_iconst rfl ?_
  refine s_iadd (k := 1) rfl (by decide) ?_
  refine s_put (vs' := [.int 0, .ref 192, .ref 193, .int 1, .ref 194, .ref 195, .ref 196, .ref 197, .ref 198, .ref 199, .ref 200, .ref 201, .ref 202, .ref 203, .ref 204, .ref 205, .int (-1), .int 0, .ref 206, .ref 207, .ref 208, .ref 209, .ref 210, .ref 211, .ref 212, .ref 213, .ref 214, .ref 215, .int 0, .int 0, .int 0, .int 0, .ref 216, .ref 217, .ref 218, .ref 219, .ref 220, .int (-1), .int 0, .int 0, .int 0, .int 0, .int 0, .int 0, .ref 221, .ref 222, .ref 223, .ref 224, .int 0, .ref 225, .int 0, .ref 226, .ref 227, .int 0, .ref 228, .ref 229, .ref 230, .ref 231, .ref 232]) rfl e191_5 rfl rfl rfl rfl (fun h6 o6 f6 => ?_)
  have s6 := s5.put f6
  refine s_iinc (y := 1) (lv' := [(2, .int 1), (0, .ref 191), (1, .int 11)]) rfl rfl (by decide) (by decide) rfl ?_
  refine q_goto rfl ?_
  refine q_iload_n rfl rfl ?_
  refine q_iload_n rfl rfl ?_
  refine q_icmp_ge rfl (fun c => absurd c (by decide)) (fun _ => ?_)
  refine q_aload_n rfl rfl ?_
  refine s_get (v := .ref 193) rfl o6 rfl rfl ?_
  refine q_aload_n rfl rfl ?_
  refine s_get (v := .int 1) rfl o6 rfl rfl ?_
  refine q_aload_n rfl rfl ?_
  refine s_get (v := .ref 192) rfl o6 rfl rfl ?_
  refine q_iload_n rfl rfl ?_
  have e192_6 := (f6.ne rfl (f5.ne rfl e192_4))
  refine s_iaload (j := 1) (v := .int 0) rfl e192_6 (by decide) rfl (by first | rfl | decide) ?_
  have e193_6 := (f6.ne rfl o5)
  refine s_iastore (j := 1) rfl e193_6 (by decide) rfl (fun h7 o7 f7 => ?_)
  have s7 := s6.put f7
  refine q_aload_n rfl rfl ?_
  refine q_dup rfl rfl ?_
  have e191_7 := (o6.ne f7 rfl)
  refine s_get (v := .int 1) rfl e191_7 rfl rfl ?_
  refine q_iconst rfl ?_
  refine s_iadd (k := 2) rfl (by decide) ?_
  refine s_put (vs' := [.int 0, .ref 192, .ref 193, .int 2, .ref 194, .ref 195, .ref 196, .ref 197, .ref 198, .ref 199, .ref 200, .ref 201, .ref 202, .ref 203, .ref 204, .ref 205, .int (-1), .int 0, .ref 206, .ref 207, .ref 208, .ref 209, .ref 210, .ref 211, .ref 212, .ref 213, .ref 214, .ref 215, .int 0, .int 0, .int 0, .int 0, .ref 216, .ref 217, .ref 218, .ref 219, .ref 220, .int (-1), .int 0, .int 0, .int 0, .int 0, .int 0, .int 0, .ref 221, .ref 222, .ref 223, .ref 224, .int 0, .ref 225, .int 0, .ref 226, .ref 227, .int 0, .ref 228, .ref 229, .ref 230, .ref 231, .ref 232]) rfl e191_7 rfl rfl rfl rfl (fun h8 o8 f8 => ?_)
  have s8 := s7.put f8
  refine s_iinc (y := 2) (lv' := [(2, .int 2), (0, .ref 191), (1, .int 11)]) rfl rfl (by decide) (by decide) rfl ?_
  refine q_goto rfl ?_
  refine q_iload_n rfl rfl ?_
  refine q_iload_n rfl rfl ?_
  refine q_icmp_ge rfl (fun c => absurd c (by decide)) (fun _ => ?_)
  refine q_aload_n rfl rfl ?_
  refine s_get (v := .ref 193) rfl o8 rfl rfl ?_
  refine q_aload_n rfl rfl ?_
  refine s_get (v := .int 2) rfl o8 rfl rfl ?_
  refine q_aload_n rfl rfl ?_
  refine s_get (v := .ref 192) rfl o8 rfl rfl ?_
  refine q_iload_n rfl rfl ?_
  have e192_8 := (f8.ne rfl (f7.ne rfl e192_6))
  refine s_iaload (j := 2) (v := .int 0) rfl e192_8 (by decide) rfl (by first | rfl | decide) ?_
  have e193_8 := (f8.ne rfl o7)
  refine s_iastore (j := 2) rfl e193_8 (by decide) rfl (fun h9 o9 f9 => ?_)
  have s9 := s8.put f9
  refine q_aload_n rfl rfl ?_
  refine q_dup rfl rfl ?_
  have e191_9 := (o8.ne f9 rfl)
  refine s_get (v := .int 2) rfl e191_9 rfl rfl ?_
  refine q_iconst rfl ?_
  refine s_iadd (k := 3) rfl (by decide) ?_
  refine s_put (vs' := [.int 0, .ref 192, .ref 193, .int 3, .ref 194, .ref 195, .ref 196, .ref 197, .ref 198, .ref 199, .ref 200, .ref 201, .ref 202, .ref 203, .ref 204, .ref 205, .int (-1), .int 0, .ref 206, .ref 207, .ref 208, .ref 209, .ref 210, .ref 211, .ref 212, .ref 213, .ref 214, .ref 215, .int 0, .int 0, .int 0, .int 0, .ref 216, .ref 217, .ref 218, .ref 219, .ref 220, .int (-1), .int 0, .int 0, .int 0, .int 0, .int 0, .int 0, .ref 221, .ref 222, .ref 223, .ref 224, .int 0, .ref 225, .int 0, .ref 226, .ref 227, .int 0, .ref 228, .ref 229, .ref 230, .ref 231, .ref 232]) rfl e191_9 rfl rfl rfl rfl (fun h10 o10 f10 => ?_)
  have s10 := s9.put f10
  refine s_iinc (y := 3) (lv' := [(2, .int 3), (0, .ref 191), (1, .int 11)]) rfl rfl (by decide) (by decide) rfl ?_
  refine q_goto rfl ?_
  refine q_iload_n rfl rfl ?_
  refine q_iload_n rfl rfl ?_
  refine q_icmp_ge rfl (fun c => absurd c (by decide)) (fun _ => ?_)
  refine q_aload_n rfl rfl ?_
  refine s_get (v := .ref 193) rfl o10 rfl rfl ?_
  refine q_aload_n rfl rfl ?_
  refine s_get (v := .int 3) rfl o10 rfl rfl ?_
  refine q_aload_n rfl rfl ?_
  refine s_get (v := .ref 192) rfl o10 rfl rfl ?_
  refine q_iload_n rfl rfl ?_
  have e192_10 := (f10.ne rfl (f9.ne rfl e192_8))
  refine s_iaload (j := 3) (v := .int 0) rfl e192_10 (by decide) rfl (by first | rfl | decide) ?_
  have e193_10 := (f10.ne rfl o9)
  refine s_iastore (j := 3) rfl e193_10 (by decide) rfl (fun h11 o11 f11 => ?_)
  have s11 := s10.put f11
  refine q_aload_n rfl rfl ?_
  refine q_dup rfl rfl ?_
  have e191_11 := (o10.ne f11 rfl)
  refine s_get (v := .int 3) rfl e191_11 rfl rfl ?_
  refine q_iconst rfl ?_
  refine s_iadd (k := 4) rfl (by decide) ?_
  refine s_put (vs' := [.int 0, .ref 192, .ref 193, .int 4, .ref 194, .ref 195, .ref 196, .ref 197, .ref 198, .ref 199, .ref 200, .ref 201, .ref 202, .ref 203, .ref 204, .ref 205, .int (-1), .int 0, .ref 206, .ref 207, .ref 208, .ref 209, .ref 210, .ref 211, .ref 212, .ref 213, .ref 214, .ref 215, .int 0, .int 0, .int 0, .int 0, .ref 216, .ref 217, .ref 218, .ref 219, .ref 220, .int (-1), .int 0, .int 0, .int 0, .int 0, .int 0, .int 0, .ref 221, .ref 222, .ref 223, .ref 224, .int 0, .ref 225, .int 0, .ref 226, .ref 227, .int 0, .ref 228, .ref 229, .ref 230, .ref 231, .ref 232]) rfl e191_11 rfl rfl rfl rfl (fun h12 o12 f12 => ?_)
  have s12 := s11.put f12
  refine s_iinc (y := 4) (lv' := [(2, .int 4), (0, .ref 191), (1, .int 11)]) rfl rfl (by decide) (by decide) rfl ?_
  refine q_goto rfl ?_
  refine q_iload_n rfl rfl ?_
  refine q_iload_n rfl rfl ?_
  refine q_icmp_ge rfl (fun c => absurd c (by decide)) (fun _ => ?_)
  refine q_aload_n rfl rfl ?_
  refine s_get (v := .ref 193) rfl o12 rfl rfl ?_
  refine q_aload_n rfl rfl ?_
  refine s_get (v := .int 4) rfl o12 rfl rfl ?_
  refine q_aload_n rfl rfl ?_
  refine s_get (v := .ref 192) rfl o12 rfl rfl ?_
  refine q_iload_n rfl rfl ?_
  have e192_12 := (f12.ne rfl (f11.ne rfl e192_10))
  refine s_iaload (j := 4) (v := .int 0) rfl e192_12 (by decide) rfl (by first | rfl | decide) ?_
  have e193_12 := (f12.ne rfl o11)
  refine s_iastore (j := 4) rfl e193_12 (by decide) rfl (fun h13 o13 f13 => ?_)
  have s13 := s12.put f13
  refine q_aload_n rfl rfl ?_
  refine q_dup rfl rfl ?_
  have e191_13 := (o12.ne f13 rfl)
  refine s_get (v := .int 4) rfl e191_13 rfl rfl ?_
  refine q_iconst rfl ?_
  refine s_iadd (k := 5) rfl (by decide) ?_
  refine s_put (vs' := [.int 0, .ref 192, .ref 193, .int 5, .ref 194, .ref 195, .ref 196, .ref 197, .ref 198, .ref 199, .ref 200, .ref 201, .ref 202, .ref 203, .ref 204, .ref 205, .int (-1), .int 0, .ref 206, .ref 207, .ref 208, .ref 209, .ref 210, .ref 211, .ref 212, .ref 213, .ref 214, .ref 215, .int 0, .int 0, .int 0, .int 0, .ref 216, .ref 217, .ref 218, .ref 219, .ref 220, .int (-1), .int 0, .int 0, .int 0, .int 0, .int 0, .int 0, .ref 221, .ref 222, .ref 223, .ref 224, .int 0, .ref 225, .int 0, .ref 226, .ref 227, .int 0, .ref 228, .ref 229, .ref 230, .ref 231, .ref 232]) rfl e191_13 rfl rfl rfl rfl (fun h14 o14 f14 => ?_)
  have s14 := s13.put f14
  refine s_iinc (y := 5) (lv' := [(2, .int 5), (0, .ref 191), (1, .int 11)]) rfl rfl (by decide) (by decide) rfl ?_
  refine q_goto rfl ?_
  refine q_iload_n rfl rfl ?_
  refine q_iload_n rfl rfl ?_
  refine q_icmp_ge rfl (fun c => absurd c (by decide)) (fun _ => ?_)
  refine q_aload_n rfl rfl ?_
  refine s_get (v := .ref 193) rfl o14 rfl rfl ?_
  refine q_aload_n rfl rfl ?_
  refine s_get (v := .int 5) rfl o14 rfl rfl ?_
  refine q_aload_n rfl rfl ?_
  refine s_get (v := .ref 192) rfl o14 rfl rfl ?_
  refine q_iload_n rfl rfl ?_
  have e192_14 := (f14.ne rfl (f13.ne rfl e192_12))
  refine s_iaload (j := 5) (v := .int 0) rfl e192_14 (by decide) rfl (by first | rfl | decide) ?_
  have e193_14 := (f14.ne rfl o13)
  refine s_iastore (j := 5) rfl e193_14 (by decide) rfl (fun h15 o15 f15 => ?_)
  have s15 := s14.put f15
  refine q_aload_n rfl rfl ?_
  refine q_dup rfl rfl ?_
  have e191_15 := (o14.ne f15 rfl)
  refine s_get (v := .int 5) rfl e191_15 rfl rfl ?_
  refine q_iconst rfl ?_
  refine s_iadd (k := 6) rfl (by decide) ?_
  refine s_put (vs' := [.int 0, .ref 192, .ref 193, .int 6, .ref 194, .ref 195, .ref 196, .ref 197, .ref 198, .ref 199, .ref 200, .ref 201, .ref 202, .ref 203, .ref 204, .ref 205, .int (-1), .int 0, .ref 206, .ref 207, .ref 208, .ref 209, .ref 210, .ref 211, .ref 212, .ref 213, .ref 214, .ref 215, .int 0, .int 0, .int 0, .int 0, .ref 216, .ref 217, .ref 218, .ref 219, .ref 220, .int (-1), .int 0, .int 0, .int 0, .int 0, .int 0, .int 0, .ref 221, .ref 222, .ref 223, .ref 224, .int 0, .ref 225, .int 0, .ref 226, .ref 227, .int 0, .ref 228, .ref 229, .ref 230, .ref 231, .ref 232]) rfl e191_15 rfl rfl rfl rfl (fun h16 o16 f16 => ?_)
  have s16 := s15.put f16
  refine s_iinc (y := 6) (lv' := [(2, .int 6), (0, .ref 191), (1, .int 11)]) rfl rfl (by decide) (by decide) rfl ?_
  refine q_goto rfl ?_
  refine q_iload_n rfl rfl ?_
  refine q_iload_n rfl rfl ?_
  refine q_icmp_ge rfl (fun c => absurd c (by decide)) (fun _ => ?_)
  refine q_aload_n rfl rfl ?_
  refine s_get (v := .ref 193) rfl o16 rfl rfl ?_
  refine q_aload_n rfl rfl ?_
  refine s_get (v := .int 6) rfl o16 rfl rfl ?_
  refine q_aload_n rfl rfl ?_
  refine s_get (v := .ref 192) rfl o16 rfl rfl ?_
  refine q_iload_n rfl rfl ?_
  have e192_16 := (f16.ne rfl (f15.ne rfl e192_14))
  refine s_iaload (j := 6) (v := .int 0) rfl e192_16 (by decide) rfl (by first | rfl | decide) ?_
  have e193_16 := (f16.ne rfl o15)
  refine s_iastore (j := 6) rfl e193_16 (by decide) rfl (fun h17 o17 f17 => ?_)
  have s17 := s16.put f17
  refine q_aload_n rfl rfl ?_
  refine q_dup rfl rfl ?_
  have e191_17 := (o16.ne f17 rfl)
  refine s_get (v := .int 6) rfl e191_17 rfl rfl ?_
  refine q_iconst rfl ?_
  refine s_iadd (k := 7) rfl (by decide) ?_
  refine s_put (vs' := [.int 0, .ref 192, .ref 193, .int 7, .ref 194, .ref 195, .ref 196, .ref 197, .ref 198, .ref 199, .ref 200, .ref 201, .ref 202, .ref 203, .ref 204, .ref 205, .int (-1), .int 0, .ref 206, .ref 207, .ref 208, .ref 209, .ref 210, .ref 211, .ref 212, .ref 213, .ref 214, .ref 215, .int 0, .int 0, .int 0, .int 0, .ref 216, .ref 217, .ref 218, .ref 219, .ref 220, .int (-1), .int 0, .int 0, .int 0, .int 0, .int 0, .int 0, .ref 221, .ref 222, .ref 223, .ref 224, .int 0, .ref 225, .int 0, .ref 226, .ref 227, .int 0, .ref 228, .ref 229, .ref 230, .ref 231, .ref 232]) rfl e191_17 rfl rfl rfl rfl (fun h18 o18 f18 => ?_)
  have s18 := s17.put f18
  refine s_iinc (y := 7) (lv' := [(2, .int 7), (0, .ref 191), (1, .int 11)]) rfl rfl (by decide) (by decide) rfl ?_
  refine q_goto rfl ?_
  refine q_iload_n rfl rfl ?_
  refine q_iload_n rfl rfl ?_
  refine q_icmp_ge rfl (fun c => absurd c (by decide)) (fun _ => ?_)
  refine q_aload_n rfl rfl ?_
  refine s_get (v := .ref 193) rfl o18 rfl rfl ?_
  refine q_aload_n rfl rfl ?_
  refine s_get (v := .int 7) rfl o18 rfl rfl ?_
  refine q_aload_n rfl rfl ?_
  refine s_get (v := .ref 192) rfl o18 rfl rfl ?_
  refine q_iload_n rfl rfl ?_
  have e192_18 := (f18.ne rfl (f17.ne rfl e192_16))
  refine s_iaload (j := 7) (v := .int 0) rfl e192_18 (by decide) rfl (by first | rfl | decide) ?_
  have e193_18 := (f18.ne rfl o17)
  refine s_iastore (j := 7) rfl e193_18 (by decide) rfl (fun h19 o19 f19 => ?_)
  have s19 := s18.put f19
  refine q_aload_n rfl rfl ?_
  refine q_dup rfl rfl ?_
  have e191_19 := (o18.ne f19 rfl)
  refine s_get (v := .int 7) rfl e191_19 rfl rfl ?_
  refine q_iconst rfl ?_
  refine s_iadd (k := 8) rfl (by decide) ?_
  refine s_put (vs' := [.int 0, .ref 192, .ref 193, .int 8, .ref 194, .ref 195, .ref 196, .ref 197, .ref 198, .ref 199, .ref 200, .ref 201, .ref 202, .ref 203, .ref 204, .ref 205, .int (-1), .int 0, .ref 206, .ref 207, .ref 208, .ref 209, .ref 210, .ref 211, .ref 212, .ref 213, .ref 214, .ref 215, .int 0, .int 0, .int 0, .int 0, .ref 216, .ref 217, .ref 218, .ref 219, .ref 220, .int (-1), .int 0, .int 0, .int 0, .int 0, .int 0, .int 0, .ref 221, .ref 222, .ref 223, .ref 224, .int 0, .ref 225, .int 0, .ref 226, .ref 227, .int 0, .ref 228, .ref 229, .ref 230, .ref 231, .ref 232]) rfl e191_19 rfl rfl rfl rfl (fun h20 o20 f20 => ?_)
  have s20 := s19.put f20
  refine s_iinc (y := 8) (lv' := [(2, .int 8), (0, .ref 191), (1, .int 11)]) rfl rfl (by decide) (by decide) rfl ?_
  refine q_goto rfl ?_
  refine q_iload_n rfl rfl ?_
  refine q_iload_n rfl rfl ?_
  refine q_icmp_ge rfl (fun c => absurd c (by decide)) (fun _ => ?_)
  refine q_aload_n rfl rfl ?_
  refine s_get (v := .ref 193) rfl o20 rfl rfl ?_
  refine q_aload_n rfl rfl ?_
  refine s_get (v := .int 8) rfl o20 rfl rfl ?_
  refine q_aload_n rfl rfl ?_
  refine s_get (v := .ref 192) rfl o20 rfl rfl ?_
  refine q_iload_n rfl rfl ?_
  have e192_20 := (f20.ne rfl (f19.ne rfl e192_18))
  refine s_iaload (j := 8) (v := .int 0) rfl e192_20 (by decide) rfl (by first | rfl | decide) ?_
  have e193_20 := (f20.ne rfl o19)
  refine s_iastore (j := 8) rfl e193_20 (by decide) rfl (fun h21 o21 f21 => ?_)
  have s21 := s20.put f21
  refine q_aload_n rfl rfl ?_
  refine q_dup rfl rfl ?_
  have e191_21 := (o20.ne f21 rfl)
  refine s_get (v := .int 8) rfl e191_21 rfl rfl ?_
  refine q_iconst rfl ?_
  refine s_iadd (k := 9) rfl (by decide) ?_
  refine s_put (vs' := [.int 0, .ref 192, .ref 193, .int 9, .ref 194, .ref 195, .ref 196, .ref 197, .ref 198, .ref 199, .ref 200, .ref 201, .ref 202, .ref 203, .ref 204, .ref 205, .int (-1), .int 0, .ref 206, .ref 207, .ref 208, .ref 209, .ref 210, .ref 211, .ref 212, .ref 213, .ref 214, .ref 215, .int 0, .int 0, .int 0, .int 0, .ref 216, .ref 217, .ref 218, .ref 219, .ref 220, .int (-1), .int 0, .int 0, .int 0, .int 0, .int 0, .int 0, .ref 221, .ref 222, .ref 223, .ref 224, .int 0, .ref 225, .int 0, .ref 226, .ref 227, .int 0, .ref 228, .ref 229, .ref 230, .ref 231, .ref 232]) rfl e191_21 rfl rfl rfl rfl (fun h22 o22 f22 => ?_)
  have s22 := s21.put f22
  refine s_iinc (y := 9) (lv' := [(2, .int 9), (0, .ref 191), (1, .int 11)]) rfl rfl (by decide) (by decide) rfl ?_
  refine q_goto rfl ?_
  refine q_iload_n rfl rfl ?_
  refine q_iload_n rfl rfl ?_
  refine q_icmp_ge rfl (fun c => absurd c (by decide)) (fun _ => ?_)
  refine q_aload_n rfl rfl ?_
  refine s_get (v := .ref 193) rfl o22 rfl rfl ?_
  refine q_aload_n rfl rfl ?_
  refine s_get (v := .int 9) rfl o22 rfl rfl ?_
  refine q_aload_n rfl rfl ?_
  refine s_get (v := .ref 192) rfl o22 rfl rfl ?_
  refine q_iload_n rfl rfl ?_
  have e192_22 := (f22.ne rfl (f21.ne rfl e192_20))
  refine s_iaload (j := 9) (v := .int 0) rfl e192_22 (by decide) rfl (by first | rfl | decide) ?_
  have e193_22 := (f22.ne rfl o21)
  refine s_iastore (j := 9) rfl e193_22 (by decide) rfl (fun h23 o23 f23 => ?_)
  have s23 := s22.put f23
  refine q_aload_n rfl rfl ?_
  refine q_dup rfl rfl ?_
  have e191_23 := (o22.ne f23 rfl)
  refine s_get (v := .int 9) rfl e191_23 rfl rfl ?_
  refine q_iconst rfl ?_
  refine s_iadd (k := 10) rfl (by decide) ?_
  refine s_put (vs' := [.int 0, .ref 192, .ref 193, .int 10, .ref 194, .ref 195, .ref 196, .ref 197, .ref 198, .ref 199, .ref 200, .ref 201, .ref 202, .ref 203, .ref 204, .ref 205, .int (-1), .int 0, .ref 206, .ref 207, .ref 208, .ref 209, .ref 210, .ref 211, .ref 212, .ref 213, .ref 214, .ref 215, .int 0, .int 0, .int 0, .int 0, .ref 216, .ref 217, .ref 218, .ref 219, .ref 220, .int (-1), .int 0, .int 0, .int 0, .int 0, .int 0, .int 0, .ref 221, .ref 222, .ref 223, .ref 224, .int 0, .ref 225, .int 0, .ref 226, .ref 227, .int 0, .ref 228, .ref 229, .ref 230, .ref 231, .ref 232]) rfl e191_23 rfl rfl rfl rfl (fun h24 o24 f24 => ?_)
  have s24 := s23.put f24
  refine s_iinc (y := 10) (lv' := [(2, .int 10), (0, .ref 191), (1, .int 11)]) rfl rfl (by decide) (by decide) rfl ?_
  refine q_goto rfl ?_
  refine q_iload_n rfl rfl ?_
  refine q_iload_n rfl rfl ?_
  refine q_icmp_ge rfl (fun c => absurd c (by decide)) (fun _ => ?_)
  refine q_aload_n rfl rfl ?_
  refine s_get (v := .ref 193) rfl o24 rfl rfl ?_
  refine q_aload_n rfl rfl ?_
  refine s_get (v := .int 10) rfl o24 rfl rfl ?_
  refine q_aload_n rfl rfl ?_
  refine s_get (v := .ref 192) rfl o24 rfl rfl ?_
  refine q_iload_n rfl rfl ?_
  have e192_24 := (f24.ne rfl (f23.ne rfl e192_22))
  refine s_iaload (j := 10) (v := .int 0) rfl e192_24 (by decide) rfl (by first | rfl | decide) ?_
  have e193_24 := (f24.ne rfl o23)
  refine s_iastore (j := 10) rfl e193_24 (by decide) rfl (fun h25 o25 f25 => ?_)
  have s25 := s24.put f25
  refine q_aload_n rfl rfl ?_
  refine q_dup rfl rfl ?_
  have e191_25 := (o24.ne f25 rfl)
  refine s_get (v := .int 10) rfl e191_25 rfl rfl ?_
  refine q_iconst rfl ?_
  refine s_iadd (k := 11) rfl (by decide) ?_
  refine s_put (vs' := [.int 0, .ref 192, .ref 193, .int 11, .ref 194, .ref 195, .ref 196, .ref 197, .ref 198, .ref 199, .ref 200, .ref 201, .ref 202, .ref 203, .ref 204, .ref 205, .int (-1), .int 0, .ref 206, .ref 207, .ref 208, .ref 209, .ref 210, .ref 211, .ref 212, .ref 213, .ref 214, .ref 215, .int 0, .int 0, .int 0, .int 0, .ref 216, .ref 217, .ref 218, .ref 219, .ref 220, .int (-1), .int 0, .int 0, .int 0, .int 0, .int 0, .int 0, .ref 221, .ref 222, .ref 223, .ref 224, .int 0, .ref 225, .int 0, .ref 226, .ref 227, .int 0, .ref 228, .ref 229, .ref 230, .ref 231, .ref 232]) rfl e191_25 rfl rfl rfl rfl (fun h26 o26 f26 => ?_)
  have s26 := s25.put f26
  refine s_iinc (y := 11) (lv' := [(2, .int 11), (0, .ref 191), (1, .int 11)]) rfl rfl (by decide) (by decide) rfl ?_
  refine q_goto rfl ?_
  refine q_iload_n rfl rfl ?_
  refine q_iload_n rfl rfl ?_
  refine q_icmp_ge rfl (fun _ => ?_) (fun c => absurd (by decide) c)
  refine q_iconst rfl ?_
  refine s_istore_n (lv' := [(2, .int 0), (0, .ref 191), (1, .int 11)]) rfl (by decide) rfl ?_
  have e192_26 := (f26.ne rfl (f25.ne rfl e192_24))
  refine en_loop (m := 191) (a := 192) rfl rfl (by decide) (by decide) 20 0 h26 _ rfl o26 e192_26 (fun h27 f27 => ?_)
  have s27 := s26.put f27
  show aW aiP 217 16 636 88 [(2, .int 20), (0, .ref 191), (1, .int 11)] [] h27 _
  refine q_aload_n rfl rfl ?_
  have e191_27 := (o26.ne f27 rfl)
  refine s_get (v := .int 11) rfl e191_27 rfl rfl ?_
  refine q_ireturn rfl rfl ?_
  show aW aiP 0 17 658 243 [(4, .int 0), (3, .ref 233), (2, .ref 191), (1, .ref 6), (0, .ref 0)] [.int 11, .int 11] h27 _
  refine q_icmp_eq rfl (fun _ => ?_) (fun c => absurd (by decide) c)
  refine s_iinc (y := 6) (lv' := [(4, .int 6), (3, .ref 233), (2, .ref 191), (1, .ref 6), (0, .ref 0)]) rfl rfl (by decide) (by decide) rfl ?_
  refine q_goto rfl ?_
  refine q_iload rfl rfl ?_
  refine q_aload_n rfl rfl ?_
  have e0_27 := (f27.ne rfl (f26.ne rfl (f25.ne rfl (f24.ne rfl (f23.ne rfl (f22.ne rfl (f21.ne rfl (f20.ne rfl (f19.ne rfl (f18.ne rfl (f17.ne rfl (f16.ne rfl (f15.ne rfl (f14.ne rfl (f13.ne rfl (f12.ne rfl (f11.ne rfl (f10.ne rfl (f9.ne rfl (f8.ne rfl (f7.ne rfl (f6.ne rfl (f5.ne rfl (f4.ne rfl e0_3))))))))))))))))))))))))
  refine s_alen (x := 6) rfl e0_27 rfl (by decide) ?_
  refine q_bipush rfl ?_
  refine s_isub (k := 0) rfl (by decide) ?_
  refine q_icmp_gt rfl (fun _ => ?_) (fun c => absurd (by decide) c)
  refine q_iconst rfl ?_
  refine q_ireturn rfl rfl ?_
  exact ⟨rfl, s27.bd rfl⟩
set_option maxRecDepth 20000 in
set_option maxHeartbeats 4000000 in
theorem p_case1_12 {xs : Nat → Int32} {h : ai_H} (F : Fresh 6 xs h) (hk : xs 0 &&& 31 = 1) (hw : xs 1 = 12) : aW aiP 0 17 658 33 [(4, .int 0), (3, .ref 233), (2, .ref 191), (1, .ref 6), (0, .ref 0)] [] h p_Q := by
  have s0 := F.2.2.2.2.2.2.2.2.2.2.2.2.2.2.2.2.2.2.2.2.2.2.2.2.2.2.2.2.2.2.2.2.2.2.2.2.2.2.2.2.2.2.2.2.2.2.2.2.2.2.2.2.2.2.2.2.2.2.2.2.2.2.2.2.2.2.2.2.2.2
  refine q_aload_n rfl rfl ?_
  refine q_iload rfl rfl ?_
  have e0 := F.1
  refine s_iaload (j := 0) (v := .int (xs 0)) rfl e0 (by decide) rfl (by first | rfl | decide) ?_
  refine q_bipush rfl ?_
  refine s_iand (k := ((xs 0) &&& (31 : Int32))) rfl rfl ?_
  rw [hk]
  show aW aiP 0 17 658 40 [(4, .int 0), (3, .ref 233), (2, .ref 191), (1, .ref 6), (0, .ref 0)] [.int 1] h _
  refine s_sw (tg := 223) rfl rfl ?_
  refine q_aload_n rfl rfl ?_
  refine q_aload_n rfl rfl ?_
  refine q_iload rfl rfl ?_
  refine q_iconst rfl ?_
  refine s_iadd (k := 1) rfl (by decide) ?_
  refine s_iaload (j := 1) (v := .int (xs 1)) rfl e0 (by decide) rfl (by first | rfl | decide) ?_
  rw [hw]
  have e6 := F.2.2.2.2.2.2.1
  refine s_callV (as := [.int 12]) (rest := []) (d' := 16) (w' := 637) (lv' := [(0, .ref 6), (1, .int 12)]) rfl e6 rfl rfl rfl rfl rfl rfl ?_
  refine q_iload_n rfl rfl ?_
  refine q_if_lt rfl (fun c => absurd c (by decide)) (fun _ => ?_)
  refine q_iload_n rfl rfl ?_
  refine q_bipush rfl ?_
  refine q_icmp_gt rfl (fun c => absurd c (by decide)) (fun _ => ?_)
  refine q_aload_n rfl rfl ?_
  refine s_get (v := .int 0) rfl e6 rfl rfl ?_
  refine q_iload_n rfl rfl ?_
  refine s_iadd (k := 12) rfl (by decide) ?_
  refine q_sipush rfl ?_
  refine q_icmp_le rfl (fun _ => ?_) (fun c => absurd (by decide) c)
  refine q_aload_n rfl rfl ?_
  refine s_get (v := .ref 7) rfl e6 rfl rfl ?_
  refine q_iconst rfl ?_
  refine q_aload_n rfl rfl ?_
  refine s_get (v := .ref 8) rfl e6 rfl rfl ?_
  refine q_aload_n rfl rfl ?_
  refine s_get (v := .int 0) rfl e6 rfl rfl ?_
  refine q_iload_n rfl rfl ?_
  have e7 := F.2.2.2.2.2.2.2.1
  have e8 := F.2.2.2.2.2.2.2.2.1
  refine s_copy (sp := 0) (dp := 0) (k := 12) rfl e7 e8 (by decide) (by decide) (by decide) rfl (by decide) (by decide) (by decide) (fun i _ => rfl) (fun h1 o1 f1 => ?_)
  have s1 := s0.put f1
  refine q_aload_n rfl rfl ?_
  refine q_dup rfl rfl ?_
  have e6_1 := (e6.ne f1 rfl)
  refine s_get (v := .int 0) rfl e6_1 rfl rfl ?_
  refine q_iload_n rfl rfl ?_
  refine s_iadd (k := 12) rfl (by decide) ?_
  refine s_put (vs' := [.ref 7, .ref 8, .int 12, .ref 9, .int (-1), .ref 51, .ref 93, .ref 135, .ref 177, .ref 180, .int 0, .ref 183, .ref 186, .ref 189]) rfl e6_1 rfl rfl rfl rfl (fun h2 o2 f2 => ?_)
  have s2 := s1.put f2
  refine q_aload_n rfl rfl ?_
  refine s_get (v := .ref 7) rfl o2 rfl rfl ?_
  refine q_iconst rfl ?_
  refine s_callS (as := [.ref 7, .int 0]) (rest := []) (d' := 15) (w' := 614) (lv' := [(0, .ref 7), (1, .int 0)]) rfl rfl rfl rfl rfl rfl rfl rfl ?_
  refine q_iconst rfl ?_
  refine s_istore_n (lv' := [(2, .int 0), (0, .ref 7), (1, .int 0)]) rfl (by decide) rfl ?_
  refine q_aload_n rfl rfl ?_
  have e7_2 := (f2.ne rfl (f1.ne rfl e7))
  refine s_alen (x := 20) rfl e7_2 rfl (by decide) ?_
  refine s_istore_n (lv' := [(3, .int 20), (2, .int 0), (0, .ref 7), (1, .int 0)]) rfl (by decide) rfl ?_
  refine aW_lv (l := [(2, .int (nI 0)), (3, .int 20), (0, .ref 7), (1, .int 0)]) ?_ rfl rfl (by repeat' (first | exact inL_n | refine inL_c rfl ?_))
  refine fi_loop (a := 7) (by decide) 20 0 h2 _ rfl e7_2 (fun h3 f3 => ?_)
  have s3 := s2.put f3
  show aW aiP 15 16 637 59 [(0, .ref 6), (1, .int 12)] [] h3 _
  refine q_aload_n rfl rfl ?_
  have e6_3 := (o2.ne f3 rfl)
  refine s_get (v := .int 12) rfl e6_3 rfl rfl ?_
  refine q_ireturn rfl rfl ?_
  show aW aiP 0 17 658 233 [(4, .int 0), (3, .ref 233), (2, .ref 191), (1, .ref 6), (0, .ref 0)] [.int 12] h3 _
  refine q_aload_n rfl rfl ?_
  refine q_aload_n rfl rfl ?_
  refine q_iload rfl rfl ?_
  refine q_iconst rfl ?_
  refine s_iadd (k := 1) rfl (by decide) ?_
  have e0_3 := (f3.ne rfl (f2.ne rfl (f1.ne rfl e0)))
  refine s_iaload (j := 1) (v := .int (xs 1)) rfl e0_3 (by decide) rfl (by first | rfl | decide) ?_
  rw [hw]
  have e191 := F.2.2.2.2.2.2.2.2.2.2.2.2.2.2.2.2.2.2.2.2.2.2.2.2.2.2.2.1
  have e191_3 := (((e191.ne f1 rfl).ne f2 rfl).ne f3 rfl)
  refine s_callV (as := [.int 12]) (rest := [.int 12]) (d' := 16) (w' := 636) (lv' := [(0, .ref 191), (1, .int 12)]) rfl e191_3 rfl rfl rfl rfl rfl rfl ?_
  refine q_aload_n rfl rfl ?_
  refine q_iconst rfl ?_
  refine s_put (vs' := [.int 0, .ref 192, .ref 193, .int 0, .ref 194, .ref 195, .ref 196, .ref 197, .ref 198, .ref 199, .ref 200, .ref 201, .ref 202, .ref 203, .ref 204, .ref 205, .int (-1), .int 0, .ref 206, .ref 207, .ref 208, .ref 209, .ref 210, .ref 211, .ref 212, .ref 213, .ref 214, .ref 215, .int 0, .int 0, .int 0, .int 0, .ref 216, .ref 217, .ref 218, .ref 219, .ref 220, .int (-1), .int 0, .int 0, .int 0, .int 0, .int 0, .int 0, .ref 221, .ref 222, .ref 223, .ref 224, .int 0, .ref 225, .int 0, .ref 226, .ref 227, .int 0, .ref 228, .ref 229, .ref 230, .ref 231, .ref 232]) rfl e191_3 rfl rfl rfl rfl (fun h4 o4 f4 => ?_)
  have s4 := s3.put f4
  refine q_iload_n rfl rfl ?_
  refine q_if_lt rfl (fun c => absurd c (by decide)) (fun _ => ?_)
  refine q_iload_n rfl rfl ?_
  refine q_bipush rfl ?_
  refine q_icmp_gt rfl (fun c => absurd c (by decide)) (fun _ => ?_)
  refine q_aload_n rfl rfl ?_
  refine s_get (v := .int 0) rfl o4 rfl rfl ?_
  refine q_iload_n rfl rfl ?_
  refine s_iadd (k := 12) rfl (by decide) ?_
  refine q_sipush rfl ?_
  refine q_icmp_le rfl (fun _ => ?_) (fun c => absurd (by decide) c)
  refine q_iconst rfl ?_
  refine s_istore_n (lv' := [(2, .int 0), (0, .ref 191), (1, .int 12)]) rfl (by decide) rfl ?_
  refine q_iload_n rfl rfl ?_
  refine q_iload_n rfl rfl ?_
  refine q_icmp_ge rfl (fun c => absurd c (by decide)) (fun _ => ?_)
  refine q_aload_n rfl rfl ?_
  refine s_get (v := .ref 193) rfl o4 rfl rfl ?_
  refine q_aload_n rfl rfl ?_
  refine s_get (v := .int 0) rfl o4 rfl rfl ?_
  refine q_aload_n rfl rfl ?_
  refine s_get (v := .ref 192) rfl o4 rfl rfl ?_
  refine q_iload_n rfl rfl ?_
  have e192 := F.2.2.2.2.2.2.2.2.2.2.2.2.2.2.2.2.2.2.2.2.2.2.2.2.2.2.2.2.1
  have e192_4 := (f4.ne rfl (f3.ne rfl (f2.ne rfl (f1.ne rfl e192))))
  refine s_iaload (j := 0) (v := .int 0) rfl e192_4 (by decide) rfl (by first | rfl | decide) ?_
  have e193 := F.2.2.2.2.2.2.2.2.2.2.2.2.2.2.2.2.2.2.2.2.2.2.2.2.2.2.2.2.2.1
  have e193_4 := (f4.ne rfl (f3.ne rfl (f2.ne rfl (f1.ne rfl e193))))
  refine s_iastore (j := 0) rfl e193_4 (by decide) rfl (fun h5 o5 f5 => ?_)
  have s5 := s4.put f5
  refine q_aload_n rfl rfl ?_
  refine q_dup rfl rfl ?_
  have e191_5 := (o4.ne f5 rfl)
  refine s_get (v := .int 0) rfl e191_5 rfl rfl ?_
  refine q_iconst rfl ?_
  refine s_iadd (k := 1) rfl (by decide) ?_
  refine s_put (vs' := [.int 0, .ref 192, .ref 193, .int 1, .ref 194, .ref 195, .ref 196, .ref 197, .ref 198, .ref 199, .ref 200, .ref 201, .ref 202, .ref 203, .ref 204, .ref 205, .int (-1), .int 0, .ref 206, .ref 207, .ref 208, .ref 209, .ref 210, .ref 211, .ref 212, .ref 213, .ref 214, .ref 215, .int 0, .int 0, .int 0, .int 0, .ref 216, .ref 217, .ref 218, .ref 219, .ref 220, .int (-1), .int 0, .int 0, .int 0, .int 0, .int 0, .int 0, .ref 221, .ref 222, .ref 223, .ref 224, .int 0, .ref 225, .int 0, .ref 226, .ref 227, .int 0, .ref 228, .ref 229, .ref 230, .ref 231, .ref 232]) rfl e191_5 rfl rfl rfl rfl (fun h6 o6 f6 => ?_)
  have s6 := s5.put f6
  refine s_iinc (y := 1) (lv' := [(2, .int 1), (0, .ref 191), (1, .int 12)]) rfl rfl (by decide) (by decide) rfl ?_
  refine q_goto rfl ?_
  refine q_iload_n rfl rfl ?_
  refine q_iload_n rfl rfl ?_
  refine q_icmp_ge rfl (fun c => absurd c (by decide)) (fun _ => ?_)
  refine q_aload_n rfl rfl ?_
  refine s_get (v := .ref 193) rfl o6 rfl rfl ?_
  refine q_aload_n rfl rfl ?_
  refine s_get (v := .int 1) rfl o6 rfl rfl ?_
  refine q_aload_n rfl rfl ?_
  refine s_get (v := .ref 192) rfl o6 rfl rfl ?_
  refine q_iload_n rfl rfl ?_
  have e192_6 := (f6.ne rfl (f5.ne rfl e192_4))
  refine s_iaload (j := 1) (v := .int 0) rfl e192_6 (by decide) rfl (by first | rfl | decide) ?_
  have e193_6 := (f6.ne rfl o5)
  refine s_iastore (j := 1) rfl e193_6 (by decide) rfl (fun h7 o7 f7 => ?_)
  have s7 := s6.put f7
  refine q_aload_n rfl rfl ?_
  refine q_dup rfl rfl ?_
  have e191_7 := (o6.ne f7 rfl)
  refine s_get (v := .int 1) rfl e191_7 rfl rfl ?_
  refine q_iconst rfl ?_
  refine s_iadd (k := 2) rfl (by decide) ?_
  refine s_put (vs' := [.int 0, .ref 192, .ref 193, .int 2, .ref 194, .ref 195, .ref 196, .ref 197, .ref 198, .ref 199, .ref 200, .ref 201, .ref 202, .ref 203, .ref 204, .ref 205, .int (-1), .int 0, .ref 206, .ref 207, .ref 208, .ref 209, .ref 210, .ref 211, .ref 212, .ref 213, .ref 214, .ref 215, .int 0, .int 0, .int 0, .int 0, .ref 216, .ref 217, .ref 218, .ref 219, .ref 220, .int (-1), .int 0, .int 0, .int 0, .int 0, .int 0, .int 0, .ref 221, .ref 222, .ref 223, .ref 224, .int 0, .ref 225, .int 0, .ref 226, .ref 227, .int 0, .ref 228, .ref 229, .ref 230, .ref 231, .ref 232]) rfl e191_7 rfl rfl rfl rfl (fun h8 o8 f8 => ?_)
  have s8 := s7.put f8
  refine s_iinc (y := 2) (lv' := [(2, .int 2), (0, .ref 191), (1, .int 12)]) rfl rfl (by decide) (by decide) rfl ?_
  refine q_goto rfl ?_
  refine q_iload_n rfl rfl ?_
  refine q_iload_n rfl rfl ?_
  refine q_icmp_ge rfl (fun c => absurd c (by decide)) (fun _ => ?_)
  refine q_aload_n rfl rfl ?_
  refine s_get (v := .ref 193) rfl o8 rfl rfl ?_
  refine q_aload_n rfl rfl ?_
  refine s_get (v := .int 2) rfl o8 rfl rfl ?_
  refine q_aload_n rfl rfl ?_
  refine s_get (v := .ref 192) rfl o8 rfl rfl ?_
  refine q_iload_n rfl rfl ?_
  have e192_8 := (f8.ne rfl (f7.ne rfl e192_6))
  refine s_iaload (j := 2) (v := .int 0) rfl e192_8 (by decide) rfl (by first | rfl | decide) ?_
  have e193_8 := (f8.ne rfl o7)
  refine s_iastore (j := 2) rfl e193_8 (by decide) rfl (fun h9 o9 f9 => ?_)
  have s9 := s8.put f9
  refine q_aload_n rfl rfl ?_
  refine q_dup rfl rfl ?_
  have e191_9 := (o8.ne f9 rfl)
  refine s_get (v := .int 2) rfl e191_9 rfl rfl ?_
  refine q_iconst rfl ?_
  refine s_iadd (k := 3) rfl (by decide) ?_
  refine s_put (vs' := [.int 0, .ref 192, .ref 193, .int 3, .ref 194, .ref 195, .ref 196, .ref 197, .ref 198, .ref 199, .ref 200, .ref 201, .ref 202, .ref 203, .ref 204, .ref 205, .int (-1), .int 0, .ref 206, .ref 207, .ref 208, .ref 209, .ref 210, .ref 211, .ref 212, .ref 213, .ref 214, .ref 215, .int 0, .int 0, .int 0, .int 0, .ref 216, .ref 217, .ref 218, .ref 219, .ref 220, .int (-1), .int 0, .int 0, .int 0, .int 0, .int 0, .int 0, .ref 221, .ref 222, .ref 223, .ref 224, .int 0, .ref 225, .int 0, .ref 226, .ref 227, .int 0, .ref 228, .ref 229, .ref 230, .ref 231, .ref 232]) rfl e191_9 rfl rfl rfl rfl (fun h10 o10 f10 => ?_)
  have s10 := s9.put f10
  refine s_iinc (y := 3) (lv' := [(2, .int 3), (0, .ref 191), (1, .int 12)]) rfl rfl (by decide) (by decide) rfl ?_
  refine q_goto rfl ?_
  refine q_iload_n rfl rfl ?_
  refine q_iload_n rfl rfl ?_
  refine q_icmp_ge rfl (fun c => absurd c (by decide)) (fun _ => ?_)
  refine q_aload_n rfl rfl ?_
  refine s_get (v := .ref 193) rfl o10 rfl rfl ?_
  refine q_aload_n rfl rfl ?_
  refine s_get (v := .int 3) rfl o10 rfl rfl ?_
  refine q_aload_n rfl rfl ?_
  refine s_get (v := .ref 192) rfl o10 rfl rfl ?_
  refine q_iload_n rfl rfl ?_
  have e192_10 := (f10.ne rfl (f9.ne rfl e192_8))
  refine s_iaload (j := 3) (v := .int 0) rfl e192_10 (by decide) rfl (by first | rfl | decide) ?_
  have e193_10 := (f10.ne rfl o9)
  refine s_iastore (j := 3) rfl e193_10 (by decide) rfl (fun h11 o11 f11 => ?_)
  have s11 := s10.put f11
  refine q_aload_n rfl rfl ?_
  refine q_dup rfl rfl ?_
  have e191_11 := (o10.ne f11 rfl)
  refine s_get (v := .int 3) rfl e191_11 rfl rfl ?_
  refine q_iconst rfl ?_
  refine s_iadd (k := 4) rfl (by decide) ?_
  refine s_put (vs' := [.int 0, .ref 192, .ref 193, .int 4, .ref 194, .ref 195, .ref 196, .ref 197, .ref 198, .ref 199, .ref 200, .ref 201, .ref 202, .ref 203, .ref 204, .ref 205, .int (-1), .int 0, .ref 206, .ref 207, .ref 208, .ref 209, .ref 210, .ref 211, .ref 212, .ref 213, .ref 214, .ref 215, .int 0, .int 0, .int 0, .int 0, .ref 216, .ref 217, .ref 218, .ref 219, .ref 220, .int (-1), .int 0, .int 0, .int 0, .int 0, .int 0, .int 0, .ref 221, .ref 222, .ref 223, .ref 224, .int 0, .ref 225, .int 0, .ref 226, .ref 227, .int 0, .ref 228, .ref 229, .ref 230, .ref 231, .ref 232]) rfl e191_11 rfl rfl rfl rfl (fun h12 o12 f12 => ?_)
  have s12 := s11.put f12
  refine s_iinc (y := 4) (lv' := [(2, .int 4), (0, .ref 191), (1, .int 12)]) rfl rfl (by decide) (by decide) rfl ?_
  refine q_goto rfl ?_
  refine q_iload_n rfl rfl ?_
  refine q_iload_n rfl rfl ?_
  refine q_icmp_ge rfl (fun c => absurd c (by decide)) (fun _ => ?_)
  refine q_aload_n rfl rfl ?_
  refine s_get (v := .ref 193) rfl o12 rfl rfl ?_
  refine q_aload_n rfl rfl ?_
  refine s_get (v := .int 4) rfl o12 rfl rfl ?_
  refine q_aload_n rfl rfl ?_
  refine s_get (v := .ref 192) rfl o12 rfl rfl ?_
  refine q_iload_n rfl rfl ?_
  have e192_12 := (f12.ne rfl (f11.ne rfl e192_10))
  refine s_iaload (j := 4) (v := .int 0) rfl e192_12 (by decide) rfl (by first | rfl | decide) ?_
  have e193_12 := (f12.ne rfl o11)
  refine s_iastore (j := 4) rfl e193_12 (by decide) rfl (fun h13 o13 f13 => ?_)
  have s13 := s12.put f13
  refine q_aload_n rfl rfl ?_
  refine q_dup rfl rfl ?_
  have e191_13 := (o12.ne f13 rfl)
  refine s_get (v := .int 4) rfl e191_13 rfl rfl ?_
  refine q_iconst rfl ?_
  refine s_iadd (k := 5) rfl (by decide) ?_
  refine s_put (vs' := [.int 0, .ref 192, .ref 193, .int 5, .ref 194, .ref 195, .ref 196, .ref 197, .ref 198, .ref 199, .ref 200, .ref 201, .ref 202, .ref 203, .ref 204, .ref 205, .int (-1), .int 0, .ref 206, .ref 207, .ref 208, .ref 209, .ref 210, .ref 211, .ref 212, .ref 213, .ref 214, .ref 215, .int 0, .int 0, .int 0, .int 0, .ref 216, .ref 217, .ref 218, .ref 219, .ref 220, .int (-1), .int 0, .int 0, .int 0, .int 0, .int 0, .int 0, .ref 221, .ref 222, .ref 223, .ref 224, .int 0, .ref 225, .int 0, .ref 226, .ref 227, .int 0, .ref 228, .ref 229, .ref 230, .ref 231, .ref 232]) rfl e191_13 rfl rfl rfl rfl (fun h14 o14 f14 => ?_)
  have s14 := s13.put f14
  refine s_iinc (y := 5) (lv' := [(2, .int 5), (0, .ref 191), (1, .int 12)]) rfl rfl (by decide) (by decide) rfl ?_
  refine q_goto rfl ?_
  refine q_iload_n rfl rfl ?_
  refine q_iload_n rfl rfl ?_
  refine q_icmp_ge rfl (fun c => absurd c (by decide)) (fun _ => ?_)
  refine q_aload_n rfl rfl ?_
  refine s_get (v := .ref 193) rfl o14 rfl rfl ?_
  refine q_aload_n rfl rfl ?_
  refine s_get (v := .int 5) rfl o14 rfl rfl ?_
  refine q_aload_n rfl rfl ?_
  refine s_get (v := .ref 192) rfl o14 rfl rfl ?_
  refine q_iload_n rfl rfl ?_
  have e192_14 := (f14.ne rfl (f13.ne rfl e192_12))
  refine s_iaload (j := 5) (v := .int 0) rfl e192_14 (by decide) rfl (by first | rfl | decide) ?_
  have e193_14 := (f14.ne rfl o13)
  refine s_iastore (j := 5) rfl e193_14 (by decide) rfl (fun h15 o15 f15 => ?_)
  have s15 := s14.put f15
  refine q_aload_n rfl rfl ?_
  refine q_dup rfl rfl ?_
  have e191_15 := (o14.ne f15 rfl)
  refine s_get (v := .int 5) rfl e191_15 rfl rfl ?_
  refine q_iconst rfl ?_
  refine s_iadd (k := 6) rfl (by decide) ?_
  refine s_put (vs' := [.int 0, .ref 192, .ref 193, .int 6, .ref 194, .ref 195, .ref 196, .ref 197, .ref 198, .ref 199, .ref 200, .ref 201, .ref 202, .ref 203, .ref 204, .ref 205, .int (-1), .int 0, .ref 206, .ref 207, .ref 208, .ref 209, .ref 210, .ref 211, .ref 212, .ref 213, .ref 214, .ref 215, .int 0, .int 0, .int 0, .int 0, .ref 216, .ref 217, .ref 218, .ref 219, .ref 220, .int (-1), .int 0, .int 0, .int 0, .int 0, .int 0, .int 0, .ref 221, .ref 222, .ref 223, .ref 224, .int 0, .ref 225, .int 0, .ref 226, .ref 227, .int 0, .ref 228, .ref 229, .ref 230, .ref 231, .ref 232]) rfl e191_15 rfl rfl rfl rfl (fun h16 o16 f16 => ?_)
  have s16 := s15.put f16
  refine s_iinc (y := 6) (lv' := [(2, .int 6), (0, .ref 191), (1, .int 12)]) rfl rfl (by decide) (by decide) rfl ?_
  refine q_goto rfl ?_
  refine q_iload_n rfl rfl ?_
  refine q_iload_n rfl rfl ?_
  refine q_icmp_ge rfl (fun c => absurd c (by decide)) (fun _ => ?_)
  refine q_aload_n rfl rfl ?_
  refine s_get (v := .ref 193) rfl o16 rfl rfl ?_
  refine q_aload_n rfl rfl ?_
  refine s_get (v := .int 6) rfl o16 rfl rfl ?_
  refine q_aload_n rfl rfl ?_
  refine s_get (v := .ref 192) rfl o16 rfl rfl ?_
  refine q_iload_n rfl rfl ?_
  have e192_16 := (f16.ne rfl (f15.ne rfl e192_14))
  refine s_iaload (j := 6) (v := .int 0) rfl e192_16 (by decide) rfl (by first | rfl | decide) ?_
  have e193_16 := (f16.ne rfl o15)
  refine s_iastore (j := 6) rfl e193_16 (by decide) rfl (fun h17 o17 f17 => ?_)
  have s17 := s16.put f17
  refine q_aload_n rfl rfl ?_
  refine q_dup rfl rfl ?_
  have e191_17 := (o16.ne f17 rfl)
  refine s_get (v := .int 6) rfl e191_17 rfl rfl ?_
  refine q_iconst rfl ?_
  refine s_iadd (k := 7) rfl (by decide) ?_
  refine s_put (vs' := [.int 0, .ref 192, .ref 193, .int 7, .ref 194, .ref 195, .ref 196, .ref 197, .ref 198, .ref 199, .ref 200, .ref 201, .ref 202, .ref 203, .ref 204, .ref 205, .int (-1), .int 0, .ref 206, .ref 207, .ref 208, .ref 209, .ref 210, .ref 211, .ref 212, .ref 213, .ref 214, .ref 215, .int 0, .int 0, .int 0, .int 0, .ref 216, .ref 217, .ref 218, .ref 219, .ref 220, .int (-1), .int 0, .int 0, .int 0, .int 0, .int 0, .int 0, .ref 221, .ref 222, .ref 223, .ref 224, .int 0, .ref 225, .int 0, .ref 226, .ref 227, .int 0, .ref 228, .ref 229, .ref 230, .ref 231, .ref 232]) rfl e191_17 rfl rfl rfl rfl (fun h18 o18 f18 => ?_)
  have s18 := s17.put f18
  refine s_iinc (y := 7) (lv' := [(2, .int 7), (0, .ref 191), (1, .int 12)]) rfl rfl (by decide) (by decide) rfl ?_
  refine q_goto rfl ?_
  refine q_iload_n rfl rfl ?_
  refine q_iload_n rfl rfl ?_
  refine q_icmp_ge rfl (fun c => absurd c (by decide)) (fun _ => ?_)
  refine q_aload_n rfl rfl ?_
  refine s_get (v := .ref 193) rfl o18 rfl rfl ?_
  refine q_aload_n rfl rfl ?_
  refine s_get (v := .int 7) rfl o18 rfl rfl ?_
  refine q_aload_n rfl rfl ?_
  refine s_get (v := .ref 192) rfl o18 rfl rfl ?_
  refine q_iload_n rfl rfl ?_
  have e192_18 := (f18.ne rfl (f17.ne rfl e192_16))
  refine s_iaload (j := 7) (v := .int 0) rfl e192_18 (by decide) rfl (by first | rfl | decide) ?_
  have e193_18 := (f18.ne rfl o17)
  refine s_iastore (j := 7) rfl e193_18 (by decide) rfl (fun h19 o19 f19 => ?_)
  have s19 := s18.put f19
  refine q_aload_n rfl rfl ?_
  refine q_dup rfl rfl ?_
  have e191_19 := (o18.ne f19 rfl)
  refine s_get (v := .int 7) rfl e191_19 rfl rfl ?_
  refine q_iconst rfl ?_
  refine s_iadd (k := 8) rfl (by decide) ?_
  refine s_put (vs' := [.int 0, .ref 192, .ref 193, .int 8, .ref 194, .ref 195, .ref 196, .ref 197, .ref 198, .ref 199, .ref 200, .ref 201, .ref 202, .ref 203, .ref 204, .ref 205, .int (-1), .int 0, .ref 206, .ref 207, .ref 208, .ref 209, .ref 210, .ref 211, .ref 212, .ref 213, .ref 214, .ref 215, .int 0, .int 0, .int 0, .int 0, .ref 216, .ref 217, .ref 218, .ref 219, .ref 220, .int (-1), .int 0, .int 0, .int 0, .int 0, .int 0, .int 0, .ref 221, .ref 222, .ref 223, .ref 224, .int 0, .ref 225, .int 0, .ref 226, .ref 227, .int 0, .ref 228, .ref 229, .ref 230, .ref 231, .ref 232]) rfl e191_19 rfl rfl rfl rfl (fun h20 o20 f20 => ?_)
  have s20 := s19.put f20
  refine s_iinc (y := 8) (lv' := [(2, .int 8), (0, .ref 191), (1, .int 12)]) rfl rfl (by decide) (by decide) rfl ?_
  refine q_goto rfl ?_
  refine q_iload_n rfl rfl ?_
  refine q_iload_n rfl rfl ?_
  refine q_icmp_ge rfl (fun c => absurd c (by decide)) (fun _ => ?_)
  refine q_aload_n rfl rfl ?_
  refine s_get (v := .ref 193) rfl o20 rfl rfl ?_
  refine q_aload_n rfl rfl ?_
  refine s_get (v := .int 8) rfl o20 rfl rfl ?_
  refine q_aload_n rfl rfl ?_
  refine s_get (v := .ref 192) rfl o20 rfl rfl ?_
  refine q_iload_n rfl rfl ?_
  have e192_20 := (f20.ne rfl (f19.ne rfl e192_18))
  refine s_iaload (j := 8) (v := .int 0) rfl e192_20 (by decide) rfl (by first | rfl | decide) ?_
  have e193_20 := (f20.ne rfl o19)
  refine s_iastore (j := 8) rfl e193_20 (by decide) rfl (fun h21 o21 f21 => ?_)
  have s21 := s20.put f21
  refine q_aload_n rfl rfl ?_
  refine q_dup rfl rfl ?_
  have e191_21 := (o20.ne f21 rfl)
  refine s_get (v := .int 8) rfl e191_21 rfl rfl ?_
  refine q_iconst rfl ?_
  refine s_iadd (k := 9) rfl (by decide) ?_
  refine s_put (vs' := [.int 0, .ref 192, .ref 193, .int 9, .ref 194, .ref 195, .ref 196, .ref 197, .ref 198, .ref 199, .ref 200, .ref 201, .ref 202, .ref 203, .ref 204, .ref 205, .int (-1), .int 0, .ref 206, .ref 207, .ref 208, .ref 209, .ref 210, .ref 211, .ref 212, .ref 213, .ref 214, .ref 215, .int 0, .int 0, .int 0, .int 0, .ref 216, .ref 217, .ref 218, .ref 219, .ref 220, .int (-1), .int 0, .int 0, .int 0, .int 0, .int 0, .int 0, .ref 221, .ref 222, .ref 223, .ref 224, .int 0, .ref 225, .int 0, .ref 226, .ref 227, .int 0, .ref 228, .ref 229, .ref 230, .ref 231, .ref 232]) rfl e191_21 rfl rfl rfl rfl (fun h22 o22 f22 => ?_)
  have s22 := s21.put f22
  refine s_iinc (y := 9) (lv' := [(2, .int 9), (0, .ref 191), (1, .int 12)]) rfl rfl (by decide) (by decide) rfl ?_
  refine q_goto rfl ?_
  refine q_iload_n rfl rfl ?_
  refine q_iload_n rfl rfl ?_
  refine q_icmp_ge rfl (fun c => absurd c (by decide)) (fun _ => ?_)
  refine q_aload_n rfl rfl ?_
  refine s_get (v := .ref 193) rfl o22 rfl rfl ?_
  refine q_aload_n rfl rfl ?_
  refine s_get (v := .int 9) rfl o22 rfl rfl ?_
  refine q_aload_n rfl rfl ?_
  refine s_get (v := .ref 192) rfl o22 rfl rfl ?_
  refine q_iload_n rfl rfl ?_
  have e192_22 := (f22.ne rfl (f21.ne rfl e192_20))
  refine s_iaload (j := 9) (v := .int 0) rfl e192_22 (by decide) rfl (by first | rfl | decide) ?_
  have e193_22 := (f22.ne rfl o21)
  refine s_iastore (j := 9) rfl e193_22 (by decide) rfl (fun h23 o23 f23 => ?_)
  have s23 := s22.put f23
  refine q_aload_n rfl rfl ?_
  refine q_dup rfl rfl ?_
  have e191_23 := (o22.ne f23 rfl)
  refine s_get (v := .int 9) rfl e191_23 rfl rfl ?_
  refine q_iconst rfl ?_
  refine s_iadd (k := 10) rfl (by decide) ?_
  refine s_put (vs' := [.int 0, .ref 192, .ref 193, .int 10, .ref 194, .ref 195, .ref 196, .ref 197, .ref 198, .ref 199, .ref 200, .ref 201, .ref 202, .ref 203, .ref 204, .ref 205, .int (-1), .int 0, .ref 206, .ref 207, .ref 208, .ref 209, .ref 210, .ref 211, .ref 212, .ref 213, .ref 214, .ref 215, .int 0, .int 0, .int 0, .int 0, .ref 216, .ref 217, .ref 218, .ref 219, .ref 220, .int (-1), .int 0, .int 0, .int 0, .int 0, .int 0, .int 0, .ref 221, .ref 222, .ref 223, .ref 224, .int 0, .ref 225, .int 0, .ref 226, .ref 227, .int 0, .ref 228, .ref 229, .ref 230, .ref 231, .ref 232]) rfl e191_23 rfl rfl rfl rfl (fun h24 o24 f24 => ?_)
  have s24 := s23.put f24
  refine s_iinc (y := 10) (lv' := [(2, .int 10), (0, .ref 191), (1, .int 12)]) rfl rfl (by decide) (by decide) rfl ?_
  refine q_goto rfl ?_
  refine q_iload_n rfl rfl ?_
  refine q_iload_n rfl rfl ?_
  refine q_icmp_ge rfl (fun c => absurd c (by decide)) (fun _ => ?_)
  refine q_aload_n rfl rfl ?_
  refine s_get (v := .ref 193) rfl o24 rfl rfl ?_
  refine q_aload_n rfl rfl ?_
  refine s_get (v := .int 10) rfl o24 rfl rfl ?_
  refine q_aload_n rfl rfl ?_
  refine s_get (v := .ref 192) rfl o24 rfl rfl ?_
  refine q_iload_n rfl rfl ?_
  have e192_24 := (f24.ne rfl (f23.ne rfl e192_22))
  refine s_iaload (j := 10) (v := .int 0) rfl e192_24 (by decide) rfl (by first | rfl | decide) ?_
  have e193_24 := (f24.ne rfl o23)
  refine s_iastore (j := 10) rfl e193_24 (by decide) rfl (fun h25 o25 f25 => ?_)
  have s25 := s24.put f25
  refine q_aload_n rfl rfl ?_
  refine q_dup rfl rfl ?_
  have e191_25 := (o24.ne f25 rfl)
  refine s_get (v := .int 10) rfl e191_25 rfl rfl ?_
  refine q_iconst rfl ?_
  refine s_iadd (k := 11) rfl (by decide) ?_
  refine s_put (vs' := [.int 0, .ref 192, .ref 193, .int 11, .ref 194, .ref 195, .ref 196, .ref 197, .ref 198, .ref 199, .ref 200, .ref 201, .ref 202, .ref 203, .ref 204, .ref 205, .int (-1), .int 0, .ref 206, .ref 207, .ref 208, .ref 209, .ref 210, .ref 211, .ref 212, .ref 213, .ref 214, .ref 215, .int 0, .int 0, .int 0, .int 0, .ref 216, .ref 217, .ref 218, .ref 219, .ref 220, .int (-1), .int 0, .int 0, .int 0, .int 0, .int 0, .int 0, .ref 221, .ref 222, .ref 223, .ref 224, .int 0, .ref 225, .int 0, .ref 226, .ref 227, .int 0, .ref 228, .ref 229, .ref 230, .ref 231, .ref 232]) rfl e191_25 rfl rfl rfl rfl (fun h26 o26 f26 => ?_)
  have s26 := s25.put f26
  refine s_iinc (y := 11) (lv' := [(2, .int 11), (0, .ref 191), (1, .int 12)]) rfl rfl (by decide) (by decide) rfl ?_
  refine q_goto rfl ?_
  refine q_iload_n rfl rfl ?_
  refine q_iload_n rfl rfl ?_
  refine q_icmp_ge rfl (fun c => absurd c (by decide)) (fun _ => ?_)
  refine q_aload_n rfl rfl ?_
  refine s_get (v := .ref 193) rfl o26 rfl rfl ?_
  refine q_aload_n rfl rfl ?_
  refine s_get (v := .int 11) rfl o26 rfl rfl ?_
  refine q_aload_n rfl rfl ?_
  refine s_get (v := .ref 192) rfl o26 rfl rfl ?_
  refine q_iload_n rfl rfl ?_
  have e192_26 := (f26.ne rfl (f25.ne rfl e192_24))
  refine s_iaload (j := 11) (v := .int 0) rfl e192_26 (by decide) rfl (by first | rfl | decide) ?_
  have e193_26 := (f26.ne rfl o25)
  refine s_iastore (j := 11) rfl e193_26 (by decide) rfl (fun h27 o27 f27 => ?_)
  have s27 := s26.put f27
  refine q_aload_n rfl rfl ?_
  refine q_dup rfl rfl ?_
  have e191_27 := (o26.ne f27 rfl)
  refine s_get (v := .int 11) rfl e191_27 rfl rfl ?_
  refine q_iconst rfl ?_
  refine s_iadd (k := 12) rfl (by decide) ?_
  refine s_put (vs' := [.int 0, .ref 192, .ref 193, .int 12, .ref 194, .ref 195, .ref 196, .ref 197, .ref 198, .ref 199, .ref 200, .ref 201, .ref 202, .ref 203, .ref 204, .ref 205, .int (-1), .int 0, .ref 206, .ref 207, .ref 208, .ref 209, .ref 210, .ref 211, .ref 212, .ref 213, .ref 214, .ref 215, .int 0, .int 0, .int 0, .int 0, .ref 216, .ref 217, .ref 218, .ref 219, .ref 220, .int (-1), .int 0, .int 0, .int 0, .int 0, .int 0, .int 0, .ref 221, .ref 222, .ref 223, .ref 224, .int 0, .ref 225, .int 0, .ref 226, .ref 227, .int 0, .ref 228, .ref 229, .ref 230, .ref 231, .ref 232]) rfl e191_27 rfl rfl rfl rfl (fun h28 o28 f28 => ?_)
  have s28 := s27.put f28
  refine s_iinc (y := 12) (lv' := [(2, .int 12), (0, .ref 191), (1, .int 12)]) rfl rfl (by decide) (by decide) rfl ?_
  refine q_goto rfl ?_
  refine q_iload_n rfl rfl ?_
  refine q_iload_n rfl rfl ?_
  refine q_icmp_ge rfl (fun _ => ?_) (fun c => absurd (by decide) c)
  refine q_iconst rfl ?_
  refine s_istore_n (lv' := [(2, .int 0), (0, .ref 191), (1, .int 12)]) rfl (by decide) rfl ?_
  have e192_28 := (f28.ne rfl (f27.ne rfl e192_26))
  refine en_loop (m := 191) (a := 192) rfl rfl (by decide) (by decide) 20 0 h28 _ rfl o28 e192_28 (fun h29 f29 => ?_)
  have s29 := s28.put f29
  show aW aiP 217 16 636 88 [(2, .int 20), (0, .ref 191), (1, .int 12)] [] h29 _
  refine q_aload_n rfl rfl ?_
  have e191_29 := (o28.ne f29 rfl)
  refine s_get (v := .int 12) rfl e191_29 rfl rfl ?_
  refine q_ireturn rfl rfl ?_
  show aW aiP 0 17 658 243 [(4, .int 0), (3, .ref 233), (2, .ref 191), (1, .ref 6), (0, .ref 0)] [.int 12, .int 12] h29 _
  refine q_icmp_eq rfl (fun _ => ?_) (fun c => absurd (by decide) c)
  refine s_iinc (y := 6) (lv' := [(4, .int 6), (3, .ref 233), (2, .ref 191), (1, .ref 6), (0, .ref 0)]) rfl rfl (by decide) (by decide) rfl ?_
  refine q_goto rfl ?_
  refine q_iload rfl rfl ?_
  refine q_aload_n rfl rfl ?_
  have e0_29 := (f29.ne rfl (f28.ne rfl (f27.ne rfl (f26.ne rfl (f25.ne rfl (f24.ne rfl (f23.ne rfl (f22.ne rfl (f21.ne rfl (f20.ne rfl (f19.ne rfl (f18.ne rfl (f17.ne rfl (f16.ne rfl (f15.ne rfl (f14.ne rfl (f13.ne rfl (f12.ne rfl (f11.ne rfl (f10.ne rfl (f9.ne rfl (f8.ne rfl (f7.ne rfl (f6.ne rfl (f5.ne rfl (f4.ne rfl e0_3))))))))))))))))))))))))))
  refine s_alen (x := 6) rfl e0_29 rfl (by decide) ?_
  refine q_bipush rfl ?_
  refine s_isub (k := 0) rfl (by decide) ?_
  refine q_icmp_gt rfl (fun _ => ?_) (fun c => absurd (by decide) c)
  refine q_iconst rfl ?_
  refine q_ireturn rfl rfl ?_
  exact ⟨rfl, s29.bd rfl⟩
set_option maxRecDepth 20000 in
set_option maxHeartbeats 4000000 in
theorem p_case1_13 {xs : Nat → Int32} {h : ai_H} (F : Fresh 6 xs h) (hk : xs 0 &&& 31 = 1) (hw : xs 1 = 13) : aW aiP 0 17 658 33 [(4, .int 0), (3, .ref 233), (2, .ref 191), (1, .ref 6), (0, .ref 0)] [] h p_Q := by
  have s0 := F.2.2.2.2.2.2.2.2.2.2.2.2.2.2.2.2.2.2.2.2.2.2.2.2.2.2.2.2.2.2.2.2.2.2.2.2.2.2.2.2.2.2.2.2.2.2.2.2.2.2.2.2.2.2.2.2.2.2.2.2.2.2.2.2.2.2.2.2.2.2
  refine q_aload_n rfl rfl ?_
  refine q_iload rfl rfl ?_
  have e0 := F.1
  refine s_iaload (j := 0) (v := .int (xs 0)) rfl e0 (by decide) rfl (by first | rfl | decide) ?_
  refine q_bipush rfl ?_
  refine s_iand (k := ((xs 0) &&& (31 : Int32))) rfl rfl ?_
  rw [hk]
  show aW aiP 0 17 658 40 [(4, .int 0), (3, .ref 233), (2, .ref 191), (1, .ref 6), (0, .ref 0)] [.int 1] h _
  refine s_sw (tg := 223) rfl rfl ?_
  refine q_aload_n rfl rfl ?_
  refine q_aload_n rfl rfl ?_
  refine q_iload rfl rfl ?_
  refine q_iconst rfl ?_
  refine s_iadd (k := 1) rfl (by decide) ?_
  refine s_iaload (j := 1) (v := .int (xs 1)) rfl e0 (by decide) rfl (by first | rfl | decide) ?_
  rw [hw]
  have e6 := F.2.2.2.2.2.2.1
  refine s_callV (as := [.int 13]) (rest := []) (d' := 16) (w' := 637) (lv' := [(0, .ref 6), (1, .int 13)]) rfl e6 rfl rfl rfl rfl rfl rfl ?_
  refine q_iload_n rfl rfl ?_
  refine q_if_lt rfl (fun c => absurd c (by decide)) (fun _ => ?_)
  refine q_iload_n rfl rfl ?_
  refine q_bipush rfl ?_
  refine q_icmp_gt rfl (fun c => absurd c (by decide)) (fun _ => ?_)
  refine q_aload_n rfl rfl ?_
  refine s_get (v := .int 0) rfl e6 rfl rfl ?_
  refine q_iload_n rfl rfl ?_
  refine s_iadd (k := 13) rfl (by decide) ?_
  refine q_sipush rfl ?_
  refine q_icmp_le rfl (fun _ => ?_) (fun c => absurd (by decide) c)
  refine q_aload_n rfl rfl ?_
  refine s_get (v := .ref 7) rfl e6 rfl rfl ?_
  refine q_iconst rfl ?_
  refine q_aload_n rfl rfl ?_
  refine s_get (v := .ref 8) rfl e6 rfl rfl ?_
  refine q_aload_n rfl rfl ?_
  refine s_get (v := .int 0) rfl e6 rfl rfl ?_
  refine q_iload_n rfl rfl ?_
  have e7 := F.2.2.2.2.2.2.2.1
  have e8 := F.2.2.2.2.2.2.2.2.1
  refine s_copy (sp := 0) (dp := 0) (k := 13) rfl e7 e8 (by decide) (by decide) (by decide) rfl (by decide) (by decide) (by decide) (fun i _ => rfl) (fun h1 o1 f1 => ?_)
  have s1 := s0.put f1
  refine q_aload_n rfl rfl ?_
  refine q_dup rfl rfl ?_
  have e6_1 := (e6.ne f1 rfl)
  refine s_get (v := .int 0) rfl e6_1 rfl rfl ?_
  refine q_iload_n rfl rfl ?_
  refine s_iadd (k := 13) rfl (by decide) ?_
  refine s_put (vs' := [.ref 7, .ref 8, .int 13, .ref 9, .int (-1), .ref 51, .ref 93, .ref 135, .ref 177, .ref 180, .int 0, .ref 183, .ref 186, .ref 189]) rfl e6_1 rfl rfl rfl rfl (fun h2 o2 f2 => ?_)
  have s2 := s1.put f2
  refine q_aload_n rfl rfl ?_
  refine s_get (v := .ref 7) rfl o2 rfl rfl ?_
  refine q_iconst rfl ?_
  refine s_callS (as := [.ref 7, .int 0]) (rest := []) (d' := 15) (w' := 614) (lv' := [(0, .ref 7), (1, .int 0)]) rfl rfl rfl rfl rfl rfl rfl rfl ?_
  refine q_iconst rfl ?_
  refine s_istore_n (lv' := [(2, .int 0), (0, .ref 7), (1, .int 0)]) rfl (by decide) rfl ?_
  refine q_aload_n rfl rfl ?_
  have e7_2 := (f2.ne rfl (f1.ne rfl e7))
  refine s_alen (x := 20) rfl e7_2 rfl (by decide) ?_
  refine s_istore_n (lv' := [(3, .int 20), (2, .int 0), (0, .ref 7), (1, .int 0)]) rfl (by decide) rfl ?_
  refine aW_lv (l := [(2, .int (nI 0)), (3, .int 20), (0, .ref 7), (1, .int 0)]) ?_ rfl rfl (by repeat' (first | exact inL_n | refine inL_c rfl ?_))
  refine fi_loop (a := 7) (by decide) 20 0 h2 _ rfl e7_2 (fun h3 f3 => ?_)
  have s3 := s2.put f3
  show aW aiP 15 16 637 59 [(0, .ref 6), (1, .int 13)] [] h3 _
  refine q_aload_n rfl rfl ?_
  have e6_3 := (o2.ne f3 rfl)
  refine s_get (v := .int 13) rfl e6_3 rfl rfl ?_
  refine q_ireturn rfl rfl ?_
  show aW aiP 0 17 658 233 [(4, .int 0), (3, .ref 233), (2, .ref 191), (1, .ref 6), (0, .ref 0)] [.int 13] h3 _
  refine q_aload_n rfl rfl ?_
  refine q_aload_n rfl rfl ?_
  refine q_iload rfl rfl ?_
  refine q_iconst rfl ?_
  refine s_iadd (k := 1) rfl (by decide) ?_
  have e0_3 := (f3.ne rfl (f2.ne rfl (f1.ne rfl e0)))
  refine s_iaload (j := 1) (v := .int (xs 1)) rfl e0_3 (by decide) rfl (by first | rfl | decide) ?_
  rw [hw]
  have e191 := F.2.2.2.2.2.2.2.2.2.2.2.2.2.2.2.2.2.2.2.2.2.2.2.2.2.2.2.1
  have e191_3 := (((e191.ne f1 rfl).ne f2 rfl).ne f3 rfl)
  refine s_callV (as := [.int 13]) (rest := [.int 13]) (d' := 16) (w' := 636) (lv' := [(0, .ref 191), (1, .int 13)]) rfl e191_3 rfl rfl rfl rfl rfl rfl ?_
  refine q_aload_n rfl rfl ?_
  refine q_iconst rfl ?_
  refine s_put (vs' := [.int 0, .ref 192, .ref 193, .int 0, .ref 194, .ref 195, .ref 196, .ref 197, .ref 198, .ref 199, .ref 200, .ref 201, .ref 202, .ref 203, .ref 204, .ref 205, .int (-1), .int 0, .ref 206, .ref 207, .ref 208, .ref 209, .ref 210, .ref 211, .ref 212, .ref 213, .ref 214, .ref 215, .int 0, .int 0, .int 0, .int 0, .ref 216, .ref 217, .ref 218, .ref 219, .ref 220, .int (-1), .int 0, .int 0, .int 0, .int 0, .int 0, .int 0, .ref 221, .ref 222, .ref 223, .ref 224, .int 0, .ref 225, .int 0, .ref 226, .ref 227, .int 0, .ref 228, .ref 229, .ref 230, .ref 231, .ref 232]) rfl e191_3 rfl rfl rfl rfl (fun h4 o4 f4 => ?_)
  have s4 := s3.put f4
  refine q_iload_n rfl rfl ?_
  refine q_if_lt rfl (fun c => absurd c (by decide)) (fun _ => ?_)
  refine q_iload_n rfl rfl ?_
  refine q_bipush rfl ?_
  refine q_icmp_gt rfl (fun c => absurd c (by decide)) (fun _ => ?_)
  refine q_aload_n rfl rfl ?_
  refine s_get (v := .int 0) rfl o4 rfl rfl ?_
  refine q_iload_n rfl rfl ?_
  refine s_iadd (k := 13) rfl (by decide) ?_
  refine q_sipush rfl ?_
  refine q_icmp_le rfl (fun _ => ?_) (fun c => absurd (by decide) c)
  refine q_iconst rfl ?_
  refine s_istore_n (lv' := [(2, .int 0), (0, .ref 191), (1, .int 13)]) rfl (by decide) rfl ?_
  refine q_iload_n rfl rfl ?_
  refine q_iload_n rfl rfl ?_
  refine q_icmp_ge rfl (fun c => absurd c (by decide)) (fun _ => ?_)
  refine q_aload_n rfl rfl ?_
  refine s_get (v := .ref 193) rfl o4 rfl rfl ?_
  refine q_aload_n rfl rfl ?_
  refine s_get (v := .int 0) rfl o4 rfl rfl ?_
  refine q_aload_n rfl rfl ?_
  refine s_get (v := .ref 192) rfl o4 rfl rfl ?_
  refine q_iload_n rfl rfl ?_
  have e192 := F.2.2.2.2.2.2.2.2.2.2.2.2.2.2.2.2.2.2.2.2.2.2.2.2.2.2.2.2.1
  have e192_4 := (f4.ne rfl (f3.ne rfl (f2.ne rfl (f1.ne rfl e192))))
  refine s_iaload (j := 0) (v := .int 0) rfl e192_4 (by decide) rfl (by first | rfl | decide) ?_
  have e193 := F.2.2.2.2.2.2.2.2.2.2.2.2.2.2.2.2.2.2.2.2.2.2.2.2.2.2.2.2.2.1
  have e193_4 := (f4.ne rfl (f3.ne rfl (f2.ne rfl (f1.ne rfl e193))))
  refine s_iastore (j := 0) rfl e193_4 (by decide) rfl (fun h5 o5 f5 => ?_)
  have s5 := s4.put f5
  refine q_aload_n rfl rfl ?_
  refine q_dup rfl rfl ?_
  have e191_5 := (o4.ne f5 rfl)
  refine s_get (v := .int 0) rfl e191_5 rfl rfl ?_
  refine q_iconst rfl ?_
  refine s_iadd (k := 1) rfl (by decide) ?_
  refine s_put (vs' := [.int 0, .ref 192, .ref 193, .int 1, .ref 194, .ref 195, .ref 196, .ref 197, .ref 198, .ref 199, .ref 200, .ref 201, .ref 202, .ref 203, .ref 204, .ref 205, .int (-1), .int 0, .ref 206, .ref 207, .ref 208, .ref 209, .ref 210, .ref 211, .ref 212, .ref 213, .ref 214, .ref 215, .int 0, .int 0, .int 0, .int 0, .ref 216, .ref 217, .ref 218, .ref 219, .ref 220, .int (-1), .int 0, .int 0, .int 0, .int 0, .int 0, .int 0, .ref 221, .ref 222, .ref 223, .ref 224, .int 0, .ref 225, .int 0, .ref 226, .ref 227, .int 0, .ref 228, .ref 229, .ref 230, .ref 231, .ref 232]) rfl e191_5 rfl rfl rfl rfl (fun h6 o6 f6 => ?_)
  have s6 := s5.put f6
  refine s_iinc (y := 1) (lv' := [(2, .int 1), (0, .ref 191), (1, .int 13)]) rfl rfl (by decide) (by decide) rfl ?_
  refine q_goto rfl ?_
  refine q_iload_n rfl rfl ?_
  refine q_iload_n rfl rfl ?_
  refine q_icmp_ge rfl (fun c => absurd c (by decide)) (fun _ => ?_)
  refine q_aload_n rfl rfl ?_
  refine s_get (v := .ref 193) rfl o6 rfl rfl ?_
  refine q_aload_n rfl rfl ?_
  refine s_get (v := .int 1) rfl o6 rfl rfl ?_
  refine q_aload_n rfl rfl ?_
  refine s_get (v := .ref 192) rfl o6 rfl rfl ?_
  refine q_iload_n rfl rfl ?_
  have e192_6 := (f6.ne rfl (f5.ne rfl e192_4))
  refine s_iaload (j := 1) (v := .int 0) rfl e192_6 (by decide) rfl (by first | rfl | decide) ?_
  have e193_6 := (f6.ne rfl o5)
  refine s_iastore (j := 1) rfl e193_6 (by decide) rfl (fun h7 o7 f7 => ?_)
  have s7 := s6.put f7
  refine q_aload_n rfl rfl ?_
  refine q_dup rfl rfl ?_
  have e191_7 := (o6.ne f7 rfl)
  refine s_get (v := .int 1) rfl e191_7 rfl rfl ?_
  refine q_iconst rfl ?_
  refine s_iadd (k := 2) rfl (by decide) ?_
  refine s_put (vs' := [.int 0, .ref 192, .ref 193, .int 2, .ref 194, .ref 195, .ref 196, .ref 197, .ref 198, .ref 199, .ref 200, .ref 201, .ref 202, .ref 203, .ref 204, .ref 205, .int (-1), .int 0, .ref 206, .ref 207, .ref 208, .ref 209, .ref 210, .ref 211, .ref 212, .ref 213, .ref 214, .ref 215, .int 0, .int 0, .int 0, .int 0, .ref 216, .ref 217, .ref 218, .ref 219, .ref 220, .int (-1), .int 0, .int 0, .int 0, .int 0, .int 0, .int 0, .ref 221, .ref 222, .ref 223, .ref 224, .int 0, .ref 225, .int 0, .ref 226, .ref 227, .int 0, .ref 228, .ref 229, .ref 230, .ref 231, .ref 232]) rfl e191_7 rfl rfl rfl rfl (fun h8 o8 f8 => ?_)
  have s8 := s7.put f8
  refine s_iinc (y := 2) (lv' := [(2, .int 2), (0, .ref 191), (1, .int 13)]) rfl rfl (by decide) (by decide) rfl ?_
  refine q_goto rfl ?_
  refine q_iload_n rfl rfl ?_
  refine q_iload_n rfl rfl ?_
  refine q_icmp_ge rfl (fun c => absurd c (by decide)) (fun _ => ?_)
  refine q_aload_n rfl rfl ?_
  refine s_get (v := .ref 193) rfl o8 rfl rfl ?_
  refine q_aload_n rfl rfl ?_
  refine s_get (v := .int 2) rfl o8 rfl rfl ?_
  refine q_aload_n rfl rfl ?_
  refine s_get (v := .ref 192) rfl o8 rfl rfl ?_
  refine q_iload_n rfl rfl ?_
  have e192_8 := (f8.ne rfl (f7.ne rfl e192_6))
  refine s_iaload (j := 2) (v := .int 0) rfl e192_8 (by decide) rfl (by first | rfl | decide) ?_
  have e193_8 := (f8.ne rfl o7)
  refine s_iastore (j := 2) rfl e193_8 (by decide) rfl (fun h9 o9 f9 => ?_)
  have s9 := s8.put f9
  refine q_aload_n rfl rfl ?_
  refine q_dup rfl rfl ?_
  have e191_9 := (o8.ne f9 rfl)
  refine s_get (v := .int 2) rfl e191_9 rfl rfl ?_
  refine q_iconst rfl ?_
  refine s_iadd (k := 3) rfl (by decide) ?_
  refine s_put (vs' := [.int 0, .ref 192, .ref 193, .int 3, .ref 194, .ref 195, .ref 196, .ref 197, .ref 198, .ref 199, .ref 200, .ref 201, .ref 202, .ref 203, .ref 204, .ref 205, .int (-1), .int 0, .ref 206, .ref 207, .ref 208, .ref 209, .ref 210, .ref 211, .ref 212, .ref 213, .ref 214, .ref 215, .int 0, .int 0, .int 0, .int 0, .ref 216, .ref 217, .ref 218, .ref 219, .ref 220, .int (-1), .int 0, .int 0, .int 0, .int 0, .int 0, .int 0, .ref 221, .ref 222, .ref 223, .ref 224, .int 0, .ref 225, .int 0, .ref 226, .ref 227, .int 0, .ref 228, .ref 229, .ref 230, .ref 231, .ref 232]) rfl e191_9 rfl rfl rfl rfl (fun h10 o10 f10 => ?_)
  have s10 := s9.put f10
  refine s_iinc (y := 3) (lv' := [(2, .int 3), (0, .ref 191), (1, .int 13)]) rfl rfl (by decide) (by decide) rfl ?_
  refine q_goto rfl ?_
  refine q_iload_n rfl rfl ?_
  refine q_iload_n rfl rfl ?_
  refine q_icmp_ge rfl (fun c => absurd c (by decide)) (fun _ => ?_)
  refine q_aload_n rfl rfl ?_
  refine s_get (v := .ref 193) rfl o10 rfl rfl ?_
  refine q_aload_n rfl rfl ?_
  refine s_get (v := .int 3) rfl o10 rfl rfl ?_
  refine q_aload_n rfl rfl ?_
  refine s_get (v := .ref 192) rfl o10 rfl rfl ?_
  refine q_iload_n rfl rfl ?_
  have e192_10 := (f10.ne rfl (f9.ne rfl e192_8))
  refine s_iaload (j := 3) (v := .int 0) rfl e192_10 (by decide) rfl (by first | rfl | decide) ?_
  have e193_10 := (f10.ne rfl o9)
  refine s_iastore (j := 3) rfl e193_10 (by decide) rfl (fun h11 o11 f11 => ?_)
  have s11 := s10.put f11
  refine q_aload_n rfl rfl ?_
  refine q_dup rfl rfl ?_
  have e191_11 := (o10.ne f11 rfl)
  refine s_get (v := .int 3) rfl e191_11 rfl rfl ?_
  refine q_iconst rfl ?_
  refine s_iadd (k := 4) rfl (by decide) ?_
  refine s_put (vs' := [.int 0, .ref 192, .ref 193, .int 4, .ref 194, .ref 195, .ref 196, .ref 197, .ref 198, .ref 199, .ref 200, .ref 201, .ref 202, .ref 203, .ref 204, .ref 205, .int (-1), .int 0, .ref 206, .ref 207, .ref 208, .ref 209, .ref 210, .ref 211, .ref 212, .ref 213, .ref 214, .ref 215, .int 0, .int 0, .int 0, .int 0, .ref 216, .ref 217, .ref 218, .ref 219, .ref 220, .int (-1), .int 0, .int 0, .int 0, .int 0, .int 0, .int 0, .ref 221, .ref 222, .ref 223, .ref 224, .int 0, .ref 225, .int 0, .ref 226, .ref 227, .int 0, .ref 228, .ref 229, .ref 230, .ref 231, .ref 232]) rfl e191_11 rfl rfl rfl rfl (fun h12 o12 f12 => ?_)
  have s12 := s11.put f12
  refine s_iinc (y := 4) (lv' := [(2, .int 4), (0, .ref 191), (1, .int 13)]) rfl rfl (by decide) (by decide) rfl ?_
  refine q_goto rfl ?_
  refine q_iload_n rfl rfl ?_
  refine q_iload_n rfl rfl ?_
  refine q_icmp_ge rfl (fun c => absurd c (by decide)) (fun _ => ?_)
  refine q_aload_n rfl rfl ?_
  refine s_get (v := .ref 193) rfl o12 rfl rfl ?_
  refine q_aload_n rfl rfl ?_
  refine s_get (v := .int 4) rfl o12 rfl rfl ?_
  refine q_aload_n rfl rfl ?_
  refine s_get (v := .ref 192) rfl o12 rfl rfl ?_
  refine q_iload_n rfl rfl ?_
  have e192_12 := (f12.ne rfl (f11.ne rfl e192_10))
  refine s_iaload (j := 4) (v := .int 0) rfl e192_12 (by decide) rfl (by first | rfl | decide) ?_
  have e193_12 := (f12.ne rfl o11)
  refine s_iastore (j := 4) rfl e193_12 (by decide) rfl (fun h13 o13 f13 => ?_)
  have s13 := s12.put f13
  refine q_aload_n rfl rfl ?_
  refine q_dup rfl rfl ?_
  have e191_13 := (o12.ne f13 rfl)
  refine s_get (v := .int 4) rfl e191_13 rfl rfl ?_
  refine q_iconst rfl ?_
  refine s_iadd (k := 5) rfl (by decide) ?_
  refine s_put (vs' := [.int 0, .ref 192, .ref 193, .int 5, .ref 194, .ref 195, .ref 196, .ref 197, .ref 198, .ref 199, .ref 200, .ref 201, .ref 202, .ref 203, .ref 204, .ref 205, .int (-1), .int 0, .ref 206, .ref 207, .ref 208, .ref 209, .ref 210, .ref 211, .ref 212, .ref 213, .ref 214, .ref 215, .int 0, .int 0, .int 0, .int 0, .ref 216, .ref 217, .ref 218, .ref 219, .ref 220, .int (-1), .int 0, .int 0, .int 0, .int 0, .int 0, .int 0, .ref 221, .ref 222, .ref 223, .ref 224, .int 0, .ref 225, .int 0, .ref 226, .ref 227, .int 0, .ref 228, .ref 229, .ref 230, .ref 231, .ref 232]) rfl e191_13 rfl rfl rfl rfl (fun h14 o14 f14 => ?_)
  have s14 := s13.put f14
  refine s_iinc (y := 5) (lv' := [(2, .int 5), (0, .ref 191), (1, .int 13)]) rfl rfl (by decide) (by decide) rfl ?_
  refine q_goto rfl ?_
  refine q_iload_n rfl rfl ?_
  refine q_iload_n rfl rfl ?_
  refine q_icmp_ge rfl (fun c => absurd c (by decide)) (fun _ => ?_)
  refine q_aload_n rfl rfl ?_
  refine s_get (v := .ref 193) rfl o14 rfl rfl ?_
  refine q_aload_n rfl rfl ?_
  refine s_get (v := .int 5) rfl o14 rfl rfl ?_
  refine q_aload_n rfl rfl ?_
  refine s_get (v := .ref 192) rfl o14 rfl rfl ?_
  refine q_iload_n rfl rfl ?_
  have e192_14 := (f14.ne rfl (f13.ne rfl e192_12))
  refine s_iaload (j := 5) (v := .int 0) rfl e192_14 (by decide) rfl (by first | rfl | decide) ?_
  have e193_14 := (f14.ne rfl o13)
  refine s_iastore (j := 5) rfl e193_14 (by decide) rfl (fun h15 o15 f15 => ?_)
  have s15 := s14.put f15
  refine q_aload_n rfl rfl ?_
  refine q_dup rfl rfl ?_
  have e191_15 := (o14.ne f15 rfl)
  refine s_get (v := .int 5) rfl e191_15 rfl rfl ?_
  refine q_iconst rfl ?_
  refine s_iadd (k := 6) rfl (by decide) ?_
  refine s_put (vs' := [.int 0, .ref 192, .ref 193, .int 6, .ref 194, .ref 195, .ref 196, .ref 197, .ref 198, .ref 199, .ref 200, .ref 201, .ref 202, .ref 203, .ref 204, .ref 205, .int (-1), .int 0, .ref 206, .ref 207, .ref 208, .ref 209, .ref 210, .ref 211, .ref 212, .ref 213, .ref 214, .ref 215, .int 0, .int 0, .int 0, .int 0, .ref 216, .ref 217, .ref 218, .ref 219, .ref 220, .int (-1), .int 0, .int 0, .int 0, .int 0, .int 0, .int 0, .ref 221, .ref 222, .ref 223, .ref 224, .int 0, .ref 225, .int 0, .ref 226, .ref 227, .int 0, .ref 228, .ref 229, .ref 230, .ref 231, .ref 232]) rfl e191_15 rfl rfl rfl rfl (fun h16 o16 f16 => ?_)
  have s16 := s15.put f16
  refine s_iinc (y := 6) (lv' := [(2, .int 6), (0, .ref 191), (1, .int 13)]) rfl rfl (by decide) (by decide) rfl ?_
  refine q_goto rfl ?_
  refine q_iload_n rfl rfl ?_
  refine q_iload_n rfl rfl ?_
  refine q_icmp_ge rfl (fun c => absurd c (by decide)) (fun _ => ?_)
  refine q_aload_n rfl rfl ?_
  refine s_get (v := .ref 193) rfl o16 rfl rfl ?_
  refine q_aload_n rfl rfl ?_
  refine s_get (v := .int 6) rfl o16 rfl rfl ?_
  refine q_aload_n rfl rfl ?_
  refine s_get (v := .ref 192) rfl o16 rfl rfl ?_
  refine q_iload_n rfl rfl ?_
  have e192_16 := (f16.ne rfl (f15.ne rfl e192_14))
  refine s_iaload (j := 6) (v := .int 0) rfl e192_16 (by decide) rfl (by first | rfl | decide) ?_
  have e193_16 := (f16.ne rfl o15)
  refine s_iastore (j := 6) rfl e193_16 (by decide) rfl (fun h17 o17 f17 => ?_)
  have s17 := s16.put f17
  refine q_aload_n rfl rfl ?_
  refine q_dup rfl rfl ?_
  have e191_17 := (o16.ne f17 rfl)
  refine s_get (v := .int 6) rfl e191_17 rfl rfl ?_
  refine q_iconst rfl ?_
  refine s_iadd (k := 7) rfl (by decide) ?_
  refine s_put (vs' := [.int 0, .ref 192, .ref 193, .int 7, .ref 194, .ref 195, .ref 196, .ref 197, .ref 198, .ref 199, .ref 200, .ref 201, .ref 202, .ref 203, .ref 204, .ref 205, .int (-1), .int 0, .ref 206, .ref 207, .ref 208, .ref 209, .ref 210, .ref 211, .ref 212, .ref 213, .ref 214, .ref 215, .int 0, .int 0, .int 0, .int 0, .ref 216, .ref 217, .ref 218, .ref 219, .ref 220, .int (-1), .int 0, .int 0, .int 0, .int 0, .int 0, .int 0, .ref 221, .ref 222, .ref 223, .ref 224, .int 0, .ref 225, .int 0, .ref 226, .ref 227, .int 0, .ref 228, .ref 229, .ref 230, .ref 231, .ref 232]) rfl e191_17 rfl rfl rfl rfl (fun h18 o18 f18 => ?_)
  have s18 := s17.put f18
  refine s_iinc (y := 7) (lv' := [(2, .int 7), (0, .ref 191), (1, .int 13)]) rfl rfl (by decide) (by decide) rfl ?_
  refine q_goto rfl ?_
  refine q_iload_n rfl rfl ?_
  refine q_iload_n rfl rfl ?_
  refine q_icmp_ge rfl (fun c => absurd c (by decide)) (fun _ => ?_)
  refine q_aload_n rfl rfl ?_
  refine s_get (v := .ref 193) rfl o18 rfl rfl ?_
  refine q_aload_n rfl rfl ?_
  refine s_get (v := .int 7) rfl o18 rfl rfl ?_
  refine q_aload_n rfl rfl ?_
  refine s_get (v := .ref 192) rfl o18 rfl rfl ?_
  refine q_iload_n rfl rfl ?_
  have e192_18 := (f18.ne rfl (f17.ne rfl e192_16))
  refine s_iaload (j := 7) (v := .int 0) rfl e192_18 (by decide) rfl (by first | rfl | decide) ?_
  have e193_18 := (f18.ne rfl o17)
  refine s_iastore (j := 7) rfl e193_18 (by decide) rfl (fun h19 o19 f19 => ?_)
  have s19 := s18.put f19
  refine q_aload_n rfl rfl ?_
  refine q_dup rfl rfl ?_
  have e191_19 := (o18.ne f19 rfl)
  refine s_get (v := .int 7) rfl e191_19 rfl rfl ?_
  refine q_iconst rfl ?_
  refine s_iadd (k := 8) rfl (by decide) ?_
  refine s_put (vs' := [.int 0, .ref 192, .ref 193, .int 8, .ref 194, .ref 195, .ref 196, .ref 197, .ref 198, .ref 199, .ref 200, .ref 201, .ref 202, .ref 203, .ref 204, .ref 205, .int (-1), .int 0, .ref 206, .ref 207, .ref 208, .ref 209, .ref 210, .ref 211, .ref 212, .ref 213, .ref 214, .ref 215, .int 0, .int 0, .int 0, .int 0, .ref 216, .ref 217, .ref 218, .ref 219, .ref 220, .int (-1), .int 0, .int 0, .int 0, .int 0, .int 0, .int 0, .ref 221, .ref 222, .ref 223, .ref 224, .int 0, .ref 225, .int 0, .ref 226, .ref 227, .int 0, .ref 228, .ref 229, .ref 230, .ref 231, .ref 232]) rfl e191_19 rfl rfl rfl rfl (fun h20 o20 f20 => ?_)
  have s20 := s19.put f20
  refine s_iinc (y := 8) (lv' := [(2, .int 8), (0, .ref 191), (1, .int 13)]) rfl rfl (by decide) (by decide) rfl ?_
  refine q_goto rfl ?_
  refine q_iload_n rfl rfl ?_
  refine q_iload_n rfl rfl ?_
  refine q_icmp_ge rfl (fun c => absurd c (by decide)) (fun _ => ?_)
  refine q_aload_n rfl rfl ?_
  refine s_get (v := .ref 193) rfl o20 rfl rfl ?_
  refine q_aload_n rfl rfl ?_
  refine s_get (v := .int 8) rfl o20 rfl rfl ?_
  refine q_aload_n rfl rfl ?_
  refine s_get (v := .ref 192) rfl o20 rfl rfl ?_
  refine q_iload_n rfl rfl ?_
  have e192_20 := (f20.ne rfl (f19.ne rfl e192_18))
  refine s_iaload (j := 8) (v := .int 0) rfl e192_20 (by decide) rfl (by first | rfl | decide) ?_
  have e193_20 := (f20.ne rfl o19)
  refine s_iastore (j := 8) rfl e193_20 (by decide) rfl (fun h21 o21 f21 => ?_)
  have s21 := s20.put f21
  refine q_aload_n rfl rfl ?_
  refine q_dup rfl rfl ?_
  have e191_21 := (o20.ne f21 rfl)
  refine s_get (v := .int 8) rfl e191_21 rfl rfl ?_
  refine q_iconst rfl ?_
  refine s_iadd (k := 9) rfl (by decide) ?_
  refine s_put (vs' := [.int 0, .ref 192, .ref 193, .int 9, .ref 194, .ref 195, .ref 196, .ref 197, .ref 198, .ref 199, .ref 200, .ref 201, .ref 202, .ref 203, .ref 204, .ref 205, .int (-1), .int 0, .ref 206, .ref 207, .ref 208, .ref 209, .ref 210, .ref 211, .ref 212, .ref 213, .ref 214, .ref 215, .int 0, .int 0, .int 0, .int 0, .ref 216, .ref 217, .ref 218, .ref 219, .ref 220, .int (-1), .int 0, .int 0, .int 0, .int 0, .int 0, .int 0, .ref 221, .ref 222, .ref 223, .ref 224, .int 0, .ref 225, .int 0, .ref 226, .ref 227, .int 0, .ref 228, .ref 229, .ref 230, .ref 231, .ref 232]) rfl e191_21 rfl rfl rfl rfl (fun h22 o22 f22 => ?_)
  have s22 := s21.put f22
  refine s_iinc (y := 9) (lv' := [(2, .int 9), (0, .ref 191), (1, .int 13)]) rfl rfl (by decide) (by decide) rfl ?_
  refine q_goto rfl ?_
  refine q_iload_n rfl rfl ?_
  refine q_iload_n rfl rfl ?_
  refine q_icmp_ge rfl (fun c => absurd c (by decide)) (fun _ => ?_)
  refine q_aload_n rfl rfl ?_
  refine s_get (v := .ref 193) rfl o22 rfl rfl ?_
  refine q_aload_n rfl rfl ?_
  refine s_get (v := .int 9) rfl o22 rfl rfl ?_
  refine q_aload_n rfl rfl ?_
  refine s_get (v := .ref 192) rfl o22 rfl rfl ?_
  refine q_iload_n rfl rfl ?_
  have e192_22 := (f22.ne rfl (f21.ne rfl e192_20))
  refine s_iaload (j := 9) (v := .int 0) rfl e192_22 (by decide) rfl (by first | rfl | decide) ?_
  have e193_22 := (f22.ne rfl o21)
  refine s_iastore (j := 9) rfl e193_22 (by decide) rfl (fun h23 o23 f23 => ?_)
  have s23 := s22.put f23
  refine q_aload_n rfl rfl ?_
  refine q_dup rfl rfl ?_
  have e191_23 := (o22.ne f23 rfl)
  refine s_get (v := .int 9) rfl e191_23 rfl rfl ?_
  refine q_iconst rfl ?_
  refine s_iadd (k := 10) rfl (by decide) ?_
  refine s_put (vs' := [.int 0, .ref 192, .ref 193, .int 10, .ref 194, .ref 195, .ref 196, .ref 197, .ref 198, .ref 199, .ref 200, .ref 201, .ref 202, .ref 203, .ref 204, .ref 205, .int (-1), .int 0, .ref 206, .ref 207, .ref 208, .ref 209, .ref 210, .ref 211, .ref 212, .ref 213, .ref 214, .ref 215, .int 0, .int 0, .int 0, .int 0, .ref 216, .ref 217, .ref 218, .ref 219, .ref 220, .int (-1), .int 0, .int 0, .int 0, .int 0, .int 0, .int 0, .ref 221, .ref 222, .ref 223, .ref 224, .int 0, .ref 225, .int 0, .ref 226, .ref 227, .int 0, .ref 228, .ref 229, .ref 230, .ref 231, .ref 232]) rfl e191_23 rfl rfl rfl rfl (fun h24 o24 f24 => ?_)
  have s24 := s23.put f24
  refine s_iinc (y := 10) (lv' := [(2, .int 10), (0, .ref 191), (1, .int 13)]) rfl rfl (by decide) (by decide) rfl ?_
  refine q_goto rfl ?_
  refine q_iload_n rfl rfl ?_
  refine q_iload_n rfl rfl ?_
  refine q_icmp_ge rfl (fun c => absurd c (by decide)) (fun _ => ?_)
  refine q_aload_n rfl rfl ?_
  refine s_get (v := .ref 193) rfl o24 rfl rfl ?_
  refine q_aload_n rfl rfl ?_
  refine s_get (v := .int 10) rfl o24 rfl rfl ?_
  refine q_aload_n rfl rfl ?_
  refine s_get (v := .ref 192) rfl o24 rfl rfl ?_
  refine q_iload_n rfl rfl ?_
  have e192_24 := (f24.ne rfl (f23.ne rfl e192_22))
  refine s_iaload (j := 10) (v := .int 0) rfl e192_24 (by decide) rfl (by first | rfl | decide) ?_
  have e193_24 := (f24.ne rfl o23)
  refine s_iastore (j := 10) rfl e193_24 (by decide) rfl (fun h25 o25 f25 => ?_)
  have s25 := s24.put f25
  refine q_aload_n rfl rfl ?_
  refine q_dup rfl rfl ?_
  have e191_25 := (o24.ne f25 rfl)
  refine s_get (v := .int 10) rfl e191_25 rfl rfl ?_
  refine q_iconst rfl ?_
  refine s_iadd (k := 11) rfl (by decide) ?_
  refine s_put (vs' := [.int 0, .ref 192, .ref 193, .int 11, .ref 194, .ref 195, .ref 196, .ref 197, .ref 198, .ref 199, .ref 200, .ref 201, .ref 202, .ref 203, .ref 204, .ref 205, .int (-1), .int 0, .ref 206, .ref 207, .ref 208, .ref 209, .ref 210, .ref 211, .ref 212, .ref 213, .ref 214, .ref 215, .int 0, .int 0, .int 0, .int 0, .ref 216, .ref 217, .ref 218, .ref 219, .ref 220, .int (-1), .int 0, .int 0, .int 0, .int 0, .int 0, .int 0, .ref 221, .ref 222, .ref 223, .ref 224, .int 0, .ref 225, .int 0, .ref 226, .ref 227, .int 0, .ref 228, .ref 229, .ref 230, .ref 231, .ref 232]) rfl e191_25 rfl rfl rfl rfl (fun h26 o26 f26 => ?_)
  have s26 := s25.put f26
  refine s_iinc (y := 11) (lv' := [(2, .int 11), (0, .ref 191), (1, .int 13)]) rfl rfl (by decide) (by decide) rfl ?_
  refine q_goto rfl ?_
  refine q_iload_n rfl rfl ?_
  refine q_iload_n rfl rfl ?_
  refine q_icmp_ge rfl (fun c => absurd c (by decide)) (fun _ => ?_)
  refine q_aload_n rfl rfl ?_
  refine s_get (v := .ref 193) rfl o26 rfl rfl ?_
  refine q_aload_n rfl rfl ?_
  refine s_get (v := .int 11) rfl o26 rfl rfl ?_
  refine q_aload_n rfl rfl ?_
  refine s_get (v := .ref 192) rfl o26 rfl rfl ?_
  refine q_iload_n rfl rfl ?_
  have e192_26 := (f26.ne rfl (f25.ne rfl e192_24))
  refine s_iaload (j := 11) (v := .int 0) rfl e192_26 (by decide) rfl (by first | rfl | decide) ?_
  have e193_26 := (f26.ne rfl o25)
  refine s_iastore (j := 11) rfl e193_26 (by decide) rfl (fun h27 o27 f27 => ?_)
  have s27 := s26.put f27
  refine q_aload_n rfl rfl ?_
  refine q_dup rfl rfl ?_
  have e191_27 := (o26.ne f27 rfl)
  refine s_get (v := .int 11) rfl e191_27 rfl rfl ?_
  refine q_iconst rfl ?_
  refine s_iadd (k := 12) rfl (by decide) ?_
  refine s_put (vs' := [.int 0, .ref 192, .ref 193, .int 12, .ref 194, .ref 195, .ref 196, .ref 197, .ref 198, .ref 199, .ref 200, .ref 201, .ref 202, .ref 203, .ref 204, .ref 205, .int (-1), .int 0, .ref 206, .ref 207, .ref 208, .ref 209, .ref 210, .ref 211, .ref 212, .ref 213, .ref 214, .ref 215, .int 0, .int 0, .int 0, .int 0, .ref 216, .ref 217, .ref 218, .ref 219, .ref 220, .int (-1), .int 0, .int 0, .int 0, .int 0, .int 0, .int 0, .ref 221, .ref 222, .ref 223, .ref 224, .int 0, .ref 225, .int 0, .ref 226, .ref 227, .int 0, .ref 228, .ref 229, .ref 230, .ref 231, .ref 232]) rfl e191_27 rfl rfl rfl rfl (fun h28 o28 f28 => ?_)
  have s28 := s27.put f28
  refine s_iinc (y := 12) (lv' := [(2, .int 12), (0, .ref 191), (1, .int 13)]) rfl rfl (by decide) (by decide) rfl ?_
  refine q_goto rfl ?_
  refine q_iload_n rfl rfl ?_
  refine q_iload_n rfl rfl ?_
  refine q_icmp_ge rfl (fun c => absurd c (by decide)) (fun _ => ?_)
  refine q_aload_n rfl rfl ?_
  refine s_get (v := .ref 193) rfl o28 rfl rfl ?_
  refine q_aload_n rfl rfl ?_
  refine s_get (v := .int 12) rfl o28 rfl rfl ?_
  refine q_aload_n rfl rfl ?_
  refine s_get (v := .ref 192) rfl o28 rfl rfl ?_
  refine q_iload_n rfl rfl ?_
  have e192_28 := (f28.ne rfl (f27.ne rfl e192_26))
  refine s_iaload (j := 12) (v := .int 0) rfl e192_28 (by decide) rfl (by first | rfl | decide) ?_
  have e193_28 := (f28.ne rfl o27)
  refine s_iastore (j := 12) rfl e193_28 (by decide) rfl (fun h29 o29 f29 => ?_)
  have s29 := s28.put f29
  refine q_aload_n rfl rfl ?_
  refine q_dup rfl rfl ?_
  have e191_29 := (o28.ne f29 rfl)
  refine s_get (v := .int 12) rfl e191_29 rfl rfl ?_
  refine q_iconst rfl ?_
  refine s_iadd (k := 13) rfl (by decide) ?_
  refine s_put (vs' := [.int 0, .ref 192, .ref 193, .int 13, .ref 194, .ref 195, .ref 196, .ref 197, .ref 198, .ref 199, .ref 200, .ref 201, .ref 202, .ref 203, .ref 204, .ref 205, .int (-1), .int 0, .ref 206, .ref 207, .ref 208, .ref 209, .ref 210, .ref 211, .ref 212, .ref 213, .ref 214, .ref 215, .int 0, .int 0, .int 0, .int 0, .ref 216, .ref 217, .ref 218, .ref 219, .ref 220, .int (-1), .int 0, .int 0, .int 0, .int 0, .int 0, .int 0, .ref 221, .ref 222, .ref 223, .ref 224, .int 0, .ref 225, .int 0, .ref 226, .ref 227, .int 0, .ref 228, .ref 229, .ref 230, .ref 231, .ref 232]) rfl e191_29 rfl rfl rfl rfl (fun h30 o30 f30 => ?_)
  have s30 := s29.put f30
  refine s_iinc (y := 13) (lv' := [(2, .int 13), (0, .ref 191), (1, .int 13)]) rfl rfl (by decide) (by decide) rfl ?_
  refine q_goto rfl ?_
  refine q_iload_n rfl rfl ?_
  refine q_iload_n rfl rfl ?_
  refine q_icmp_ge rfl (fun _ => ?_) (fun c => absurd (by decide) c)
  refine q_iconst rfl ?_
  refine s_istore_n (lv' := [(2, .int 0), (0, .ref 191), (1, .int 13)]) rfl (by decide) rfl ?_
  have e192_30 := (f30.ne rfl (f29.ne rfl e192_28))
  refine en_loop (m := 191) (a := 192) rfl rfl (by decide) (by decide) 20 0 h30 _ rfl o30 e192_30 (fun h31 f31 => ?_)
  have s31 := s30.put f31
  show aW aiP 217 16 636 88 [(2, .int 20), (0, .ref 191), (1, .int 13)] [] h31 _
  refine q_aload_n rfl rfl ?_
  have e191_31 := (o30.ne f31 rfl)
  refine s_get (v := .int 13) rfl e191_31 rfl rfl ?_
  refine q_ireturn rfl rfl ?_
  show aW aiP 0 17 658 243 [(4, .int 0), (3, .ref 233), (2, .ref 191), (1, .ref 6), (0, .ref 0)] [.int 13, .int 13] h31 _
  refine q_icmp_eq rfl (fun _ => ?_) (fun c => absurd (by decide) c)
  refine s_iinc (y := 6) (lv' := [(4, .int 6), (3, .ref 233), (2, .ref 191), (1, .ref 6), (0, .ref 0)]) rfl rfl (by decide) (by decide) rfl ?_
  refine q_goto rfl ?_
  refine q_iload rfl rfl ?_
  refine q_aload_n rfl rfl ?_
  have e0_31 := (f31.ne rfl (f30.ne rfl (f29.ne rfl (f28.ne rfl (f27.ne rfl (f26.ne rfl (f25.ne rfl (f24.ne rfl (f23.ne rfl (f22.ne rfl (f21.ne rfl (f20.ne rfl (f19.ne rfl (f18.ne rfl (f17.ne rfl (f16.ne rfl (f15.ne rfl (f14.ne rfl (f13.ne rfl (f12.ne rfl (f11.ne rfl (f10.ne rfl (f9.ne rfl (f8.ne rfl (f7.ne rfl (f6.ne rfl (f5.ne rfl (f4.ne rfl e0_3))))))))))))))))))))))))))))
  refine s_alen (x := 6) rfl e0_31 rfl (by decide) ?_
  refine q_bipush rfl ?_
  refine s_isub (k := 0) rfl (by decide) ?_
  refine q_icmp_gt rfl (fun _ => ?_) (fun c => absurd (by decide) c)
  refine q_iconst rfl ?_
  refine q_ireturn rfl rfl ?_
  exact ⟨rfl, s31.bd rfl⟩
set_option maxRecDepth 20000 in
set_option maxHeartbeats 4000000 in
theorem p_case1_14 {xs : Nat → Int32} {h : ai_H} (F : Fresh 6 xs h) (hk : xs 0 &&& 31 = 1) (hw : xs 1 = 14) : aW aiP 0 17 658 33 [(4, .int 0), (3, .ref 233), (2, .ref 191), (1, .ref 6), (0, .ref 0)] [] h p_Q := by
  have s0 := F.2.2.2.2.2.2.2.2.2.2.2.2.2.2.2.2.2.2.2.2.2.2.2.2.2.2.2.2.2.2.2.2.2.2.2.2.2.2.2.2.2.2.2.2.2.2.2.2.2.2.2.2.2.2.2.2.2.2.2.2.2.2.2.2.2.2.2.2.2.2
  refine q_aload_n rfl rfl ?_
  refine q_iload rfl rfl ?_
  have e0 := F.1
  refine s_iaload (j := 0) (v := .int (xs 0)) rfl e0 (by decide) rfl (by first | rfl | decide) ?_
  refine q_bipush rfl ?_
  refine s_iand (k := ((xs 0) &&& (31 : Int32))) rfl rfl ?_
  rw [hk]
  show aW aiP 0 17 658 40 [(4, .int 0), (3, .ref 233), (2, .ref 191), (1, .ref 6), (0, .ref 0)] [.int 1] h _
  refine s_sw (tg := 223) rfl rfl ?_
  refine q_aload_n rfl rfl ?_
  refine q_aload_n rfl rfl ?_
  refine q_iload rfl rfl ?_
  refine q_iconst rfl ?_
  refine s_iadd (k := 1) rfl (by decide) ?_
  refine s_iaload (j := 1) (v := .int (xs 1)) rfl e0 (by decide) rfl (by first | rfl | decide) ?_
  rw [hw]
  have e6 := F.2.2.2.2.2.2.1
  refine s_callV (as := [.int 14]) (rest := []) (d' := 16) (w' := 637) (lv' := [(0, .ref 6), (1, .int 14)]) rfl e6 rfl rfl rfl rfl rfl rfl ?_
  refine q_iload_n rfl rfl ?_
  refine q_if_lt rfl (fun c => absurd c (by decide)) (fun _ => ?_)
  refine q_iload_n rfl rfl ?_
  refine q_bipush rfl ?_
  refine q_icmp_gt rfl (fun c => absurd c (by decide)) (fun _ => ?_)
  refine q_aload_n rfl rfl ?_
  refine s_get (v := .int 0) rfl e6 rfl rfl ?_
  refine q_iload_n rfl rfl ?_
  refine s_iadd (k := 14) rfl (by decide) ?_
  refine q_sipush rfl ?_
  refine q_icmp_le rfl (fun _ => ?_) (fun c => absurd (by decide) c)
  refine q_aload_n rfl rfl ?_
  refine s_get (v := .ref 7) rfl e6 rfl rfl ?_
  refine q_iconst rfl ?_
  refine q_aload_n rfl rfl ?_
  refine s_get (v := .ref 8) rfl e6 rfl rfl ?_
  refine q_aload_n rfl rfl ?_
  refine s_get (v := .int 0) rfl e6 rfl rfl ?_
  refine q_iload_n rfl rfl ?_
  have e7 := F.2.2.2.2.2.2.2.1
  have e8 := F.2.2.2.2.2.2.2.2.1
  refine s_copy (sp := 0) (dp := 0) (k := 14) rfl e7 e8 (by decide) (by decide) (by decide) rfl (by decide) (by decide) (by decide) (fun i _ => rfl) (fun h1 o1 f1 => ?_)
  have s1 := s0.put f1
  refine q_aload_n rfl rfl ?_
  refine q_dup rfl rfl ?_
  have e6_1 := (e6.ne f1 rfl)
  refine s_get (v := .int 0) rfl e6_1 rfl rfl ?_
  refine q_iload_n rfl rfl ?_
  refine s_iadd (k := 14) rfl (by decide) ?_
  refine s_put (vs' := [.ref 7, .ref 8, .int 14, .ref 9, .int (-1), .ref 51, .ref 93, .ref 135, .ref 177, .ref 180, .int 0, .ref 183, .ref 186, .ref 189]) rfl e6_1 rfl rfl rfl rfl (fun h2 o2 f2 => ?_)
  have s2 := s1.put f2
  refine q_aload_n rfl rfl ?_
  refine s_get (v := .ref 7) rfl o2 rfl rfl ?_
  refine q_iconst rfl ?_
  refine s_callS (as := [.ref 7, .int 0]) (rest := []) (d' := 15) (w' := 614) (lv' := [(0, .ref 7), (1, .int 0)]) rfl rfl rfl rfl rfl rfl rfl rfl ?_
  refine q_iconst rfl ?_
  refine s_istore_n (lv' := [(2, .int 0), (0, .ref 7), (1, .int 0)]) rfl (by decide) rfl ?_
  refine q_aload_n rfl rfl ?_
  have e7_2 := (f2.ne rfl (f1.ne rfl e7))
  refine s_alen (x := 20) rfl e7_2 rfl (by decide) ?_
  refine s_istore_n (lv' := [(3, .int 20), (2, .int 0), (0, .ref 7), (1, .int 0)]) rfl (by decide) rfl ?_
  refine aW_lv (l := [(2, .int (nI 0)), (3, .int 20), (0, .ref 7), (1, .int 0)]) ?_ rfl rfl (by repeat' (first | exact inL_n | refine inL_c rfl ?_))
  refine fi_loop (a := 7) (by decide) 20 0 h2 _ rfl e7_2 (fun h3 f3 => ?_)
  have s3 := s2.put f3
  show aW aiP 15 16 637 59 [(0, .ref 6), (1, .int 14)] [] h3 _
  refine q_aload_n rfl rfl ?_
  have e6_3 := (o2.ne f3 rfl)
  refine s_get (v := .int 14) rfl e6_3 rfl rfl ?_
  refine q_ireturn rfl rfl ?_
  show aW aiP 0 17 658 233 [(4, .int 0), (3, .ref 233), (2, .ref 191), (1, .ref 6), (0, .ref 0)] [.int 14] h3 _
  refine q_aload_n rfl rfl ?_
  refine q_aload_n rfl rfl ?_
  refine q_iload rfl rfl ?_
  refine q_iconst rfl ?_
  refine s_iadd (k := 1) rfl (by decide) ?_
  have e0_3 := (f3.ne rfl (f2.ne rfl (f1.ne rfl e0)))
  refine s_iaload (j := 1) (v := .int (xs 1)) rfl e0_3 (by decide) rfl (by first | rfl | decide) ?_
  rw [hw]
  have e191 := F.2.2.2.2.2.2.2.2.2.2.2.2.2.2.2.2.2.2.2.2.2.2.2.2.2.2.2.1
  have e191_3 := (((e191.ne f1 rfl).ne f2 rfl).ne f3 rfl)
  refine s_callV (as := [.int 14]) (rest := [.int 14]) (d' := 16) (w' := 636) (lv' := [(0, .ref 191), (1, .int 14)]) rfl e191_3 rfl rfl rfl rfl rfl rfl ?_
  refine q_aload_n rfl rfl ?_
  refine q_iconst rfl ?_
  refine s_put (vs' := [.int 0, .ref 192, .ref 193, .int 0, .ref 194, .ref 195, .ref 196, .ref 197, .ref 198, .ref 199, .ref 200, .ref 201, .ref 202, .ref 203, .ref 204, .ref 205, .int (-1), .int 0, .ref 206, .ref 207, .ref 208, .ref 209, .ref 210, .ref 211, .ref 212, .ref 213, .ref 214, .ref 215, .int 0, .int 0, .int 0, .int 0, .ref 216, .ref 217, .ref 218, .ref 219, .ref 220, .int (-1), .int 0, .int 0, .int 0, .int 0, .int 0, .int 0, .ref 221, .ref 222, .ref 223, .ref 224, .int 0, .ref 225, .int 0, .ref 226, .ref 227, .int 0, .ref 228, .ref 229, .ref 230, .ref 231, .ref 232]) rfl e191_3 rfl rfl rfl rfl (fun h4 o4 f4 => ?_)
  have s4 := s3.put f4
  refine q_iload_n rfl rfl ?_
  refine q_if_lt rfl (fun c => absurd c (by decide)) (fun _ => ?_)
  refine q_iload_n rfl rfl ?_
  refine q_bipush rfl ?_
  refine q_icmp_gt rfl (fun c => absurd c (by decide)) (fun _ => ?_)
  refine q_aload_n rfl rfl ?_
  refine s_get (v := .int 0) rfl o4 rfl rfl ?_
  refine q_iload_n rfl rfl ?_
  refine s_iadd (k := 14) rfl (by decide) ?_
  refine q_sipush rfl ?_
  refine q_icmp_le rfl (fun _ => ?_) (fun c => absurd (by decide) c)
  refine q_iconst rfl ?_
  refine s_istore_n (lv' := [(2, .int 0), (0, .ref 191), (1, .int 14)]) rfl (by decide) rfl ?_
  refine q_iload_n rfl rfl ?_
  refine q_iload_n rfl rfl ?_
  refine q_icmp_ge rfl (fun c => absurd c (by decide)) (fun _ => ?_)
  refine q_aload_n rfl rfl ?_
  refine s_get (v := .ref 193) rfl o4 rfl rfl ?_
  refine q_aload_n rfl rfl ?_
  refine s_get (v := .int 0) rfl o4 rfl rfl ?_
  refine q_aload_n rfl rfl ?_
  refine s_get (v := .ref 192) rfl o4 rfl rfl ?_
  refine q_iload_n rfl rfl ?_
  have e192 := F.2.2.2.2.2.2.2.2.2.2.2.2.2.2.2.2.2.2.2.2.2.2.2.2.2.2.2.2.1
  have e192_4 := (f4.ne rfl (f3.ne rfl (f2.ne rfl (f1.ne rfl e192))))
  refine s_iaload (j := 0) (v := .int 0) rfl e192_4 (by decide) rfl (by first | rfl | decide) ?_
  have e193 := F.2.2.2.2.2.2.2.2.2.2.2.2.2.2.2.2.2.2.2.2.2.2.2.2.2.2.2.2.2.1
  have e193_4 := (f4.ne rfl (f3.ne rfl (f2.ne rfl (f1.ne rfl e193))))
  refine s_iastore (j := 0) rfl e193_4 (by decide) rfl (fun h5 o5 f5 => ?_)
  have s5 := s4.put f5
  refine q_aload_n rfl rfl ?_
  refine q_dup rfl rfl ?_
  have e191_5 := (o4.ne f5 rfl)
  refine s_get (v := .int 0) rfl e191_5 rfl rfl ?_
  refine q_iconst rfl ?_
  refine s_iadd (k := 1) rfl (by decide) ?_
  refine s_put (vs' := [.int 0, .ref 192, .ref 193, .int 1, .ref 194, .ref 195, .ref 196, .ref 197, .ref 198, .ref 199, .ref 200, .ref 201, .ref 202, .ref 203, .ref 204, .ref 205, .int (-1), .int 0, .ref 206, .ref 207, .ref 208, .ref 209, .ref 210, .ref 211, .ref 212, .ref 213, .ref 214, .ref 215, .int 0, .int 0, .int 0, .int 0, .ref 216, .ref 217, .ref 218, .ref 219, .ref 220, .int (-1), .int 0, .int 0, .int 0, .int 0, .int 0, .int 0, .ref 221, .ref 222, .ref 223, .ref 224, .int 0, .ref 225, .int 0, .ref 226, .ref 227, .int 0, .ref 228, .ref 229, .ref 230, .ref 231, .ref 232]) rfl e191_5 rfl rfl rfl rfl (fun h6 o6 f6 => ?_)
  have s6 := s5.put f6
  refine s_iinc (y := 1) (lv' := [(2, .int 1), (0, .ref 191), (1, .int 14)]) rfl rfl (by decide) (by decide) rfl ?_
  refine q_goto rfl ?_
  refine q_iload_n rfl rfl ?_
  refine q_iload_n rfl rfl ?_
  refine q_icmp_ge rfl (fun c => absurd c (by decide)) (fun _ => ?_)
  refine q_aload_n rfl rfl ?_
  refine s_get (v := .ref 193) rfl o6 rfl rfl ?_
  refine q_aload_n rfl rfl ?_
  refine s_get (v := .int 1) rfl o6 rfl rfl ?_
  refine q_aload_n rfl rfl ?_
  refine s_get (v := .ref 192) rfl o6 rfl rfl ?_
  refine q_iload_n rfl rfl ?_
  have e192_6 := (f6.ne rfl (f5.ne rfl e192_4))
  refine s_iaload (j := 1) (v := .int 0) rfl e192_6 (by decide) rfl (by first | rfl | decide) ?_
  have e193_6 := (f6.ne rfl o5)
  refine s_iastore (j := 1) rfl e193_6 (by decide) rfl (fun h7 o7 f7 => ?_)
  have s7 := s6.put f7
  refine q_aload_n rfl rfl ?_
  refine q_dup rfl rfl ?_
  have e191_7 := (o6.ne f7 rfl)
  refine s_get (v := .int 1) rfl e191_7 rfl rfl ?_
  refine q_iconst rfl ?_
  refine s_iadd (k := 2) rfl (by decide) ?_
  refine s_put (vs' := [.int 0, .ref 192, .ref 193, .int 2, .ref 194, .ref 195, .ref 196, .ref 197, .ref 198, .ref 199, .ref 200, .ref 201, .ref 202, .ref 203, .ref 204, .ref 205, .int (-1), .int 0, .ref 206, .ref 207, .ref 208, .ref 209, .ref 210, .ref 211, .ref 212, .ref 213, .ref 214, .ref 215, .int 0, .int 0, .int 0, .int 0, .ref 216, .ref 217, .ref 218, .ref 219, .ref 220, .int (-1), .int 0, .int 0, .int 0, .int 0, .int 0, .int 0, .ref 221, .ref 222, .ref 223, .ref 224, .int 0, .ref 225, .int 0, .ref 226, .ref 227, .int 0, .ref 228, .ref 229, .ref 230, .ref 231, .ref 232]) rfl e191_7 rfl rfl rfl rfl (fun h8 o8 f8 => ?_)
  have s8 := s7.put f8
  refine s_iinc (y := 2) (lv' := [(2, .int 2), (0, .ref 191), (1, .int 14)]) rfl rfl (by decide) (by decide) rfl ?_
  refine q_goto rfl ?_
  refine q_iload_n rfl rfl ?_
  refine q_iload_n rfl rfl ?_
  refine q_icmp_ge rfl (fun c => absurd c (by decide)) (fun _ => ?_)
  refine q_aload_n rfl rfl ?_
  refine s_get (v := .ref 193) rfl o8 rfl rfl ?_
  refine q_aload_n rfl rfl ?_
  refine s_get (v := .int 2) rfl o8 rfl rfl ?_
  refine q_aload_n rfl rfl ?_
  refine s_get (v := .ref 192) rfl o8 rfl rfl ?_
  refine q_iload_n rfl rfl ?_
  have e192_8 := (f8.ne rfl (f7.ne rfl e192_6))
  refine s_iaload (j := 2) (v := .int 0) rfl e192_8 (by decide) rfl (by first | rfl | decide) ?_
  have e193_8 := (f8.ne rfl o7)
  refine s_iastore (j := 2) rfl e193_8 (by decide) rfl (fun h9 o9 f9 => ?_)
  have s9 := s8.put f9
  refine q_aload_n rfl rfl ?_
  refine q_dup rfl rfl ?_
  have e191_9 := (o8.ne f9 rfl)
  refine s_get (v := .int 2) rfl e191_9 rfl rfl ?_
  refine q_iconst rfl ?_
  refine s_iadd (k := 3) rfl (by decide) ?_
  refine s_put (vs' := [.int 0, .ref 192, .ref 193, .int 3, .ref 194, .ref 195, .ref 196, .ref 197, .ref 198, .ref 199, .ref 200, .ref 201, .ref 202, .ref 203, .ref 204, .ref 205, .int (-1), .int 0, .ref 206, .ref 207, .ref 208, .ref 209, .ref 210, .ref 211, .ref 212, .ref 213, .ref 214, .ref 215, .int 0, .int 0, .int 0, .int 0, .ref 216, .ref 217, .ref 218, .ref 219, .ref 220, .int (-1), .int 0, .int 0, .int 0, .int 0, .int 0, .int 0, .ref 221, .ref 222, .ref 223, .ref 224, .int 0, .ref 225, .int 0, .ref 226, .ref 227, .int 0, .ref 228, .ref 229, .ref 230, .ref 231, .ref 232]) rfl e191_9 rfl rfl rfl rfl (fun h10 o10 f10 => ?_)
  have s10 := s9.put f10
  refine s_iinc (y := 3) (lv' := [(2, .int 3), (0, .ref 191), (1, .int 14)]) rfl rfl (by decide) (by decide) rfl ?_
  refine q_goto rfl ?_
  refine q_iload_n rfl rfl ?_
  refine q_iload_n rfl rfl ?_
  refine q_icmp_ge rfl (fun c => absurd c (by decide)) (fun _ => ?_)
  refine q_aload_n rfl rfl ?_
  refine s_get (v := .ref 193) rfl o10 rfl rfl ?_
  refine q_aload_n rfl rfl ?_
  refine s_get (v := .int 3) rfl o10 rfl rfl ?_
  refine q_aload_n rfl rfl ?_
  refine s_get (v := .ref 192) rfl o10 rfl rfl ?_
  refine q_iload_n rfl rfl ?_
  have e192_10 := (f10.ne rfl (f9.ne rfl e192_8))
  refine s_iaload (j := 3) (v := .int 0) rfl e192_10 (by decide) rfl (by first | rfl | decide) ?_
  have e193_10 := (f10.ne rfl o9)
  refine s_iastore (j := 3) rfl e193_10 (by decide) rfl (fun h11 o11 f11 => ?_)
  have s11 := s10.put f11
  refine q_aload_n rfl rfl ?_
  refine q_dup rfl rfl ?_
  have e191_11 := (o10.ne f11 rfl)
  refine s_get (v := .int 3) rfl e191_11 rfl rfl ?_
  refine q_iconst rfl ?_
  refine s_iadd (k := 4) rfl (by decide) ?_
  refine s_put (vs' := [.int 0, .ref 192, .ref 193, .int 4, .ref 194, .ref 195, .ref 196, .ref 197, .ref 198, .ref 199, .ref 200, .ref 201, .ref 202, .ref 203, .ref 204, .ref 205, .int (-1), .int 0, .ref 206, .ref 207, .ref 208, .ref 209, .ref 210, .ref 211, .ref 212, .ref 213, .ref 214, .ref 215, .int 0, .int 0, .int 0, .int 0, .ref 216, .ref 217, .ref 218, .ref 219, .ref 220, .int (-1), .int 0, .int 0, .int 0, .int 0, .int 0, .int 0, .ref 221, .ref 222, .ref 223, .ref 224, .int 0, .ref 225, .int 0, .ref 226, .ref 227, .int 0, .ref 228, .ref 229, .ref 230, .ref 231, .ref 232]) rfl e191_11 rfl rfl rfl rfl (fun h12 o12 f12 => ?_)
  have s12 := s11.put f12
  refine s_iinc (y := 4) (lv' := [(2, .int 4), (0, .ref 191), (1, .int 14)]) rfl rfl (by decide) (by decide) rfl ?_
  refine q_goto rfl ?_
  refine q_iload_n rfl rfl ?_
  refine q_iload_n rfl rfl ?_
  refine q_icmp_ge rfl (fun c => absurd c (by decide)) (fun _ => ?_)
  refine q_aload_n rfl rfl ?_
  refine s_get (v := .ref 193) rfl o12 rfl rfl ?_
  refine q_aload_n rfl rfl ?_
  refine s_get (v := .int 4) rfl o12 rfl rfl ?_
  refine q_aload_n rfl rfl ?_
  refine s_get (v := .ref 192) rfl o12 rfl rfl ?_
  refine q_iload_n rfl rfl ?_
  have e192_12 := (f12.ne rfl (f11.ne rfl e192_10))
  refine s_iaload (j := 4) (v := .int 0) rfl e192_12 (by decide) rfl (by first | rfl | decide) ?_
  have e193_12 := (f12.ne rfl o11)
  refine s_iastore (j := 4) rfl e193_12 (by decide) rfl (fun h13 o13 f13 => ?_)
  have s13 := s12.put f13
  refine q_aload_n rfl rfl ?_
  refine q_dup rfl rfl ?_
  have e191_13 := (o12.ne f13 rfl)
  refine s_get (v := .int 4) rfl e191_13 rfl rfl ?_
  refine q_iconst rfl ?_
  refine s_iadd (k := 5) rfl (by decide) ?_
  refine s_put (vs' := [.int 0, .ref 192, .ref 193, .int 5, .ref 194, .ref 195, .ref 196, .ref 197, .ref 198, .ref 199, .ref 200, .ref 201, .ref 202, .ref 203, .ref 204, .ref 205, .int (-1), .int 0, .ref 206, .ref 207, .ref 208, .ref 209, .ref 210, .ref 211, .ref 212, .ref 213, .ref 214, .ref 215, .int 0, .int 0, .int 0, .int 0, .ref 216, .ref 217, .ref 218, .ref 219, .ref 220, .int (-1), .int 0, .int 0, .int 0, .int 0, .int 0, .int 0, .ref 221, .ref 222, .ref 223, .ref 224, .int 0, .ref 225, .int 0, .ref 226, .ref 227, .int 0, .ref 228, .ref 229, .ref 230, .ref 231, .ref 232]) rfl e191_13 rfl rfl rfl rfl (fun h14 o14 f14 => ?_)
  have s14 := s13.put f14
  refine s_iinc (y := 5) (lv' := [(2, .int 5), (0, .ref 191), (1, .int 14)]) rfl rfl (by decide) (by decide) rfl ?_
  refine q_goto rfl ?_
  refine q_iload_n rfl rfl ?_
  refine q_iload_n rfl rfl ?_
  refine q_icmp_ge rfl (fun c => absurd c (by decide)) (fun _ => ?_)
  refine q_aload_n rfl rfl ?_
  refine s_get (v := .ref 193) rfl o14 rfl rfl ?_
  refine q_aload_n rfl rfl ?_
  refine s_get (v := .int 5) rfl o14 rfl rfl ?_
  refine q_aload_n rfl rfl ?_
  refine s_get (v := .ref 192) rfl o14 rfl rfl ?_
  refine q_iload_n rfl rfl ?_
  have e192_14 := (f14.ne rfl (f13.ne rfl e192_12))
  refine s_iaload (j := 5) (v := .int 0) rfl e192_14 (by decide) rfl (by first | rfl | decide) ?_
  have e193_14 := (f14.ne rfl o13)
  refine s_iastore (j := 5) rfl e193_14 (by decide) rfl (fun h15 o15 f15 => ?_)
  have s15 := s14.put f15
  refine q_aload_n rfl rfl ?_
  refine q_dup rfl rfl ?_
  have e191_15 := (o14.ne f15 rfl)
  refine s_get (v := .int 5) rfl e191_15 rfl rfl ?_
  refine q_iconst rfl ?_
  refine s_iadd (k := 6) rfl (by decide) ?_
  refine s_put (vs' := [.int 0, .ref 192, .ref 193, .int 6, .ref 194, .ref 195, .ref 196, .ref 197, .ref 198, .ref 199, .ref 200, .ref 201, .ref 202, .ref 203, .ref 204, .ref 205, .int (-1), .int 0, .ref 206, .ref 207, .ref 208, .ref 209, .ref 210, .ref 211, .ref 212, .ref 213, .ref 214, .ref 215, .int 0, .int 0, .int 0, .int 0, .ref 216, .ref 217, .ref 218, .ref 219, .ref 220, .int (-1), .int 0, .int 0, .int 0, .int 0, .int 0, .int 0, .ref 221, .ref 222, .ref 223, .ref 224, .int 0, .ref 225, .int 0, .ref 226, .ref 227, .int 0, .ref 228, .ref 229, .ref 230, .ref 231, .ref 232]) rfl e191_15 rfl rfl rfl rfl (fun h16 o16 f16 => ?_)
  have s16 := s15.put f16
  refine s_iinc (y := 6) (lv' := [(2, .int 6), (0, .ref 191), (1, .int 14)]) rfl rfl (by decide) (by decide) rfl ?_
  refine q_goto rfl ?_
  refine q_iload_n rfl rfl ?_
  refine q_iload_n rfl rfl ?_
  refine q_icmp_ge rfl (fun c => absurd c (by decide)) (fun _ => ?_)
  refine q_aload_n rfl rfl ?_
  refine s_get (v := .ref 193) rfl o16 rfl rfl ?_
  refine q_aload_n rfl rfl ?_
  refine s_get (v := .int 6) rfl o16 rfl rfl ?_
  refine q_aload_n rfl rfl ?_
  refine s_get (v := .ref 192) rfl o16 rfl rfl ?_
  refine q_iload_n rfl rfl ?_
  have e192_16 := (f16.ne rfl (f15.ne rfl e192_14))
  refine s_iaload (j := 6) (v := .int 0) rfl e192_16 (by decide) rfl (by first | rfl | decide) ?_
  have e193_16 := (f16.ne rfl o15)
  refine s_iastore (j := 6) rfl e193_16 (by decide) rfl (fun h17 o17 f17 => ?_)
  have s17 := s16.put f17
  refine q_aload_n rfl rfl ?_
  refine q_dup rfl rfl ?_
  have e191_17 := (o16.ne f17 rfl)
  refine s_get (v := .int 6) rfl e191_17 rfl rfl ?_
  refine q_iconst rfl ?_
  refine s_iadd (k := 7) rfl (by decide) ?_
  refine s_put (vs' := [.int 0, .ref 192, .ref 193, .int 7, .ref 194, .ref 195, .ref 196, .ref 197, .ref 198, .ref 199, .ref 200, .ref 201, .ref 202, .ref 203, .ref 204, .ref 205, .int (-1), .int 0, .ref 206, .ref 207, .ref 208, .ref 209, .ref 210, .ref 211, .ref 212, .ref 213, .ref 214, .ref 215, .int 0, .int 0, .int 0, .int 0, .ref 216, .ref 217, .ref 218, .ref 219, .ref 220, .int (-1), .int 0, .int 0, .int 0, .int 0, .int 0, .int 0, .ref 221, .ref 222, .ref 223, .ref 224, .int 0, .ref 225, .int 0, .ref 226, .ref 227, .int 0, .ref 228, .ref 229, .ref 230, .ref 231, .ref 232]) rfl e191_17 rfl rfl rfl rfl (fun h18 o18 f18 => ?_)
  have s18 := s17.put f18
  refine s_iinc (y := 7) (lv' := [(2, .int 7), (0, .ref 191), (1, .int 14)]) rfl rfl (by decide) (by decide) rfl ?_
  refine q_goto rfl ?_
  refine q_iload_n rfl rfl ?_
  refine q_iload_n rfl rfl ?_
  refine q_icmp_ge rfl (fun c => absurd c (by decide)) (fun _ => ?_)
  refine q_aload_n rfl rfl ?_
  refine s_get (v := .ref 193) rfl o18 rfl rfl ?_
  refine q_aload_n rfl rfl ?_
  refine s_get (v := .int 7) rfl o18 rfl rfl ?_
  refine q_aload_n rfl rfl ?_
  refine s_get (v := .ref 192) rfl o18 rfl rfl ?_
  refine q_iload_n rfl rfl ?_
  have e192_18 := (f18.ne rfl (f17.ne rfl e192_16))
  refine s_iaload (j := 7) (v := .int 0) rfl e192_18 (by decide) rfl (by first | rfl | decide) ?_
  have e193_18 := (f18.ne rfl o17)
  refine s_iastore (j := 7) rfl e193_18 (by decide) rfl (fun h19 o19 f19 => ?_)
  have s19 := s18.put f19
  refine q_aload_n rfl rfl ?_
  refine q_dup rfl rfl ?_
  have e191_19 := (o18.ne f19 rfl)
  refine s_get (v := .int 7) rfl e191_19 rfl rfl ?_
  refine q_iconst rfl ?_
  refine s_iadd (k := 8) rfl (by decide) ?_
  refine s_put (vs' := [.int 0, .ref 192, .ref 193, .int 8, .ref 194, .ref 195, .ref 196, .ref 197, .ref 198, .ref 199, .ref 200, .ref 201, .ref 202, .ref 203, .ref 204, .ref 205, .int (-1), .int 0, .ref 206, .ref 207, .ref 208, .ref 209, .ref 210, .ref 211, .ref 212, .ref 213, .ref 214, .ref 215, .int 0, .int 0, .int 0, .int 0, .ref 216, .ref 217, .ref 218, .ref 219, .ref 220, .int (-1), .int 0, .int 0, .int 0, .int 0, .int 0, .int 0, .ref 221, .ref 222, .ref 223, .ref 224, .int 0, .ref 225, .int 0, .ref 226, .ref 227, .int 0, .ref 228, .ref 229, .ref 230, .ref 231, .ref 232]) rfl e191_19 rfl rfl rfl rfl (fun h20 o20 f20 => ?_)
  have s20 := s19.put f20
  refine s_iinc (y := 8) (lv' := [(2, .int 8), (0, .ref 191), (1, .int 14)]) rfl rfl (by decide) (by decide) rfl ?_
  refine q_goto rfl ?_
  refine q_iload_n rfl rfl ?_
  refine q_iload_n rfl rfl ?_
  refine q_icmp_ge rfl (fun c => absurd c (by decide)) (fun _ => ?_)
  refine q_aload_n rfl rfl ?_
  refine s_get (v := .ref 193) rfl o20 rfl rfl ?_
  refine q_aload_n rfl rfl ?_
  refine s_get (v := .int 8) rfl o20 rfl rfl ?_
  refine q_aload_n rfl rfl ?_
  refine s_get (v := .ref 192) rfl o20 rfl rfl ?_
  refine q_iload_n rfl rfl ?_
  have e192_20 := (f20.ne rfl (f19.ne rfl e192_18))
  refine s_iaload (j := 8) (v := .int 0) rfl e192_20 (by decide) rfl (by first | rfl | decide) ?_
  have e193_20 := (f20.ne rfl o19)
  refine s_iastore (j := 8) rfl e193_20 (by decide) rfl (fun h21 o21 f21 => ?_)
  have s21 := s20.put f21
  refine q_aload_n rfl rfl ?_
  refine q_dup rfl rfl ?_
  have e191_21 := (o20.ne f21 rfl)
  refine s_get (v := .int 8) rfl e191_21 rfl rfl ?_
  refine q_iconst rfl ?_
  refine s_iadd (k := 9) rfl (by decide) ?_
  refine s_put (vs' := [.int 0, .ref 192, .ref 193, .int 9, .ref 194, .ref 195, .ref 196, .ref 197, .ref 198, .ref 199, .ref 200, .ref 201, .ref 202, .ref 203, .ref 204, .ref 205, .int (-1), .int 0, .ref 206, .ref 207, .ref 208, .ref 209, .ref 210, .ref 211, .ref 212, .ref 213, .ref 214, .ref 215, .int 0, .int 0, .int 0, .int 0, .ref 216, .ref 217, .ref 218, .ref 219, .ref 220, .int (-1), .int 0, .int 0, .int 0, .int 0, .int 0, .int 0, .ref 221, .ref 222, .ref 223, .ref 224, .int 0, .ref 225, .int 0, .ref 226, .ref 227, .int 0, .ref 228, .ref 229, .ref 230, .ref 231, .ref 232]) rfl e191_21 rfl rfl rfl rfl (fun h22 o22 f22 => ?_)
  have s22 := s21.put f22
  refine s_iinc (y := 9) (lv' := [(2, .int 9), (0, .ref 191), (1, .int 14)]) rfl rfl (by decide) (by decide) rfl ?_
  refine q_goto rfl ?_
  refine q_iload_n rfl rfl ?_
  refine q_iload_n rfl rfl ?_
  refine q_icmp_ge rfl (fun c => absurd c (by decide)) (fun _ => ?_)
  refine q_aload_n rfl rfl ?_
  refine s_get (v := .ref 193) rfl o22 rfl rfl ?_
  refine q_aload_n rfl rfl ?_
  refine s_get (v := .int 9) rfl o22 rfl rfl ?_
  refine q_aload_n rfl rfl ?_
  refine s_get (v := .ref 192) rfl o22 rfl rfl ?_
  refine q_iload_n rfl rfl ?_
  have e192_22 := (f22.ne rfl (f21.ne rfl e192_20))
  refine s_iaload (j := 9) (v := .int 0) rfl e192_22 (by decide) rfl (by first | rfl | decide) ?_
  have e193_22 := (f22.ne rfl o21)
  refine s_iastore (j := 9) rfl e193_22 (by decide) rfl (fun h23 o23 f23 => ?_)
  have s23 := s22.put f23
  refine q_aload_n rfl rfl ?_
  refine q_dup rfl rfl ?_
  have e191_23 := (o22.ne f23 rfl)
  refine s_get (v := .int 9) rfl e191_23 rfl rfl ?_
  refine q_iconst rfl ?_
  refine s_iadd (k := 10) rfl (by decide) ?_
  refine s_put (vs' := [.int 0, .ref 192, .ref 193, .int 10, .ref 194, .ref 195, .ref 196, .ref 197, .ref 198, .ref 199, .ref 200, .ref 201, .ref 202, .ref 203, .ref 204, .ref 205, .int (-1), .int 0, .ref 206, .ref 207, .ref 208, .ref 209, .ref 210, .ref 211, .ref 212, .ref 213, .ref 214, .ref 215, .int 0, .int 0, .int 0, .int 0, .ref 216, .ref 217, .ref 218, .ref 219, .ref 220, .int (-1), .int 0, .int 0, .int 0, .int 0, .int 0, .int 0, .ref 221, .ref 222, .ref 223, .ref 224, .int 0, .ref 225, .int 0, .ref 226, .ref 227, .int 0, .ref 228, .ref 229, .ref 230, .ref 231, .ref 232]) rfl e191_23 rfl rfl rfl rfl (fun h24 o24 f24 => ?_)
  have s24 := s23.put f24
  refine s_iinc (y := 10) (lv' := [(2, .int 10), (0, .ref 191), (1, .int 14)]) rfl rfl (by decide) (by decide) rfl ?_
  refine q_goto rfl ?_
  refine q_iload_n rfl rfl ?_
  refine q_iload_n rfl rfl ?_
  refine q_icmp_ge rfl (fun c => absurd c (by decide)) (fun _ => ?_)
  refine q_aload_n rfl rfl ?_
  refine s_get (v := .ref 193) rfl o24 rfl rfl ?_
  refine q_aload_n rfl rfl ?_
  refine s_get (v := .int 10) rfl o24 rfl rfl ?_
  refine q_aload_n rfl rfl ?_
  refine s_get (v := .ref 192) rfl o24 rfl rfl ?_
  refine q_iload_n rfl rfl ?_
  have e192_24 := (f24.ne rfl (f23.ne rfl e192_22))
  refine s_iaload (j := 10) (v := .int 0) rfl e192_24 (by decide) rfl (by first | rfl | decide) ?_
  have e193_24 := (f24.ne rfl o23)
  refine s_iastore (j := 10) rfl e193_24 (by decide) rfl (fun h25 o25 f25 => ?_)
  have s25 := s24.put f25
  refine q_aload_n rfl rfl ?_
  refine q_dup rfl rfl ?_
  have e191_25 := (o24.ne f25 rfl)
  refine s_get (v := .int 10) rfl e191_25 rfl rfl ?_
  refine q_iconst rfl ?_
  refine s_iadd (k := 11) rfl (by decide) ?_
  refine s_put (vs' := [.int 0, .ref 192, .ref 193, .int 11, .ref 194, .ref 195, .ref 196, .ref 197, .ref 198, .ref 199, .ref 200, .ref 201, .ref 202, .ref 203, .ref 204, .ref 205, .int (-1), .int 0, .ref 206, .ref 207, .ref 208, .ref 209, .ref 210, .ref 211, .ref 212, .ref 213, .ref 214, .ref 215, .int 0, .int 0, .int 0, .int 0, .ref 216, .ref 217, .ref 218, .ref 219, .ref 220, .int (-1), .int 0, .int 0, .int 0, .int 0, .int 0, .int 0, .ref 221, .ref 222, .ref 223, .ref 224, .int 0, .ref 225, .int 0, .ref 226, .ref 227, .int 0, .ref 228, .ref 229, .ref 230, .ref 231, .ref 232]) rfl e191_25 rfl rfl rfl rfl (fun h26 o26 f26 => ?_)
  have s26 := s25.put f26
  refine s_iinc (y := 11) (lv' := [(2, .int 11), (0, .ref 191), (1, .int 14)]) rfl rfl (by decide) (by decide) rfl ?_
  refine q_goto rfl ?_
  refine q_iload_n rfl rfl ?_
  refine q_iload_n rfl rfl ?_
  refine q_icmp_ge rfl (fun c => absurd c (by decide)) (fun _ => ?_)
  refine q_aload_n rfl rfl ?_
  refine s_get (v := .ref 193) rfl o26 rfl rfl ?_
  refine q_aload_n rfl rfl ?_
  refine s_get (v := .int 11) rfl o26 rfl rfl ?_
  refine q_aload_n rfl rfl ?_
  refine s_get (v := .ref 192) rfl o26 rfl rfl ?_
  refine q_iload_n rfl rfl ?_
  have e192_26 := (f26.ne rfl (f25.ne rfl e192_24))
  refine s_iaload (j := 11) (v := .int 0) rfl e192_26 (by decide) rfl (by first | rfl | decide) ?_
  have e193_26 := (f26.ne rfl o25)
  refine s_iastore (j := 11) rfl e193_26 (by decide) rfl (fun h27 o27 f27 => ?_)
  have s27 := s26.put f27
  refine q_aload_n rfl rfl ?_
  refine q_dup rfl rfl ?_
  have e191_27 := (o26.ne f27 rfl)
  refine s_get (v := .int 11) rfl e191_27 rfl rfl ?_
  refine q_iconst rfl ?_
  refine s_iadd (k := 12) rfl (by decide) ?_
  refine s_put (vs' := [.int 0, .ref 192, .ref 193, .int 12, .ref 194, .ref 195, .ref 196, .ref 197, .ref 198, .ref 199, .ref 200, .ref 201, .ref 202, .ref 203, .ref 204, .ref 205, .int (-1), .int 0, .ref 206, .ref 207, .ref 208, .ref 209, .ref 210, .ref 211, .ref 212, .ref 213, .ref 214, .ref 215, .int 0, .int 0, .int 0, .int 0, .ref 216, .ref 217, .ref 218, .ref 219, .ref 220, .int (-1), .int 0, .int 0, .int 0, .int 0, .int 0, .int 0, .ref 221, .ref 222, .ref 223, .ref 224, .int 0, .ref 225, .int 0, .ref 226, .ref 227, .int 0, .ref 228, .ref 229, .ref 230, .ref 231, .ref 232]) rfl e191_27 rfl rfl rfl rfl (fun h28 o28 f28 => ?_)
  have s28 := s27.put f28
  refine s_iinc (y := 12) (lv' := [(2, .int 12), (0, .ref 191), (1, .int 14)]) rfl rfl (by decide) (by decide) rfl ?_
  refine q_goto rfl ?_
  refine q_iload_n rfl rfl ?_
  refine q_iload_n rfl rfl ?_
  refine q_icmp_ge rfl (fun c => absurd c (by decide)) (fun _ => ?_)
  refine q_aload_n rfl rfl ?_
  refine s_get (v := .ref 193) rfl o28 rfl rfl ?_
  refine q_aload_n rfl rfl ?_
  refine s_get (v := .int 12) rfl o28 rfl rfl ?_
  refine q_aload_n rfl rfl ?_
  refine s_get (v := .ref 192) rfl o28 rfl rfl ?_
  refine q_iload_n rfl rfl ?_
  have e192_28 := (f28.ne rfl (f27.ne rfl e192_26))
  refine s_iaload (j := 12) (v := .int 0) rfl e192_28 (by decide) rfl (by first | rfl | decide) ?_
  have e193_28 := (f28.ne rfl o27)
  refine s_iastore (j := 12) rfl e193_28 (by decide) rfl (fun h29 o29 f29 => ?_)
  have s29 := s28.put f29
  refine q_aload_n rfl rfl ?_
  refine q_dup rfl rfl ?_
  have e191_29 := (o28.ne f29 rfl)
  refine s_get (v := .int 12) rfl e191_29 rfl rfl ?_
  refine q_iconst rfl ?_
  refine s_iadd (k := 13) rfl (by decide) ?_
  refine s_put (vs' := [.int 0, .ref 192, .ref 193, .int 13, .ref 194, .ref 195, .ref 196, .ref 197, .ref 198, .ref 199, .ref 200, .ref 201, .ref 202, .ref 203, .ref 204, .ref 205, .int (-1), .int 0, .ref 206, .ref 207, .ref 208, .ref 209, .ref 210, .ref 211, .ref 212, .ref 213, .ref 214, .ref 215, .int 0, .int 0, .int 0, .int 0, .ref 216, .ref 217, .ref 218, .ref 219, .ref 220, .int (-1), .int 0, .int 0, .int 0, .int 0, .int 0, .int 0, .ref 221, .ref 222, .ref 223, .ref 224, .int 0, .ref 225, .int 0, .ref 226, .ref 227, .int 0, .ref 228, .ref 229, .ref 230, .ref 231, .ref 232]) rfl e191_29 rfl rfl rfl rfl (fun h30 o30 f30 => ?_)
  have s30 := s29.put f30
  refine s_iinc (y := 13) (lv' := [(2, .int 13), (0, .ref 191), (1, .int 14)]) rfl rfl (by decide) (by decide) rfl ?_
  refine q_goto rfl ?_
  refine q_iload_n rfl rfl ?_
  refine q_iload_n rfl rfl ?_
  refine q_icmp_ge rfl (fun c => absurd c (by decide)) (fun _ => ?_)
  refine q_aload_n rfl rfl ?_
  refine s_get (v := .ref 193) rfl o30 rfl rfl ?_
  refine q_aload_n rfl rfl ?_
  refine s_get (v := .int 13) rfl o30 rfl rfl ?_
  refine q_aload_n rfl rfl ?_
  refine s_get (v := .ref 192) rfl o30 rfl rfl ?_
  refine q_iload_n rfl rfl ?_
  have e192_30 := (f30.ne rfl (f29.ne rfl e192_28))
  refine s_iaload (j := 13) (v := .int 0) rfl e192_30 (by decide) rfl (by first | rfl | decide) ?_
  have e193_30 := (f30.ne rfl o29)
  refine s_iastore (j := 13) rfl e193_30 (by decide) rfl (fun h31 o31 f31 => ?_)
  have s31 := s30.put f31
  refine q_aload_n rfl rfl ?_
  refine q_dup rfl rfl ?_
  have e191_31 := (o30.ne f31 rfl)
  refine s_get (v := .int 13) rfl e191_31 rfl rfl ?_
  refine q_iconst rfl ?_
  refine s_iadd (k := 14) rfl (by decide) ?_
  refine s_put (vs' := [.int 0, .ref 192, .ref 193, .int 14, .ref 194, .ref 195, .ref 196, .ref 197, .ref 198, .ref 199, .ref 200, .ref 201, .ref 202, .ref 203, .ref 204, .ref 205, .int (-1), .int 0, .ref 206, .ref 207, .ref 208, .ref 209, .ref 210, .ref 211, .ref 212, .ref 213, .ref 214, .ref 215, .int 0, .int 0, .int 0, .int 0, .ref 216, .ref 217, .ref 218, .ref 219, .ref 220, .int (-1), .int 0, .int 0, .int 0, .int 0, .int 0, .int 0, .ref 221, .ref 222, .ref 223, .ref 224, .int 0, .ref 225, .int 0, .ref 226, .ref 227, .int 0, .ref 228, .ref 229, .ref 230, .ref 231, .ref 232]) rfl e191_31 rfl rfl rfl rfl (fun h32 o32 f32 => ?_)
  have s32 := s31.put f32
  refine s_iinc (y := 14) (lv' := [(2, .int 14), (0, .ref 191), (1, .int 14)]) rfl rfl (by decide) (by decide) rfl ?_
  refine q_goto rfl ?_
  refine q_iload_n rfl rfl ?_
  refine q_iload_n rfl rfl ?_
  refine q_icmp_ge rfl (fun _ => ?_) (fun c => absurd (by decide) c)
  refine q_iconst rfl ?_
  refine s_istore_n (lv' := [(2, .int 0), (0, .ref 191), (1, .int 14)]) rfl (by decide) rfl ?_
  have e192_32 := (f32.ne rfl (f31.ne rfl e192_30))
  refine en_loop (m := 191) (a := 192) rfl rfl (by decide) (by decide) 20 0 h32 _ rfl o32 e192_32 (fun h33 f33 => ?_)
  have s33 := s32.put f33
  show aW aiP 217 16 636 88 [(2, .int 20), (0, .ref 191), (1, .int 14)] [] h33 _
  refine q_aload_n rfl rfl ?_
  have e191_33 := (o32.ne f33 rfl)
  refine s_get (v := .int 14) rfl e191_33 rfl rfl ?_
  refine q_ireturn rfl rfl ?_
  show aW aiP 0 17 658 243 [(4, .int 0), (3, .ref 233), (2, .ref 191), (1, .ref 6), (0, .ref 0)] [.int 14, .int 14] h33 _
  refine q_icmp_eq rfl (fun _ => ?_) (fun c => absurd (by decide) c)
  refine s_iinc (y := 6) (lv' := [(4, .int 6), (3, .ref 233), (2, .ref 191), (1, .ref 6), (0, .ref 0)]) rfl rfl (by decide) (by decide) rfl ?_
  refine q_goto rfl ?_
  refine q_iload rfl rfl ?_
  refine q_aload_n rfl rfl ?_
  have e0_33 := (f33.ne rfl (f32.ne rfl (f31.ne rfl (f30.ne rfl (f29.ne rfl (f28.ne rfl (f27.ne rfl (f26.ne rfl (f25.ne rfl (f24.ne rfl (f23.ne rfl (f22.ne rfl (f21.ne rfl (f20.ne rfl (f19.ne rfl (f18.ne rfl (f17.ne rfl (f16.ne rfl (f15.ne rfl (f14.ne rfl (f13.ne rfl (f12.ne rfl (f11.ne rfl (f10.ne rfl (f9.ne rfl (f8.ne rfl (f7.ne rfl (f6.ne rfl (f5.ne rfl (f4.ne rfl e0_3))))))))))))))))))))))))))))))
  refine s_alen (x := 6) rfl e0_33 rfl (by decide) ?_
  refine q_bipush rfl ?_
  refine s_isub (k := 0) rfl (by decide) ?_
  refine q_icmp_gt rfl (fun _ => ?_) (fun c => absurd (by decide) c)
  refine q_iconst rfl ?_
  refine q_ireturn rfl rfl ?_
  exact ⟨rfl, s33.bd rfl⟩
set_option maxRecDepth 20000 in
set_option maxHeartbeats 4000000 in
theorem p_case1_15 {xs : Nat → Int32} {h : ai_H} (F : Fresh 6 xs h) (hk : xs 0 &&& 31 = 1) (hw : xs 1 = 15) : aW aiP 0 17 658 33 [(4, .int 0), (3, .ref 233), (2, .ref 191), (1, .ref 6), (0, .ref 0)] [] h p_Q := by
  have s0 := F.2.2.2.2.2.2.2.2.2.2.2.2.2.2.2.2.2.2.2.2.2.2.2.2.2.2.2.2.2.2.2.2.2.2.2.2.2.2.2.2.2.2.2.2.2.2.2.2.2.2.2.2.2.2.2.2.2.2.2.2.2.2.2.2.2.2.2.2.2.2
  refine q_aload_n rfl rfl ?_
  refine q_iload rfl rfl ?_
  have e0 := F.1
  refine s_iaload (j := 0) (v := .int (xs 0)) rfl e0 (by decide) rfl (by first | rfl | decide) ?_
  refine q_bipush rfl ?_
  refine s_iand (k := ((xs 0) &&& (31 : Int32))) rfl rfl ?_
  rw [hk]
  show aW aiP 0 17 658 40 [(4, .int 0), (3, .ref 233), (2, .ref 191), (1, .ref 6), (0, .ref 0)] [.int 1] h _
  refine s_sw (tg := 223) rfl rfl ?_
  refine q_aload_n rfl rfl ?_
  refine q_aload_n rfl rfl ?_
  refine q_iload rfl rfl ?_
  refine q_iconst rfl ?_
  refine s_iadd (k := 1) rfl (by decide) ?_
  refine s_iaload (j := 1) (v := .int (xs 1)) rfl e0 (by decide) rfl (by first | rfl | decide) ?_
  rw [hw]
  have e6 := F.2.2.2.2.2.2.1
  refine s_callV (as := [.int 15]) (rest := []) (d' := 16) (w' := 637) (lv' := [(0, .ref 6), (1, .int 15)]) rfl e6 rfl rfl rfl rfl rfl rfl ?_
  refine q_iload_n rfl rfl ?_
  refine q_if_lt rfl (fun c => absurd c (by decide)) (fun _ => ?_)
  refine q_iload_n rfl rfl ?_
  refine q_bipush rfl ?_
  refine q_icmp_gt rfl (fun c => absurd c (by decide)) (fun _ => ?_)
  refine q_aload_n rfl rfl ?_
  refine s_get (v := .int 0) rfl e6 rfl rfl ?_
  refine q_iload_n rfl rfl ?_
  refine s_iadd (k := 15) rfl (by decide) ?_
  refine q_sipush rfl ?_
  refine q_icmp_le rfl (fun _ => ?_) (fun c => absurd (by decide) c)
  refine q_aload_n rfl rfl ?_
  refine s_get (v := .ref 7) rfl e6 rfl rfl ?_
  refine q_iconst rfl ?_
  refine q_aload_n rfl rfl ?_
  refine s_get (v := .ref 8) rfl e6 rfl rfl ?_
  refine q_aload_n rfl rfl ?_
  refine s_get (v := .int 0) rfl e6 rfl rfl ?_
  refine q_iload_n rfl rfl ?_
  have e7 := F.2.2.2.2.2.2.2.1
  have e8 := F.2.2.2.2.2.2.2.2.1
  refine s_copy (sp := 0) (dp := 0) (k := 15) rfl e7 e8 (by decide) (by decide) (by decide) rfl (by decide) (by decide) (by decide) (fun i _ => rfl) (fun h1 o1 f1 => ?_)
  have s1 := s0.put f1
  refine q_aload_n rfl rfl ?_
  refine q_dup rfl rfl ?_
  have e6_1 := (e6.ne f1 rfl)
  refine s_get (v := .int 0) rfl e6_1 rfl rfl ?_
  refine q_iload_n rfl rfl ?_
  refine s_iadd (k := 15) rfl (by decide) ?_
  refine s_put (vs' := [.ref 7, .ref 8, .int 15, .ref 9, .int (-1), .ref 51, .ref 93, .ref 135, .ref 177, .ref 180, .int 0, .ref 183, .ref 186, .ref 189]) rfl e6_1 rfl rfl rfl rfl (fun h2 o2 f2 => ?_)
  have s2 := s1.put f2
  refine q_aload_n rfl rfl ?_
  refine s_get (v := .ref 7) rfl o2 rfl rfl ?_
  refine q_iconst rfl ?_
  refine s_callS (as := [.ref 7, .int 0]) (rest := []) (d' := 15) (w' := 614) (lv' := [(0, .ref 7), (1, .int 0)]) rfl rfl rfl rfl rfl rfl rfl rfl ?_
  refine q_iconst rfl ?_
  refine s_istore_n (lv' := [(2, .int 0), (0, .ref 7), (1, .int 0)]) rfl (by decide) rfl ?_
  refine q_aload_n rfl rfl ?_
  have e7_2 := (f2.ne rfl (f1.ne rfl e7))
  refine s_alen (x := 20) rfl e7_2 rfl (by decide) ?_
  refine s_istore_n (lv' := [(3, .int 20), (2, .int 0), (0, .ref 7), (1, .int 0)]) rfl (by decide) rfl ?_
  refine aW_lv (l := [(2, .int (nI 0)), (3, .int 20), (0, .ref 7), (1, .int 0)]) ?_ rfl rfl (by repeat' (first | exact inL_n | refine inL_c rfl ?_))
  refine fi_loop (a := 7) (by decide) 20 0 h2 _ rfl e7_2 (fun h3 f3 => ?_)
  have s3 := s2.put f3
  show aW aiP 15 16 637 59 [(0, .ref 6), (1, .int 15)] [] h3 _
  refine q_aload_n rfl rfl ?_
  have e6_3 := (o2.ne f3 rfl)
  refine s_get (v := .int 15) rfl e6_3 rfl rfl ?_
  refine q_ireturn rfl rfl ?_
  show aW aiP 0 17 658 233 [(4, .int 0), (3, .ref 233), (2, .ref 191), (1, .ref 6), (0, .ref 0)] [.int 15] h3 _
  refine q_aload_n rfl rfl ?_
  refine q_aload_n rfl rfl ?_
  refine q_iload rfl rfl ?_
  refine q_iconst rfl ?_
  refine s_iadd (k := 1) rfl (by decide) ?_
  have e0_3 := (f3.ne rfl (f2.ne rfl (f1.ne rfl e0)))
  refine s_iaload (j := 1) (v := .int (xs 1)) rfl e0_3 (by decide) rfl (by first | rfl | decide) ?_
  rw [hw]
  have e191 := F.2.2.2.2.2.2.2.2.2.2.2.2.2.2.2.2.2.2.2.2.2.2.2.2.2.2.2.1
  have e191_3 := (((e191.ne f1 rfl).ne f2 rfl).ne f3 rfl)
  refine s_callV (as := [.int 15]) (rest := [.int 15]) (d' := 16) (w' := 636) (lv' := [(0, .ref 191), (1, .int 15)]) rfl e191_3 rfl rfl rfl rfl rfl rfl ?_
  refine q_aload_n rfl rfl ?_
  refine q_iconst rfl ?_
  refine s_put (vs' := [.int 0, .ref 192, .ref 193, .int 0, .ref 194, .ref 195, .ref 196, .ref 197, .ref 198, .ref 199, .ref 200, .ref 201, .ref 202, .ref 203, .ref 204, .ref 205, .int (-1), .int 0, .ref 206, .ref 207, .ref 208, .ref 209, .ref 210, .ref 211, .ref 212, .ref 213, .ref 214, .ref 215, .int 0, .int 0, .int 0, .int 0, .ref 216, .ref 217, .ref 218, .ref 219, .ref 220, .int (-1), .int 0, .int 0, .int 0, .int 0, .int 0, .int 0, .ref 221, .ref 222, .ref 223, .ref 224, .int 0, .ref 225, .int 0, .ref 226, .ref 227, .int 0, .ref 228, .ref 229, .ref 230, .ref 231, .ref 232]) rfl e191_3 rfl rfl rfl rfl (fun h4 o4 f4 => ?_)
  have s4 := s3.put f4
  refine q_iload_n rfl rfl ?_
  refine q_if_lt rfl (fun c => absurd c (by decide)) (fun _ => ?_)
  refine q_iload_n rfl rfl ?_
  refine q_bipush rfl ?_
  refine q_icmp_gt rfl (fun c => absurd c (by decide)) (fun _ => ?_)
  refine q_aload_n rfl rfl ?_
  refine s_get (v := .int 0) rfl o4 rfl rfl ?_
  refine q_iload_n rfl rfl ?_
  refine s_iadd (k := 15) rfl (by decide) ?_
  refine q_sipush rfl ?_
  refine q_icmp_le rfl (fun _ => ?_) (fun c => absurd (by decide) c)
  refine q_iconst rfl ?_
  refine s_istore_n (lv' := [(2, .int 0), (0, .ref 191), (1, .int 15)]) rfl (by decide) rfl ?_
  refine q_iload_n rfl rfl ?_
  refine q_iload_n rfl rfl ?_
  refine q_icmp_ge rfl (fun c => absurd c (by decide)) (fun _ => ?_)
  refine q_aload_n rfl rfl ?_
  refine s_get (v := .ref 193) rfl o4 rfl rfl ?_
  refine q_aload_n rfl rfl ?_
  refine s_get (v := .int 0) rfl o4 rfl rfl ?_
  refine q_aload_n rfl rfl ?_
  refine s_get (v := .ref 192) rfl o4 rfl rfl ?_
  refine q_iload_n rfl rfl ?_
  have e192 := F.2.2.2.2.2.2.2.2.2.2.2.2.2.2.2.2.2.2.2.2.2.2.2.2.2.2.2.2.1
  have e192_4 := (f4.ne rfl (f3.ne rfl (f2.ne rfl (f1.ne rfl e192))))
  refine s_iaload (j := 0) (v := .int 0) rfl e192_4 (by decide) rfl (by first | rfl | decide) ?_
  have e193 := F.2.2.2.2.2.2.2.2.2.2.2.2.2.2.2.2.2.2.2.2.2.2.2.2.2.2.2.2.2.1
  have e193_4 := (f4.ne rfl (f3.ne rfl (f2.ne rfl (f1.ne rfl e193))))
  refine s_iastore (j := 0) rfl e193_4 (by decide) rfl (fun h5 o5 f5 => ?_)
  have s5 := s4.put f5
  refine q_aload_n rfl rfl ?_
  refine q_dup rfl rfl ?_
  have e191_5 := (o4.ne f5 rfl)
  refine s_get (v := .int 0) rfl e191_5 rfl rfl ?_
  refine q_iconst rfl ?_
  refine s_iadd (k := 1) rfl (by decide) ?_
  refine s_put (vs' := [.int 0, .ref 192, .ref 193, .int 1, .ref 194, .ref 195, .ref 196, .ref 197, .ref 198, .ref 199, .ref 200, .ref 201, .ref 202, .ref 203, .ref 204, .ref 205, .int (-1), .int 0, .ref 206, .ref 207, .ref 208, .ref 209, .ref 210, .ref 211, .ref 212, .ref 213, .ref 214, .ref 215, .int 0, .int 0, .int 0, .int 0, .ref 216, .ref 217, .ref 218, .ref 219, .ref 220, .int (-1), .int 0, .int 0, .int 0, .int 0, .int 0, .int 0, .ref 221, .ref 222, .ref 223, .ref 224, .int 0, .ref 225, .int 0, .ref 226, .ref 227, .int 0, .ref 228, .ref 229, .ref 230, .ref 231, .ref 232]) rfl e191_5 rfl rfl rfl rfl (fun h6 o6 f6 => ?_)
  have s6 := s5.put f6
  refine s_iinc (y := 1) (lv' := [(2, .int 1), (0, .ref 191), (1, .int 15)]) rfl rfl (by decide) (by decide) rfl ?_
  refine q_goto rfl ?_
  refine q_iload_n rfl rfl ?_
  refine q_iload_n rfl rfl ?_
  refine q_icmp_ge rfl (fun c => absurd c (by decide)) (fun _ => ?_)
  refine q_aload_n rfl rfl ?_
  refine s_get (v := .ref 193) rfl o6 rfl rfl ?_
  refine q_aload_n rfl rfl ?_
  refine s_get (v := .int 1) rfl o6 rfl rfl ?_
  refine q_aload_n rfl rfl ?_
  refine s_get (v := .ref 192) rfl o6 rfl rfl ?_
  refine q_iload_n rfl rfl ?_
  have e192_6 := (f6.ne rfl (f5.ne rfl e192_4))
  refine s_iaload (j := 1) (v := .int 0) rfl e192_6 (by decide) rfl (by first | rfl | decide) ?_
  have e193_6 := (f6.ne rfl o5)
  refine s_iastore (j := 1) rfl e193_6 (by decide) rfl (fun h7 o7 f7 => ?_)
  have s7 := s6.put f7
  refine q_aload_n rfl rfl ?_
  refine q_dup rfl rfl ?_
  have e191_7 := (o6.ne f7 rfl)
  refine s_get (v := .int 1) rfl e191_7 rfl rfl ?_
  refine q_iconst rfl ?_
  refine s_iadd (k := 2) rfl (by decide) ?_
  refine s_put (vs' := [.int 0, .ref 192, .ref 193, .int 2, .ref 194, .ref 195, .ref 196, .ref 197, .ref 198, .ref 199, .ref 200, .ref 201, .ref 202, .ref 203, .ref 204, .ref 205, .int (-1), .int 0, .ref 206, .ref 207, .ref 208, .ref 209, .ref 210, .ref 211, .ref 212, .ref 213, .ref 214, .ref 215, .int 0, .int 0, .int 0, .int 0, .ref 216, .ref 217, .ref 218, .ref 219, .ref 220, .int (-1), .int 0, .int 0, .int 0, .int 0, .int 0, .int 0, .ref 221, .ref 222, .ref 223, .ref 224, .int 0, .ref 225, .int 0, .ref 226, .ref 227, .int 0, .ref 228, .ref 229, .ref 230, .ref 231, .ref 232]) rfl e191_7 rfl rfl rfl rfl (fun h8 o8 f8 => ?_)
  have s8 := s7.put f8
  refine s_iinc (y := 2) (lv' := [(2, .int 2), (0, .ref 191), (1, .int 15)]) rfl rfl (by decide) (by decide) rfl ?_
  refine q_goto rfl ?_
  refine q_iload_n rfl rfl ?_
  refine q_iload_n rfl rfl ?_
  refine q_icmp_ge rfl (fun c => absurd c (by decide)) (fun _ => ?_)
  refine q_aload_n rfl rfl ?_
  refine s_get (v := .ref 193) rfl o8 rfl rfl ?_
  refine q_aload_n rfl rfl ?_
  refine s_get (v := .int 2) rfl o8 rfl rfl ?_
  refine q_aload_n rfl rfl ?_
  refine s_get (v := .ref 192) rfl o8 rfl rfl ?_
  refine q_iload_n rfl rfl ?_
  have e192_8 := (f8.ne rfl (f7.ne rfl e192_6))
  refine s_iaload (j := 2) (v := .int 0) rfl e192_8 (by decide) rfl (by first | rfl | decide) ?_
  have e193_8 := (f8.ne rfl o7)
  refine s_iastore (j := 2) rfl e193_8 (by decide) rfl (fun h9 o9 f9 => ?_)
  have s9 := s8.put f9
  refine q_aload_n rfl rfl ?_
  refine q_dup rfl rfl ?_
  have e191_9 := (o8.ne f9 rfl)
  refine s_get (v := .int 2) rfl e191_9 rfl rfl ?_
  refine q_iconst rfl ?_
  refine s_iadd (k := 3) rfl (by decide) ?_
  refine s_put (vs' := [.int 0, .ref 192, .ref 193, .int 3, .ref 194, .ref 195, .ref 196, .ref 197, .ref 198, .ref 199, .ref 200, .ref 201, .ref 202, .ref 203, .ref 204, .ref 205, .int (-1), .int 0, .ref 206, .ref 207, .ref 208, .ref 209, .ref 210, .ref 211, .ref 212, .ref 213, .ref 214, .ref 215, .int 0, .int 0, .int 0, .int 0, .ref 216, .ref 217, .ref 218, .ref 219, .ref 220, .int (-1), .int 0, .int 0, .int 0, .int 0, .int 0, .int 0, .ref 221, .ref 222, .ref 223, .ref 224, .int 0, .ref 225, .int 0, .ref 226, .ref 227, .int 0, .ref 228, .ref 229, .ref 230, .ref 231, .ref 232]) rfl e191_9 rfl rfl rfl rfl (fun h10 o10 f10 => ?_)
  have s10 := s9.put f10
  refine s_iinc (y := 3) (lv' := [(2, .int 3), (0, .ref 191), (1, .int 15)]) rfl rfl (by decide) (by decide) rfl ?_
  refine q_goto rfl ?_
  refine q_iload_n rfl rfl ?_
  refine q_iload_n rfl rfl ?_
  refine q_icmp_ge rfl (fun c => absurd c (by decide)) (fun _ => ?_)
  refine q_aload_n rfl rfl ?_
  refine s_get (v := .ref 193) rfl o10 rfl rfl ?_
  refine q_aload_n rfl rfl ?_
  refine s_get (v := .int 3) rfl o10 rfl rfl ?_
  refine q_aload_n rfl rfl ?_
  refine s_get (v := .ref 192) rfl o10 rfl rfl ?_
  refine q_iload_n rfl rfl ?_
  have e192_10 := (f10.ne rfl (f9.ne rfl e192_8))
  refine s_iaload (j := 3) (v := .int 0) rfl e192_10 (by decide) rfl (by first | rfl | decide) ?_
  have e193_10 := (f10.ne rfl o9)
  refine s_iastore (j := 3) rfl e193_10 (by decide) rfl (fun h11 o11 f11 => ?_)
  have s11 := s10.put f11
  refine q_aload_n rfl rfl ?_
  refine q_dup rfl rfl ?_
  have e191_11 := (o10.ne f11 rfl)
  refine s_get (v := .int 3) rfl e191_11 rfl rfl ?_
  refine q_iconst rfl ?_
  refine s_iadd (k := 4) rfl (by decide) ?_
  refine s_put (vs' := [.int 0, .ref 192, .ref 193, .int 4, .ref 194, .ref 195, .ref 196, .ref 197, .ref 198, .ref 199, .ref 200, .ref 201, .ref 202, .ref 203, .ref 204, .ref 205, .int (-1), .int 0, .ref 206, .ref 207, .ref 208, .ref 209, .ref 210, .ref 211, .ref 212, .ref 213, .ref 214, .ref 215, .int 0, .int 0, .int 0, .int 0, .ref 216, .ref 217, .ref 218, .ref 219, .ref 220, .int (-1), .int 0, .int 0, .int 0, .int 0, .int 0, .int 0, .ref 221, .ref 222, .ref 223, .ref 224, .int 0, .ref 225, .int 0, .ref 226, .ref 227, .int 0, .ref 228, .ref 229, .ref 230, .ref 231, .ref 232]) rfl e191_11 rfl rfl rfl rfl (fun h12 o12 f12 => ?_)
  have s12 := s11.put f12
  refine s_iinc (y := 4) (lv' := [(2, .int 4), (0, .ref 191), (1, .int 15)]) rfl rfl (by decide) (by decide) rfl ?_
  refine q_goto rfl ?_
  refine q_iload_n rfl rfl ?_
  refine q_iload_n rfl rfl ?_
  refine q_icmp_ge rfl (fun c => absurd c (by decide)) (fun _ => ?_)
  refine q_aload_n rfl rfl ?_
  refine s_get (v := .ref 193) rfl o12 rfl rfl ?_
  refine q_aload_n rfl rfl ?_
  refine s_get (v := .int 4) rfl o12 rfl rfl ?_
  refine q_aload_n rfl rfl ?_
  refine s_get (v := .ref 192) rfl o12 rfl rfl ?_
  refine q_iload_n rfl rfl ?_
  have e192_12 := (f12.ne rfl (f11.ne rfl e192_10))
  refine s_iaload (j := 4) (v := .int 0) rfl e192_12 (by decide) rfl (by first | rfl | decide) ?_
  have e193_12 := (f12.ne rfl o11)
  refine s_iastore (j := 4) rfl e193_12 (by decide) rfl (fun h13 o13 f13 => ?_)
  have s13 := s12.put f13
  refine q_aload_n rfl rfl ?_
  refine q_dup rfl rfl ?_
  have e191_13 := (o12.ne f13 rfl)
  refine s_get (v := .int 4) rfl e191_13 rfl rfl ?_
  refine q_iconst rfl ?_
  refine s_iadd (k := 5) rfl (by decide) ?_
  refine s_put (vs' := [.int 0, .ref 192, .ref 193, .int 5, .ref 194, .ref 195, .ref 196, .ref 197, .ref 198, .ref 199, .ref 200, .ref 201, .ref 202, .ref 203, .ref 204, .ref 205, .int (-1), .int 0, .ref 206, .ref 207, .ref 208, .ref 209, .ref 210, .ref 211, .ref 212, .ref 213, .ref 214, .ref 215, .int 0, .int 0, .int 0, .int 0, .ref 216, .ref 217, .ref 218, .ref 219, .ref 220, .int (-1), .int 0, .int 0, .int 0, .int 0, .int 0, .int 0, .ref 221, .ref 222, .ref 223, .ref 224, .int 0, .ref 225, .int 0, .ref 226, .ref 227, .int 0, .ref 228, .ref 229, .ref 230, .ref 231, .ref 232]) rfl e191_13 rfl rfl rfl rfl (fun h14 o14 f14 => ?_)
  have s14 := s13.put f14
  refine s_iinc (y := 5) (lv' := [(2, .int 5), (0, .ref 191), (1, .int 15)]) rfl rfl (by decide) (by decide) rfl ?_
  refine q_goto rfl ?_
  refine q_iload_n rfl rfl ?_
  refine q_iload_n rfl rfl ?_
  refine q_icmp_ge rfl (fun c => absurd c (by decide)) (fun _ => ?_)
  refine q_aload_n rfl rfl ?_
  refine s_get (v := .ref 193) rfl o14 rfl rfl ?_
  refine q_aload_n rfl rfl ?_
  refine s_get (v := .int 5) rfl o14 rfl rfl ?_
  refine q_aload_n rfl rfl ?_
  refine s_get (v := .ref 192) rfl o14 rfl rfl ?_
  refine q_iload_n rfl rfl ?_
  have e192_14 := (f14.ne rfl (f13.ne rfl e192_12))
  refine s_iaload (j := 5) (v := .int 0) rfl e192_14 (by decide) rfl (by first | rfl | decide) ?_
  have e193_14 := (f14.ne rfl o13)
  refine s_iastore (j := 5) rfl e193_14 (by decide) rfl (fun h15 o15 f15 => ?_)
  have s15 := s14.put f15
  refine q_aload_n rfl rfl ?_
  refine q_dup rfl rfl ?_
  have e191_15 := (o14.ne f15 rfl)
  refine s_get (v := .int 5) rfl e191_15 rfl rfl ?_
  refine q_iconst rfl ?_
  refine s_iadd (k := 6) rfl (by decide) ?_
  refine s_put (vs' := [.int 0, .ref 192, .ref 193, .int 6, .ref 194, .ref 195, .ref 196, .ref 197, .ref 198, .ref 199, .ref 200, .ref 201, .ref 202, .ref 203, .ref 204, .ref 205, .int (-1), .int 0, .ref 206, .ref 207, .ref 208, .ref 209, .ref 210, .ref 211, .ref 212, .ref 213, .ref 214, .ref 215, .int 0, .int 0, .int 0, .int 0, .ref 216, .ref 217, .ref 218, .ref 219, .ref 220, .int (-1), .int 0, .int 0, .int 0, .int 0, .int 0, .int 0, .ref 221, .ref 222, .ref 223, .ref 224, .int 0, .ref 225, .int 0, .ref 226, .ref 227, .int 0, .ref 228, .ref 229, .ref 230, .ref 231, .ref 232]) rfl e191_15 rfl rfl rfl rfl (fun h16 o16 f16 => ?_)
  have s16 := s15.put f16
  refine s_iinc (y := 6) (lv' := [(2, .int 6), (0, .ref 191), (1, .int 15)]) rfl rfl (by decide) (by decide) rfl ?_
  refine q_goto rfl ?_
  refine q_iload_n rfl rfl ?_
  refine q_iload_n rfl rfl ?_
  refine q_icmp_ge rfl (fun c => absurd c (by decide)) (fun _ => ?_)
  refine q_aload_n rfl rfl ?_
  refine s_get (v := .ref 193) rfl o16 rfl rfl ?_
  refine q_aload_n rfl rfl ?_
  refine s_get (v := .int 6) rfl o16 rfl rfl ?_
  refine q_aload_n rfl rfl ?_
  refine s_get (v := .ref 192) rfl o16 rfl rfl ?_
  refine q_iload_n rfl rfl ?_
  have e192_16 := (f16.ne rfl (f15.ne rfl e192_14))
  refine s_iaload (j := 6) (v := .int 0) rfl e192_16 (by decide) rfl (by first | rfl | decide) ?_
  have e193_16 := (f16.ne rfl o15)
  refine s_iastore (j := 6) rfl e193_16 (by decide) rfl (fun h17 o17 f17 => ?_)
  have s17 := s16.put f17
  refine q_aload_n rfl rfl ?_
  refine q_dup rfl rfl ?_
  have e191_17 := (o16.ne f17 rfl)
  refine s_get (v := .int 6) rfl e191_17 rfl rfl ?_
  refine q_iconst rfl ?_
  refine s_iadd (k := 7) rfl (by decide) ?_
  refine s_put (vs' := [.int 0, .ref 192, .ref 193, .int 7, .ref 194, .ref 195, .ref 196, .ref 197, .ref 198, .ref 199, .ref 200, .ref 201, .ref 202, .ref 203, .ref 204, .ref 205, .int (-1), .int 0, .ref 206, .ref 207, .ref 208, .ref 209, .ref 210, .ref 211, .ref 212, .ref 213, .ref 214, .ref 215, .int 0, .int 0, .int 0, .int 0, .ref 216, .ref 217, .ref 218, .ref 219, .ref 220, .int (-1), .int 0, .int 0, .int 0, .int 0, .int 0, .int 0, .ref 221, .ref 222, .ref 223, .ref 224, .int 0, .ref 225, .int 0, .ref 226, .ref 227, .int 0, .ref 228, .ref 229, .ref 230, .ref 231, .ref 232]) rfl e191_17 rfl rfl rfl rfl (fun h18 o18 f18 => ?_)
  have s18 := s17.put f18
  refine s_iinc (y := 7) (lv' := [(2, .int 7), (0, .ref 191), (1, .int 15)]) rfl rfl (by decide) (by decide) rfl ?_
  refine q_goto rfl ?_
  refine q_iload_n rfl rfl ?_
  refine q_iload_n rfl rfl ?_
  refine q_icmp_ge rfl (fun c => absurd c (by decide)) (fun _ => ?_)
  refine q_aload_n rfl rfl ?_
  refine s_get (v := .ref 193) rfl o18 rfl rfl ?_
  refine q_aload_n rfl rfl ?_
  refine s_get (v := .int 7) rfl o18 rfl rfl ?_
  refine q_aload_n rfl rfl ?_
  refine s_get (v := .ref 192) rfl o18 rfl rfl ?_
  refine q_iload_n rfl rfl ?_
  have e192_18 := (f18.ne rfl (f17.ne rfl e192_16))
  refine s_iaload (j := 7) (v := .int 0) rfl e192_18 (by decide) rfl (by first | rfl | decide) ?_
  have e193_18 := (f18.ne rfl o17)
  refine s_iastore (j := 7) rfl e193_18 (by decide) rfl (fun h19 o19 f19 => ?_)
  have s19 := s18.put f19
  refine q_aload_n rfl rfl ?_
  refine q_dup rfl rfl ?_
  have e191_19 := (o18.ne f19 rfl)
  refine s_get (v := .int 7) rfl e191_19 rfl rfl ?_
  refine q_iconst rfl ?_
  refine s_iadd (k := 8) rfl (by decide) ?_
  refine s_put (vs' := [.int 0, .ref 192, .ref 193, .int 8, .ref 194, .ref 195, .ref 196, .ref 197, .ref 198, .ref 199, .ref 200, .ref 201, .ref 202, .ref 203, .ref 204, .ref 205, .int (-1), .int 0, .ref 206, .ref 207, .ref 208, .ref 209, .ref 210, .ref 211, .ref 212, .ref 213, .ref 214, .ref 215, .int 0, .int 0, .int 0, .int 0, .ref 216, .ref 217, .ref 218, .ref 219, .ref 220, .int (-1), .int 0, .int 0, .int 0, .int 0, .int 0, .int 0, .ref 221, .ref 222, .ref 223, .ref 224, .int 0, .ref 225, .int 0, .ref 226, .ref 227, .int 0, .ref 228, .ref 229, .ref 230, .ref 231, .ref 232]) rfl e191_19 rfl rfl rfl rfl (fun h20 o20 f20 => ?_)
  have s20 := s19.put f20
  refine s_iinc (y := 8) (lv' := [(2, .int 8), (0, .ref 191), (1, .int 15)]) rfl rfl (by decide) (by decide) rfl ?_
  refine q_goto rfl ?_
  refine q_iload_n rfl rfl ?_
  refine q_iload_n rfl rfl ?_
  refine q_icmp_ge rfl (fun c => absurd c (by decide)) (fun _ => ?_)
  refine q_aload_n rfl rfl ?_
  refine s_get (v := .ref 193) rfl o20 rfl rfl ?_
  refine q_aload_n rfl rfl ?_
  refine s_get (v := .int 8) rfl o20 rfl rfl ?_
  refine q_aload_n rfl rfl ?_
  refine s_get (v := .ref 192) rfl o20 rfl rfl ?_
  refine q_iload_n rfl rfl ?_
  have e192_20 := (f20.ne rfl (f19.ne rfl e192_18))
  refine s_iaload (j := 8) (v := .int 0) rfl e192_20 (by decide) rfl (by first | rfl | decide) ?_
  have e193_20 := (f20.ne rfl o19)
  refine s_iastore (j := 8) rfl e193_20 (by decide) rfl (fun h21 o21 f21 => ?_)
  have s21 := s20.put f21
  refine q_aload_n rfl rfl ?_
  refine q_dup rfl rfl ?_
  have e191_21 := (o20.ne f21 rfl)
  refine s_get (v := .int 8) rfl e191_21 rfl rfl ?_
  refine q_iconst rfl ?_
  refine s_iadd (k := 9) rfl (by decide) ?_
  refine s_put (vs' := [.int 0, .ref 192, .ref 193, .int 9, .ref 194, .ref 195, .ref 196, .ref 197, .ref 198, .ref 199, .ref 200, .ref 201, .ref 202, .ref 203, .ref 204, .ref 205, .int (-1), .int 0, .ref 206, .ref 207, .ref 208, .ref 209, .ref 210, .ref 211, .ref 212, .ref 213, .ref 214, .ref 215, .int 0, .int 0, .int 0, .int 0, .ref 216, .ref 217, .ref 218, .ref 219, .ref 220, .int (-1), .int 0, .int 0, .int 0, .int 0, .int 0, .int 0, .ref 221, .ref 222, .ref 223, .ref 224, .int 0, .ref 225, .int 0, .ref 226, .ref 227, .int 0, .ref 228, .ref 229, .ref 230, .ref 231, .ref 232]) rfl e191_21 rfl rfl rfl rfl (fun h22 o22 f22 => ?_)
  have s22 := s21.put f22
  refine s_iinc (y := 9) (lv' := [(2, .int 9), (0, .ref 191), (1, .int 15)]) rfl rfl (by decide) (by decide) rfl ?_
  refine q_goto rfl ?_
  refine q_iload_n rfl rfl ?_
  refine q_iload_n rfl rfl ?_
  refine q_icmp_ge rfl (fun c => absurd c (by decide)) (fun _ => ?_)
  refine q_aload_n rfl rfl ?_
  refine s_get (v := .ref 193) rfl o22 rfl rfl ?_
  refine q_aload_n rfl rfl ?_
  refine s_get (v := .int 9) rfl o22 rfl rfl ?_
  refine q_aload_n rfl rfl ?_
  refine s_get (v := .ref 192) rfl o22 rfl rfl ?_
  refine q_iload_n rfl rfl ?_
  have e192_22 := (f22.ne rfl (f21.ne rfl e192_20))
  refine s_iaload (j := 9) (v := .int 0) rfl e192_22 (by decide) rfl (by first | rfl | decide) ?_
  have e193_22 := (f22.ne rfl o21)
  refine s_iastore (j := 9) rfl e193_22 (by decide) rfl (fun h23 o23 f23 => ?_)
  have s23 := s22.put f23
  refine q_aload_n rfl rfl ?_
  refine q_dup rfl rfl ?_
  have e191_23 := (o22.ne f23 rfl)
  refine s_get (v := .int 9) rfl e191_23 rfl rfl ?_
  refine q_iconst rfl ?_
  refine s_iadd (k := 10) rfl (by decide) ?_
  refine s_put (vs' := [.int 0, .ref 192, .ref 193, .int 10, .ref 194, .ref 195, .ref 196, .ref 197, .ref 198, .ref 199, .ref 200, .ref 201, .ref 202, .ref 203, .ref 204, .ref 205, .int (-1), .int 0, .ref 206, .ref 207, .ref 208, .ref 209, .ref 210, .ref 211, .ref 212, .ref 213, .ref 214, .ref 215, .int 0, .int 0, .int 0, .int 0, .ref 216, .ref 217, .ref 218, .ref 219, .ref 220, .int (-1), .int 0, .int 0, .int 0, .int 0, .int 0, .int 0, .ref 221, .ref 222, .ref 223, .ref 224, .int 0, .ref 225, .int 0, .ref 226, .ref 227, .int 0, .ref 228, .ref 229, .ref 230, .ref 231, .ref 232]) rfl e191_23 rfl rfl rfl rfl (fun h24 o24 f24 => ?_)
  have s24 := s23.put f24
  refine s_iinc (y := 10) (lv' := [(2, .int 10), (0, .ref 191), (1, .int 15)]) rfl rfl (by decide) (by decide) rfl ?_
  refine q_goto rfl ?_
  refine q_iload_n rfl rfl ?_
  refine q_iload_n rfl rfl ?_
  refine q_icmp_ge rfl (fun c => absurd c (by decide)) (fun _ => ?_)
  refine q_aload_n rfl rfl ?_
  refine s_get (v := .ref 193) rfl o24 rfl rfl ?_
  refine q_aload_n rfl rfl ?_
  refine s_get (v := .int 10) rfl o24 rfl rfl ?_
  refine q_aload_n rfl rfl ?_
  refine s_get (v := .ref 192) rfl o24 rfl rfl ?_
  refine q_iload_n rfl rfl ?_
  have e192_24 := (f24.ne rfl (f23.ne rfl e192_22))
  refine s_iaload (j := 10) (v := .int 0) rfl e192_24 (by decide) rfl (by first | rfl | decide) ?_
  have e193_24 := (f24.ne rfl o23)
  refine s_iastore (j := 10) rfl e193_24 (by decide) rfl (fun h25 o25 f25 => ?_)
  have s25 := s24.put f25
  refine q_aload_n rfl rfl ?_
  refine q_dup rfl rfl ?_
  have e191_25 := (o24.ne f25 rfl)
  refine s_get (v := .int 10) rfl e191_25 rfl rfl ?_
  refine q_iconst rfl ?_
  refine s_iadd (k := 11) rfl (by decide) ?_
  refine s_put (vs' := [.int 0, .ref 192, .ref 193, .int 11, .ref 194, .ref 195, .ref 196, .ref 197, .ref 198, .ref 199, .ref 200, .ref 201, .ref 202, .ref 203, .ref 204, .ref 205, .int (-1), .int 0, .ref 206, .ref 207, .ref 208, .ref 209, .ref 210, .ref 211, .ref 212, .ref 213, .ref 214, .ref 215, .int 0, .int 0, .int 0, .int 0, .ref 216, .ref 217, .ref 218, .ref 219, .ref 220, .int (-1), .int 0, .int 0, .int 0, .int 0, .int 0, .int 0, .ref 221, .ref 222, .ref 223, .ref 224, .int 0, .ref 225, .int 0, .ref 226, .ref 227, .int 0, .ref 228, .ref 229, .ref 230, .ref 231, .ref 232]) rfl e191_25 rfl rfl rfl rfl (fun h26 o26 f26 => ?_)
  have s26 := s25.put f26
  refine s_iinc (y := 11) (lv' := [(2, .int 11), (0, .ref 191), (1, .int 15)]) rfl rfl (by decide) (by decide) rfl ?_
  refine q_goto rfl ?_
  refine q_iload_n rfl rfl ?_
  refine q_iload_n rfl rfl ?_
  refine q_icmp_ge rfl (fun c => absurd c (by decide)) (fun _ => ?_)
  refine q_aload_n rfl rfl ?_
  refine s_get (v := .ref 193) rfl o26 rfl rfl ?_
  refine q_aload_n rfl rfl ?_
  refine s_get (v := .int 11) rfl o26 rfl rfl ?_
  refine q_aload_n rfl rfl ?_
  refine s_get (v := .ref 192) rfl o26 rfl rfl ?_
  refine q_iload_n rfl rfl ?_
  have e192_26 := (f26.ne rfl (f25.ne rfl e192_24))
  refine s_iaload (j := 11) (v := .int 0) rfl e192_26 (by decide) rfl (by first | rfl | decide) ?_
  have e193_26 := (f26.ne rfl o25)
  refine s_iastore (j := 11) rfl e193_26 (by decide) rfl (fun h27 o27 f27 => ?_)
  have s27 := s26.put f27
  refine q_aload_n rfl rfl ?_
  refine q_dup rfl rfl ?_
  have e191_27 := (o26.ne f27 rfl)
  refine s_get (v := .int 11) rfl e191_27 rfl rfl ?_
  refine q_iconst rfl ?_
  refine s_iadd (k := 12) rfl (by decide) ?_
  refine s_put (vs' := [.int 0, .ref 192, .ref 193, .int 12, .ref 194, .ref 195, .ref 196, .ref 197, .ref 198, .ref 199, .ref 200, .ref 201, .ref 202, .ref 203, .ref 204, .ref 205, .int (-1), .int 0, .ref 206, .ref 207, .ref 208, .ref 209, .ref 210, .ref 211, .ref 212, .ref 213, .ref 214, .ref 215, .int 0, .int 0, .int 0, .int 0, .ref 216, .ref 217, .ref 218, .ref 219, .ref 220, .int (-1), .int 0, .int 0, .int 0, .int 0, .int 0, .int 0, .ref 221, .ref 222, .ref 223, .ref 224, .int 0, .ref 225, .int 0, .ref 226, .ref 227, .int 0, .ref 228, .ref 229, .ref 230, .ref 231, .ref 232]) rfl e191_27 rfl rfl rfl rfl (fun h28 o28 f28 => ?_)
  have s28 := s27.put f28
  refine s_iinc (y := 12) (lv' := [(2, .int 12), (0, .ref 191), (1, .int 15)]) rfl rfl (by decide) (by decide) rfl ?_
  refine q_goto rfl ?_
  refine q_iload_n rfl rfl ?_
  refine q_iload_n rfl rfl ?_
  refine q_icmp_ge rfl (fun c => absurd c (by decide)) (fun _ => ?_)
  refine q_aload_n rfl rfl ?_
  refine s_get (v := .ref 193) rfl o28 rfl rfl ?_
  refine q_aload_n rfl rfl ?_
  refine s_get (v := .int 12) rfl o28 rfl rfl ?_
  refine q_aload_n rfl rfl ?_
  refine s_get (v := .ref 192) rfl o28 rfl rfl ?_
  refine q_iload_n rfl rfl ?_
  have e192_28 := (f28.ne rfl (f27.ne rfl e192_26))
  refine s_iaload (j := 12) (v := .int 0) rfl e192_28 (by decide) rfl (by first | rfl | decide) ?_
  have e193_28 := (f28.ne rfl o27)
  refine s_iastore (j := 12) rfl e193_28 (by decide) rfl (fun h29 o29 f29 => ?_)
  have s29 := s28.put f29
  refine q_aload_n rfl rfl ?_
  refine q_dup rfl rfl ?_
  have e191_29 := (o28.ne f29 rfl)
  refine s_get (v := .int 12) rfl e191_29 rfl rfl ?_
  refine q_iconst rfl ?_
  refine s_iadd (k := 13) rfl (by decide) ?_
  refine s_put (vs' := [.int 0, .ref 192, .ref 193, .int 13, .ref 194, .ref 195, .ref 196, .ref 197, .ref 198, .ref 199, .ref 200, .ref 201, .ref 202, .ref 203, .ref 204, .ref 205, .int (-1), .int 0, .ref 206, .ref 207, .ref 208, .ref 209, .ref 210, .ref 211, .ref 212, .ref 213, .ref 214, .ref 215, .int 0, .int 0, .int 0, .int 0, .ref 216, .ref 217, .ref 218, .ref 219, .ref 220, .int (-1), .int 0, .int 0, .int 0, .int 0, .int 0, .int 0, .ref 221, .ref 222, .ref 223, .ref 224, .int 0, .ref 225, .int 0, .ref 226, .ref 227, .int 0, .ref 228, .ref 229, .ref 230, .ref 231, .ref 232]) rfl e191_29 rfl rfl rfl rfl (fun h30 o30 f30 => ?_)
  have s30 := s29.put f30
  refine s_iinc (y := 13) (lv' := [(2, .int 13), (0, .ref 191), (1, .int 15)]) rfl rfl (by decide) (by decide) rfl ?_
  refine q_goto rfl ?_
  refine q_iload_n rfl rfl ?_
  refine q_iload_n rfl rfl ?_
  refine q_icmp_ge rfl (fun c => absurd c (by decide)) (fun _ => ?_)
  refine q_aload_n rfl rfl ?_
  refine s_get (v := .ref 193) rfl o30 rfl rfl ?_
  refine q_aload_n rfl rfl ?_
  refine s_get (v := .int 13) rfl o30 rfl rfl ?_
  refine q_aload_n rfl rfl ?_
  refine s_get (v := .ref 192) rfl o30 rfl rfl ?_
  refine q_iload_n rfl rfl ?_
  have e192_30 := (f30.ne rfl (f29.ne rfl e192_28))
  refine s_iaload (j := 13) (v := .int 0) rfl e192_30 (by decide) rfl (by first | rfl | decide) ?_
  have e193_30 := (f30.ne rfl o29)
  refine s_iastore (j := 13) rfl e193_30 (by decide) rfl (fun h31 o31 f31 => ?_)
  have s31 := s30.put f31
  refine q_aload_n rfl rfl ?_
  refine q_dup rfl rfl ?_
  have e191_31 := (o30.ne f31 rfl)
  refine s_get (v := .int 13) rfl e191_31 rfl rfl ?_
  refine q_iconst rfl ?_
  refine s_iadd (k := 14) rfl (by decide) ?_
  refine s_put (vs' := [.int 0, .ref 192, .ref 193, .int 14, .ref 194, .ref 195, .ref 196, .ref 197, .ref 198, .ref 199, .ref 200, .ref 201, .ref 202, .ref 203, .ref 204, .ref 205, .int (-1), .int 0, .ref 206, .ref 207, .ref 208, .ref 209, .ref 210, .ref 211, .ref 212, .ref 213, .ref 214, .ref 215, .int 0, .int 0, .int 0, .int 0, .ref 216, .ref 217, .ref 218, .ref 219, .ref 220, .int (-1), .int 0, .int 0, .int 0, .int 0, .int 0, .int 0, .ref 221, .ref 222, .ref 223, .ref 224, .int 0, .ref 225, .int 0, .ref 226, .ref 227, .int 0, .ref 228, .ref 229, .ref 230, .ref 231, .ref 232]) rfl e191_31 rfl rfl rfl rfl (fun h32 o32 f32 => ?_)
  have s32 := s31.put f32
  refine s_iinc (y := 14) (lv' := [(2, .int 14), (0, .ref 191), (1, .int 15)]) rfl rfl (by decide) (by decide) rfl ?_
  refine q_goto rfl ?_
  refine q_iload_n rfl rfl ?_
  refine q_iload_n rfl rfl ?_
  refine q_icmp_ge rfl (fun c => absurd c (by decide)) (fun _ => ?_)
  refine q_aload_n rfl rfl ?_
  refine s_get (v := .ref 193) rfl o32 rfl rfl ?_
  refine q_aload_n rfl rfl ?_
  refine s_get (v := .int 14) rfl o32 rfl rfl ?_
  refine q_aload_n rfl rfl ?_
  refine s_get (v := .ref 192) rfl o32 rfl rfl ?_
  refine q_iload_n rfl rfl ?_
  have e192_32 := (f32.ne rfl (f31.ne rfl e192_30))
  refine s_iaload (j := 14) (v := .int 0) rfl e192_32 (by decide) rfl (by first | rfl | decide) ?_
  have e193_32 := (f32.ne rfl o31)
  refine s_iastore (j := 14) rfl e193_32 (by decide) rfl (fun h33 o33 f33 => ?_)
  have s33 := s32.put f33
  refine q_aload_n rfl rfl ?_
  refine q_dup rfl rfl ?_
  have e191_33 := (o32.ne f33 rfl)
  refine s_get (v := .int 14) rfl e191_33 rfl rfl ?_
  refine q_iconst rfl ?_
  refine s_iadd (k := 15) rfl (by decide) ?_
  refine s_put (vs' := [.int 0, .ref 192, .ref 193, .int 15, .ref 194, .ref 195, .ref 196, .ref 197, .ref 198, .ref 199, .ref 200, .ref 201, .ref 202, .ref 203, .ref 204, .ref 205, .int (-1), .int 0, .ref 206, .ref 207, .ref 208, .ref 209, .ref 210, .ref 211, .ref 212, .ref 213, .ref 214, .ref 215, .int 0, .int 0, .int 0, .int 0, .ref 216, .ref 217, .ref 218, .ref 219, .ref 220, .int (-1), .int 0, .int 0, .int 0, .int 0, .int 0, .int 0, .ref 221, .ref 222, .ref 223, .ref 224, .int 0, .ref 225, .int 0, .ref 226, .ref 227, .int 0, .ref 228, .ref 229, .ref 230, .ref 231, .ref 232]) rfl e191_33 rfl rfl rfl rfl (fun h34 o34 f34 => ?_)
  have s34 := s33.put f34
  refine s_iinc (y := 15) (lv' := [(2, .int 15), (0, .ref 191), (1, .int 15)]) rfl rfl (by decide) (by decide) rfl ?_
  refine q_goto rfl ?_
  refine q_iload_n rfl rfl ?_
  refine q_iload_n rfl rfl ?_
  refine q_icmp_ge rfl (fun _ => ?_) (fun c => absurd (by decide) c)
  refine q_iconst rfl ?_
  refine s_istore_n (lv' := [(2, .int 0), (0, .ref 191), (1, .int 15)]) rfl (by decide) rfl ?_
  have e192_34 := (f34.ne rfl (f33.ne rfl e192_32))
  refine en_loop (m := 191) (a := 192) rfl rfl (by decide) (by decide) 20 0 h34 _ rfl o34 e192_34 (fun h35 f35 => ?_)
  have s35 := s34.put f35
  show aW aiP 217 16 636 88 [(2, .int 20), (0, .ref 191), (1, .int 15)] [] h35 _
  refine q_aload_n rfl rfl ?_
  have e191_35 := (o34.ne f35 rfl)
  refine s_get (v := .int 15) rfl e191_35 rfl rfl ?_
  refine q_ireturn rfl rfl ?_
  show aW aiP 0 17 658 243 [(4, .int 0), (3, .ref 233), (2, .ref 191), (1, .ref 6), (0, .ref 0)] [.int 15, .int 15] h35 _
  refine q_icmp_eq rfl (fun _ => ?_) (fun c => absurd (by decide) c)
  refine s_iinc (y := 6) (lv' := [(4, .int 6), (3, .ref 233), (2, .ref 191), (1, .ref 6), (0, .ref 0)]) rfl rfl (by decide) (by decide) rfl ?_
  refine q_goto rfl ?_
  refine q_iload rfl rfl ?_
  refine q_aload_n rfl rfl ?_
  have e0_35 := (f35.ne rfl (f34.ne rfl (f33.ne rfl (f32.ne rfl (f31.ne rfl (f30.ne rfl (f29.ne rfl (f28.ne rfl (f27.ne rfl (f26.ne rfl (f25.ne rfl (f24.ne rfl (f23.ne rfl (f22.ne rfl (f21.ne rfl (f20.ne rfl (f19.ne rfl (f18.ne rfl (f17.ne rfl (f16.ne rfl (f15.ne rfl (f14.ne rfl (f13.ne rfl (f12.ne rfl (f11.ne rfl (f10.ne rfl (f9.ne rfl (f8.ne rfl (f7.ne rfl (f6.ne rfl (f5.ne rfl (f4.ne rfl e0_3))))))))))))))))))))))))))))))))
  refine s_alen (x := 6) rfl e0_35 rfl (by decide) ?_
  refine q_bipush rfl ?_
  refine s_isub (k := 0) rfl (by decide) ?_
  refine q_icmp_gt rfl (fun _ => ?_) (fun c => absurd (by decide) c)
  refine q_iconst rfl ?_
  refine q_ireturn rfl rfl ?_
  exact ⟨rfl, s35.bd rfl⟩
set_option maxRecDepth 20000 in
set_option maxHeartbeats 4000000 in
theorem p_case1_16 {xs : Nat → Int32} {h : ai_H} (F : Fresh 6 xs h) (hk : xs 0 &&& 31 = 1) (hw : xs 1 = 16) : aW aiP 0 17 658 33 [(4, .int 0), (3, .ref 233), (2, .ref 191), (1, .ref 6), (0, .ref 0)] [] h p_Q := by
  have s0 := F.2.2.2.2.2.2.2.2.2.2.2.2.2.2.2.2.2.2.2.2.2.2.2.2.2.2.2.2.2.2.2.2.2.2.2.2.2.2.2.2.2.2.2.2.2.2.2.2.2.2.2.2.2.2.2.2.2.2.2.2.2.2.2.2.2.2.2.2.2.2
  refine q_aload_n rfl rfl ?_
  refine q_iload rfl rfl ?_
  have e0 := F.1
  refine s_iaload (j := 0) (v := .int (xs 0)) rfl e0 (by decide) rfl (by first | rfl | decide) ?_
  refine q_bipush rfl ?_
  refine s_iand (k := ((xs 0) &&& (31 : Int32))) rfl rfl ?_
  rw [hk]
  show aW aiP 0 17 658 40 [(4, .int 0), (3, .ref 233), (2, .ref 191), (1, .ref 6), (0, .ref 0)] [.int 1] h _
  refine s_sw (tg := 223) rfl rfl ?_
  refine q_aload_n rfl rfl ?_
  refine q_aload_n rfl rfl ?_
  refine q_iload rfl rfl ?_
  refine q_iconst rfl ?_
  refine s_iadd (k := 1) rfl (by decide) ?_
  refine s_iaload (j := 1) (v := .int (xs 1)) rfl e0 (by decide) rfl (by first | rfl | decide) ?_
  rw [hw]
  have e6 := F.2.2.2.2.2.2.1
  refine s_callV (as := [.int 16]) (rest := []) (d' := 16) (w' := 637) (lv' := [(0, .ref 6), (1, .int 16)]) rfl e6 rfl rfl rfl rfl rfl rfl ?_
  refine q_iload_n rfl rfl ?_
  refine q_if_lt rfl (fun c => absurd c (by decide)) (fun _ => ?_)
  refine q_iload_n rfl rfl ?_
  refine q_bipush rfl ?_
  refine q_icmp_gt rfl (fun c => absurd c (by decide)) (fun _ => ?_)
  refine q_aload_n rfl rfl ?_
  refine s_get (v := .int 0) rfl e6 rfl rfl ?_
  refine q_iload_n rfl rfl ?_
  refine s_iadd (k := 16) rfl (by decide) ?_
  refine q_sipush rfl ?_
  refine q_icmp_le rfl (fun _ => ?_) (fun c => absurd (by decide) c)
  refine q_aload_n rfl rfl ?_
  refine s_get (v := .ref 7) rfl e6 rfl rfl ?_
  refine q_iconst rfl ?_
  refine q_aload_n rfl rfl ?_
  refine s_get (v := .ref 8) rfl e6 rfl rfl ?_
  refine q_aload_n rfl rfl ?_
  refine s_get (v := .int 0) rfl e6 rfl rfl ?_
  refine q_iload_n rfl rfl ?_
  have e7 := F.2.2.2.2.2.2.2.1
  have e8 := F.2.2.2.2.2.2.2.2.1
  refine s_copy (sp := 0) (dp := 0) (k := 16) rfl e7 e8 (by decide) (by decide) (by decide) rfl (by decide) (by decide) (by decide) (fun i _ => rfl) (fun h1 o1 f1 => ?_)
  have s1 := s0.put f1
  refine q_aload_n rfl rfl ?_
  refine q_dup rfl rfl ?_
  have e6_1 := (e6.ne f1 rfl)
  refine s_get (v := .int 0) rfl e6_1 rfl rfl ?_
  refine q_iload_n rfl rfl ?_
  refine s_iadd (k := 16) rfl (by decide) ?_
  refine s_put (vs' := [.ref 7, .ref 8, .int 16, .ref 9, .int (-1), .ref 51, .ref 93, .ref 135, .ref 177, .ref 180, .int 0, .ref 183, .ref 186, .ref 189]) rfl e6_1 rfl rfl rfl rfl (fun h2 o2 f2 => ?_)
  have s2 := s1.put f2
  refine q_aload_n rfl rfl ?_
  refine s_get (v := .ref 7) rfl o2 rfl rfl ?_
  refine q_iconst rfl ?_
  refine s_callS (as := [.ref 7, .int 0]) (rest := []) (d' := 15) (w' := 614) (lv' := [(0, .ref 7), (1, .int 0)]) rfl rfl rfl rfl rfl rfl rfl rfl ?_
  refine q_iconst rfl ?_
  refine s_istore_n (lv' := [(2, .int 0), (0, .ref 7), (1, .int 0)]) rfl (by decide) rfl ?_
  refine q_aload_n rfl rfl ?_
  have e7_2 := (f2.ne rfl (f1.ne rfl e7))
  refine s_alen (x := 20) rfl e7_2 rfl (by decide) ?_
  refine s_istore_n (lv' := [(3, .int 20), (2, .int 0), (0, .ref 7), (1, .int 0)]) rfl (by decide) rfl ?_
  refine aW_lv (l := [(2, .int (nI 0)), (3, .int 20), (0, .ref 7), (1, .int 0)]) ?_ rfl rfl (by repeat' (first | exact inL_n | refine inL_c rfl ?_))
  refine fi_loop (a := 7) (by decide) 20 0 h2 _ rfl e7_2 (fun h3 f3 => ?_)
  have s3 := s2.put f3
  show aW aiP 15 16 637 59 [(0, .ref 6), (1, .int 16)] [] h3 _
  refine q_aload_n rfl rfl ?_
  have e6_3 := (o2.ne f3 rfl)
  refine s_get (v := .int 16) rfl e6_3 rfl rfl ?_
  refine q_ireturn rfl rfl ?_
  show aW aiP 0 17 658 233 [(4, .int 0), (3, .ref 233), (2, .ref 191), (1, .ref 6), (0, .ref 0)] [.int 16] h3 _
  refine q_aload_n rfl rfl ?_
  refine q_aload_n rfl rfl ?_
  refine q_iload rfl rfl ?_
  refine q_iconst rfl ?_
  refine s_iadd (k := 1) rfl (by decide) ?_
  have e0_3 := (f3.ne rfl (f2.ne rfl (f1.ne rfl e0)))
  refine s_iaload (j := 1) (v := .int (xs 1)) rfl e0_3 (by decide) rfl (by first | rfl | decide) ?_
  rw [hw]
  have e191 := F.2.2.2.2.2.2.2.2.2.2.2.2.2.2.2.2.2.2.2.2.2.2.2.2.2.2.2.1
  have e191_3 := (((e191.ne f1 rfl).ne f2 rfl).ne f3 rfl)
  refine s_callV (as := [.int 16]) (rest := [.int 16]) (d' := 16) (w' := 636) (lv' := [(0, .ref 191), (1, .int 16)]) rfl e191_3 rfl rfl rfl rfl rfl rfl ?_
  refine q_aload_n rfl rfl ?_
  refine q_iconst rfl ?_
  refine s_put (vs' := [.int 0, .ref 192, .ref 193, .int 0, .ref 194, .ref 195, .ref 196, .ref 197, .ref 198, .ref 199, .ref 200, .ref 201, .ref 202, .ref 203, .ref 204, .ref 205, .int (-1), .int 0, .ref 206, .ref 207, .ref 208, .ref 209, .ref 210, .ref 211, .ref 212, .ref 213, .ref 214, .ref 215, .int 0, .int 0, .int 0, .int 0, .ref 216, .ref 217, .ref 218, .ref 219, .ref 220, .int (-1), .int 0, .int 0, .int 0, .int 0, .int 0, .int 0, .ref 221, .ref 222, .ref 223, .ref 224, .int 0, .ref 225, .int 0, .ref 226, .ref 227, .int 0, .ref 228, .ref 229, .ref 230, .ref 231, .ref 232]) rfl e191_3 rfl rfl rfl rfl (fun h4 o4 f4 => ?_)
  have s4 := s3.put f4
  refine q_iload_n rfl rfl ?_
  refine q_if_lt rfl (fun c => absurd c (by decide)) (fun _ => ?_)
  refine q_iload_n rfl rfl ?_
  refine q_bipush rfl ?_
  refine q_icmp_gt rfl (fun c => absurd c (by decide)) (fun _ => ?_)
  refine q_aload_n rfl rfl ?_
  refine s_get (v := .int 0) rfl o4 rfl rfl ?_
  refine q_iload_n rfl rfl ?_
  refine s_iadd (k := 16) rfl (by decide) ?_
  refine q_sipush rfl ?_
  refine q_icmp_le rfl (fun _ => ?_) (fun c => absurd (by decide) c)
  refine q_iconst rfl ?_
  refine s_istore_n (lv' := [(2, .int 0), (0, .ref 191), (1, .int 16)]) rfl (by decide) rfl ?_
  refine q_iload_n rfl rfl ?_
  refine q_iload_n rfl rfl ?_
  refine q_icmp_ge rfl (fun c => absurd c (by decide)) (fun _ => ?_)
  refine q_aload_n rfl rfl ?_
  refine s_get (v := .ref 193) rfl o4 rfl rfl ?_
  refine q_aload_n rfl rfl ?_
  refine s_get (v := .int 0) rfl o4 rfl rfl ?_
  refine q_aload_n rfl rfl ?_
  refine s_get (v := .ref 192) rfl o4 rfl rfl ?_
  refine q_iload_n rfl rfl ?_
  have e192 := F.2.2.2.2.2.2.2.2.2.2.2.2.2.2.2.2.2.2.2.2.2.2.2.2.2.2.2.2.1
  have e192_4 := (f4.ne rfl (f3.ne rfl (f2.ne rfl (f1.ne rfl e192))))
  refine s_iaload (j := 0) (v := .int 0) rfl e192_4 (by decide) rfl (by first | rfl | decide) ?_
  have e193 := F.2.2.2.2.2.2.2.2.2.2.2.2.2.2.2.2.2.2.2.2.2.2.2.2.2.2.2.2.2.1
  have e193_4 := (f4.ne rfl (f3.ne rfl (f2.ne rfl (f1.ne rfl e193))))
  refine s_iastore (j := 0) rfl e193_4 (by decide) rfl (fun h5 o5 f5 => ?_)
  have s5 := s4.put f5
  refine q_aload_n rfl rfl ?_
  refine q_dup rfl rfl ?_
  have e191_5 := (o4.ne f5 rfl)
  refine s_get (v := .int 0) rfl e191_5 rfl rfl ?_
  refine q_iconst rfl ?_
  refine s_iadd (k := 1) rfl (by decide) ?_
  refine s_put (vs' := [.int 0, .ref 192, .ref 193, .int 1, .ref 194, .ref 195, .ref 196, .ref 197, .ref 198, .ref 199, .ref 200, .ref 201, .ref 202, .ref 203, .ref 204, .ref 205, .int (-1), .int 0, .ref 206, .ref 207, .ref 208, .ref 209, .ref 210, .ref 211, .ref 212, .ref 213, .ref 214, .ref 215, .int 0, .int 0, .int 0, .int 0, .ref 216, .ref 217, .ref 218, .ref 219, .ref 220, .int (-1), .int 0, .int 0, .int 0, .int 0, .int 0, .int 0, .ref 221, .ref 222, .ref 223, .ref 224, .int 0, .ref 225, .int 0, .ref 226, .ref 227, .int 0, .ref 228, .ref 229, .ref 230, .ref 231, .ref 232]) rfl e191_5 rfl rfl rfl rfl (fun h6 o6 f6 => ?_)
  have s6 := s5.put f6
  refine s_iinc (y := 1) (lv' := [(2, .int 1), (0, .ref 191), (1, .int 16)]) rfl rfl (by decide) (by decide) rfl ?_
  refine q_goto rfl ?_
  refine q_iload_n rfl rfl ?_
  refine q_iload_n rfl rfl ?_
  refine q_icmp_ge rfl (fun c => absurd c (by decide)) (fun _ => ?_)
  refine q_aload_n rfl rfl ?_
  refine s_get (v := .ref 193) rfl o6 rfl rfl ?_
  refine q_aload_n rfl rfl ?_
  refine s_get (v := .int 1) rfl o6 rfl rfl ?_
  refine q_aload_n rfl rfl ?_
  refine s_get (v := .ref 192) rfl o6 rfl rfl ?_
  refine q_iload_n rfl rfl ?_
  have e192_6 := (f6.ne rfl (f5.ne rfl e192_4))
  refine s_iaload (j := 1) (v := .int 0) rfl e192_6 (by decide) rfl (by first | rfl | decide) ?_
  have e193_6 := (f6.ne rfl o5)
  refine s_iastore (j := 1) rfl e193_6 (by decide) rfl (fun h7 o7 f7 => ?_)
  have s7 := s6.put f7
  refine q_aload_n rfl rfl ?_
  refine q_dup rfl rfl ?_
  have e191_7 := (o6.ne f7 rfl)
  refine s_get (v := .int 1) rfl e191_7 rfl rfl ?_
  refine q_iconst rfl ?_
  refine s_iadd (k := 2) rfl (by decide) ?_
  refine s_put (vs' := [.int 0, .ref 192, .ref 193, .int 2, .ref 194, .ref 195, .ref 196, .ref 197, .ref 198, .ref 199, .ref 200, .ref 201, .ref 202, .ref 203, .ref 204, .ref 205, .int (-1), .int 0, .ref 206, .ref 207, .ref 208, .ref 209, .ref 210, .ref 211, .ref 212, .ref 213, .ref 214, .ref 215, .int 0, .int 0, .int 0, .int 0, .ref 216, .ref 217, .ref 218, .ref 219, .ref 220, .int (-1), .int 0, .int 0, .int 0, .int 0, .int 0, .int 0, .ref 221, .ref 222, .ref 223, .ref 224, .int 0, .ref 225, .int 0, .ref 226, .ref 227, .int 0, .ref 228, .ref 229, .ref 230, .ref 231, .ref 232]) rfl e191_7 rfl rfl rfl rfl (fun h8 o8 f8 => ?_)
  have s8 := s7.put f8
  refine s_iinc (y := 2) (lv' := [(2, .int 2), (0, .ref 191), (1, .int 16)]) rfl rfl (by decide) (by decide) rfl ?_
  refine q_goto rfl ?_
  refine q_iload_n rfl rfl ?_
  refine q_iload_n rfl rfl ?_
  refine q_icmp_ge rfl (fun c => absurd c (by decide)) (fun _ => ?_)
  refine q_aload_n rfl rfl ?_
  refine s_get (v := .ref 193) rfl o8 rfl rfl ?_
  refine q_aload_n rfl rfl ?_
  refine s_get (v := .int 2) rfl o8 rfl rfl ?_
  refine q_aload_n rfl rfl ?_
  refine s_get (v := .ref 192) rfl o8 rfl rfl ?_
  refine q_iload_n rfl rfl ?_
  have e192_8 := (f8.ne rfl (f7.ne rfl e192_6))
  refine s_iaload (j := 2) (v := .int 0) rfl e192_8 (by decide) rfl (by first | rfl | decide) ?_
  have e193_8 := (f8.ne rfl o7)
  refine s_iastore (j := 2) rfl e193_8 (by decide) rfl (fun h9 o9 f9 => ?_)
  have s9 := s8.put f9
  refine q_aload_n rfl rfl ?_
  refine q_dup rfl rfl ?_
  have e191_9 := (o8.ne f9 rfl)
  refine s_get (v := .int 2) rfl e191_9 rfl rfl ?_
  refine q_iconst rfl ?_
  refine s_iadd (k := 3) rfl (by decide) ?_
  refine s_put (vs' := [.int 0, .ref 192, .ref 193, .int 3, .ref 194, .ref 195, .ref 196, .ref 197, .ref 198, .ref 199, .ref 200, .ref 201, .ref 202, .ref 203, .ref 204, .ref 205, .int (-1), .int 0, .ref 206, .ref 207, .ref 208, .ref 209, .ref 210, .ref 211, .ref 212, .ref 213, .ref 214, .ref 215, .int 0, .int 0, .int 0, .int 0, .ref 216, .ref 217, .ref 218, .ref 219, .ref 220, .int (-1), .int 0, .int 0, .int 0, .int 0, .int 0, .int 0, .ref 221, .ref 222, .ref 223, .ref 224, .int 0, .ref 225, .int 0, .ref 226, .ref 227, .int 0, .ref 228, .ref 229, .ref 230, .ref 231, .ref 232]) rfl e191_9 rfl rfl rfl rfl (fun h10 o10 f10 => ?_)
  have s10 := s9.put f10
  refine s_iinc (y := 3) (lv' := [(2, .int 3), (0, .ref 191), (1, .int 16)]) rfl rfl (by decide) (by decide) rfl ?_
  refine q_goto rfl ?_
  refine q_iload_n rfl rfl ?_
  refine q_iload_n rfl rfl ?_
  refine q_icmp_ge rfl (fun c => absurd c (by decide)) (fun _ => ?_)
  refine q_aload_n rfl rfl ?_
  refine s_get (v := .ref 193) rfl o10 rfl rfl ?_
  refine q_aload_n rfl rfl ?_
  refine s_get (v := .int 3) rfl o10 rfl rfl ?_
  refine q_aload_n rfl rfl ?_
  refine s_get (v := .ref 192) rfl o10 rfl rfl ?_
  refine q_iload_n rfl rfl ?_
  have e192_10 := (f10.ne rfl (f9.ne rfl e192_8))
  refine s_iaload (j := 3) (v := .int 0) rfl e192_10 (by decide) rfl (by first | rfl | decide) ?_
  have e193_10 := (f10.ne rfl o9)
  refine s_iastore (j := 3) rfl e193_10 (by decide) rfl (fun h11 o11 f11 => ?_)
  have s11 := s10.put f11
  refine q_aload_n rfl rfl ?_
  refine q_dup rfl rfl ?_
  have e191_11 := (o10.ne f11 rfl)
  refine s_get (v := .int 3) rfl e191_11 rfl rfl ?_
  refine q_iconst rfl ?_
  refine s_iadd (k := 4) rfl (by decide) ?_
  refine s_put (vs' := [.int 0, .ref 192, .ref 193, .int 4, .ref 194, .ref 195, .ref 196, .ref 197, .ref 198, .ref 199, .ref 200, .ref 201, .ref 202, .ref 203, .ref 204, .ref 205, .int (-1), .int 0, .ref 206, .ref 207, .ref 208, .ref 209, .ref 210, .ref 211, .ref 212, .ref 213, .ref 214, .ref 215, .int 0, .int 0, .int 0, .int 0, .ref 216, .ref 217, .ref 218, .ref 219, .ref 220, .int (-1), .int 0, .int 0, .int 0, .int 0, .int 0, .int 0, .ref 221, .ref 222, .ref 223, .ref 224, .int 0, .ref 225, .int 0, .ref 226, .ref 227, .int 0, .ref 228, .ref 229, .ref 230, .ref 231, .ref 232]) rfl e191_11 rfl rfl rfl rfl (fun h12 o12 f12 => ?_)
  have s12 := s11.put f12
  refine s_iinc (y := 4) (lv' := [(2, .int 4), (0, .ref 191), (1, .int 16)]) rfl rfl (by decide) (by decide) rfl ?_
  refine q_goto rfl ?_
  refine q_iload_n rfl rfl ?_
  refine q_iload_n rfl rfl ?_
  refine q_icmp_ge rfl (fun c => absurd c (by decide)) (fun _ => ?_)
  refine q_aload_n rfl rfl ?_
  refine s_get (v := .ref 193) rfl o12 rfl rfl ?_
  refine q_aload_n rfl rfl ?_
  refine s_get (v := .int 4) rfl o12 rfl rfl ?_
  refine q_aload_n rfl rfl ?_
  refine s_get (v := .ref 192) rfl o12 rfl rfl ?_
  refine q_iload_n rfl rfl ?_
  have e192_12 := (f12.ne rfl (f11.ne rfl e192_10))
  refine s_iaload (j := 4) (v := .int 0) rfl e192_12 (by decide) rfl (by first | rfl | decide) ?_
  have e193_12 := (f12.ne rfl o11)
  refine s_iastore (j := 4) rfl e193_12 (by decide) rfl (fun h13 o13 f13 => ?_)
  have s13 := s12.put f13
  refine q_aload_n rfl rfl ?_
  refine q_dup rfl rfl ?_
  have e191_13 := (o12.ne f13 rfl)
  refine s_get (v := .int 4) rfl e191_13 rfl rfl ?_
  refine q_iconst rfl ?_
  refine s_iadd (k := 5) rfl (by decide) ?_
  refine s_put (vs' := [.int 0, .ref 192, .ref 193, .int 5, .ref 194, .ref 195, .ref 196, .ref 197, .ref 198, .ref 199, .ref 200, .ref 201, .ref 202, .ref 203, .ref 204, .ref 205, .int (-1), .int 0, .ref 206, .ref 207, .ref 208, .ref 209, .ref 210, .ref 211, .ref 212, .ref 213, .ref 214, .ref 215, .int 0, .int 0, .int 0, .int 0, .ref 216, .ref 217, .ref 218, .ref 219, .ref 220, .int (-1), .int 0, .int 0, .int 0, .int 0, .int 0, .int 0, .ref 221, .ref 222, .ref 223, .ref 224, .int 0, .ref 225, .int 0, .ref 226, .ref 227, .int 0, .ref 228, .ref 229, .ref 230, .ref 231, .ref 232]) rfl e191_13 rfl rfl rfl rfl (fun h14 o14 f14 => ?_)
  have s14 := s13.put f14
  refine s_iinc (y := 5) (lv' := [(2, .int 5), (0, .ref 191), (1, .int 16)]) rfl rfl (by decide) (by decide) rfl ?_
  refine q_goto rfl ?_
  refine q_iload_n rfl rfl ?_
  refine q_iload_n rfl rfl ?_
  refine q_icmp_ge rfl (fun c => absurd c (by decide)) (fun _ => ?_)
  refine q_aload_n rfl rfl ?_
  refine s_get (v := .ref 193) rfl o14 rfl rfl ?_
  refine q_aload_n rfl rfl ?_
  refine s_get (v := .int 5) rfl o14 rfl rfl ?_
  refine q_aload_n rfl rfl ?_
  refine s_get (v := .ref 192) rfl o14 rfl rfl ?_
  refine q_iload_n rfl rfl ?_
  have e192_14 := (f14.ne rfl (f13.ne rfl e192_12))
  refine s_iaload (j := 5) (v := .int 0) rfl e192_14 (by decide) rfl (by first | rfl | decide) ?_
  have e193_14 := (f14.ne rfl o13)
  refine s_iastore (j := 5) rfl e193_14 (by decide) rfl (fun h15 o15 f15 => ?_)
  have s15 := s14.put f15
  refine q_aload_n rfl rfl ?_
  refine q_dup rfl rfl ?_
  have e191_15 := (o14.ne f15 rfl)
  refine s_get (v := .int 5) rfl e191_15 rfl rfl ?_
  refine q_iconst rfl ?_
  refine s_iadd (k := 6) rfl (by decide) ?_
  refine s_put (vs' := [.int 0, .ref 192, .ref 193, .int 6, .ref 194, .ref 195, .ref 196, .ref 197, .ref 198, .ref 199, .ref 200, .ref 201, .ref 202, .ref 203, .ref 204, .ref 205, .int (-1), .int 0, .ref 206, .ref 207, .ref 208, .ref 209, .ref 210, .ref 211, .ref 212, .ref 213, .ref 214, .ref 215, .int 0, .int 0, .int 0, .int 0, .ref 216, .ref 217, .ref 218, .ref 219, .ref 220, .int (-1), .int 0, .int 0, .int 0, .int 0, .int 0, .int 0, .ref 221, .ref 222, .ref 223, .ref 224, .int 0, .ref 225, .int 0, .ref 226, .ref 227, .int 0, .ref 228, .ref 229, .ref 230, .ref 231, .ref 232]) rfl e191_15 rfl rfl rfl rfl (fun h16 o16 f16 => ?_)
  have s16 := s15.put f16
  refine s_iinc (y := 6) (lv' := [(2, .int 6), (0, .ref 191), (1, .int 16)]) rfl rfl (by decide) (by decide) rfl ?_
  refine q_goto rfl ?_
  refine q_iload_n rfl rfl ?_
  refine q_iload_n rfl rfl ?_
  refine q_icmp_ge rfl (fun c => absurd c (by decide)) (fun _ => ?_)
  refine q_aload_n rfl rfl ?_
  refine s_get (v := .ref 193) rfl o16 rfl rfl ?_
  refine q_aload_n rfl rfl ?_
  refine s_get (v := .int 6) rfl o16 rfl rfl ?_
  refine q_aload_n rfl rfl ?_
  refine s_get (v := .ref 192) rfl o16 rfl rfl ?_
  refine q_iload_n rfl rfl ?_
  have e192_16 := (f16.ne rfl (f15.ne rfl e192_14))
  refine s_iaload (j := 6) (v := .int 0) rfl e192_16 (by decide) rfl (by first | rfl | decide) ?_
  have e193_16 := (f16.ne rfl o15)
  refine s_iastore (j := 6) rfl e193_16 (by decide) rfl (fun h17 o17 f17 => ?_)
  have s17 := s16.put f17
  refine q_aload_n rfl rfl ?_
  refine q_dup rfl rfl ?_
  have e191_17 := (o16.ne f17 rfl)
  refine s_get (v := .int 6) rfl e191_17 rfl rfl ?_
  refine q_iconst rfl ?_
  refine s_iadd (k := 7) rfl (by decide) ?_
  refine s_put (vs' := [.int 0, .ref 192, .ref 193, .int 7, .ref 194, .ref 195, .ref 196, .ref 197, .ref 198, .ref 199, .ref 200, .ref 201, .ref 202, .ref 203, .ref 204, .ref 205, .int (-1), .int 0, .ref 206, .ref 207, .ref 208, .ref 209, .ref 210, .ref 211, .ref 212, .ref 213, .ref 214, .ref 215, .int 0, .int 0, .int 0, .int 0, .ref 216, .ref 217, .ref 218, .ref 219, .ref 220, .int (-1), .int 0, .int 0, .int 0, .int 0, .int 0, .int 0, .ref 221, .ref 222, .ref 223, .ref 224, .int 0, .ref 225, .int 0, .ref 226, .ref 227, .int 0, .ref 228, .ref 229, .ref 230, .ref 231, .ref 232]) rfl e191_17 rfl rfl rfl rfl (fun h18 o18 f18 => ?_)
  have s18 := s17.put f18
  refine s_iinc (y := 7) (lv' := [(2, .int 7), (0, .ref 191), (1, .int 16)]) rfl rfl (by decide) (by decide) rfl ?_
  refine q_goto rfl ?_
  refine q_iload_n rfl rfl ?_
  refine q_iload_n rfl rfl ?_
  refine q_icmp_ge rfl (fun c => absurd c (by decide)) (fun _ => ?_)
  refine q_aload_n rfl rfl ?_
  refine s_get (v := .ref 193) rfl o18 rfl rfl ?_
  refine q_aload_n rfl rfl ?_
  refine s_get (v := .int 7) rfl o18 rfl rfl ?_
  refine q_aload_n rfl rfl ?_
  refine s_get (v := .ref 192) rfl o18 rfl rfl ?_
  refine q_iload_n rfl rfl ?_
  have e192_18 := (f18.ne rfl (f17.ne rfl e192_16))
  refine s_iaload (j := 7) (v := .int 0) rfl e192_18 (by decide) rfl (by first | rfl | decide) ?_
  have e193_18 := (f18.ne rfl o17)
  refine s_iastore (j := 7) rfl e193_18 (by decide) rfl (fun h19 o19 f19 => ?_)
  have s19 := s18.put f19
  refine q_aload_n rfl rfl ?_
  refine q_dup rfl rfl ?_
  have e191_19 := (o18.ne f19 rfl)
  refine s_get (v := .int 7) rfl e191_19 rfl rfl ?_
  refine q_iconst rfl ?_
  refine s_iadd (k := 8) rfl (by decide) ?_
  refine s_put (vs' := [.int 0, .ref 192, .ref 193, .int 8, .ref 194, .ref 195, .ref 196, .ref 197, .ref 198, .ref 199, .ref 200, .ref 201, .ref 202, .ref 203, .ref 204, .ref 205, .int (-1), .int 0, .ref 206, .ref 207, .ref 208, .ref 209, .ref 210, .ref 211, .ref 212, .ref 213, .ref 214, .ref 215, .int 0, .int 0, .int 0, .int 0, .ref 216, .ref 217, .ref 218, .ref 219, .ref 220, .int (-1), .int 0, .int 0, .int 0, .int 0, .int 0, .int 0, .ref 221, .ref 222, .ref 223, .ref 224, .int 0, .ref 225, .int 0, .ref 226, .ref 227, .int 0, .ref 228, .ref 229, .ref 230, .ref 231, .ref 232]) rfl e191_19 rfl rfl rfl rfl (fun h20 o20 f20 => ?_)
  have s20 := s19.put f20
  refine s_iinc (y := 8) (lv' := [(2, .int 8), (0, .ref 191), (1, .int 16)]) rfl rfl (by decide) (by decide) rfl ?_
  refine q_goto rfl ?_
  refine q_iload_n rfl rfl ?_
  refine q_iload_n rfl rfl ?_
  refine q_icmp_ge rfl (fun c => absurd c (by decide)) (fun _ => ?_)
  refine q_aload_n rfl rfl ?_
  refine s_get (v := .ref 193) rfl o20 rfl rfl ?_
  refine q_aload_n rfl rfl ?_
  refine s_get (v := .int 8) rfl o20 rfl rfl ?_
  refine q_aload_n rfl rfl ?_
  refine s_get (v := .ref 192) rfl o20 rfl rfl ?_
  refine q_iload_n rfl rfl ?_
  have e192_20 := (f20.ne rfl (f19.ne rfl e192_18))
  refine s_iaload (j := 8) (v := .int 0) rfl e192_20 (by decide) rfl (by first | rfl | decide) ?_
  have e193_20 := (f20.ne rfl o19)
  refine s_iastore (j := 8) rfl e193_20 (by decide) rfl (fun h21 o21 f21 => ?_)
  have s21 := s20.put f21
  refine q_aload_n rfl rfl ?_
  refine q_dup rfl rfl ?_
  have e191_21 := (o20.ne f21 rfl)
  refine s_get (v := .int 8) rfl e191_21 rfl rfl ?_
  refine q_iconst rfl ?_
  refine s_iadd (k := 9) rfl (by decide) ?_
  refine s_put (vs' := [.int 0, .ref 192, .ref 193, .int 9, .ref 194, .ref 195, .ref 196, .ref 197, .ref 198, .ref 199, .ref 200, .ref 201, .ref 202, .ref 203, .ref 204, .ref 205, .int (-1), .int 0, .ref 206, .ref 207, .ref 208, .ref 209, .ref 210, .ref 211, .ref 212, .ref 213, .ref 214, .ref 215, .int 0, .int 0, .int 0, .int 0, .ref 216, .ref 217, .ref 218, .ref 219, .ref 220, .int (-1), .int 0, .int 0, .int 0, .int 0, .int 0, .int 0, .ref 221, .ref 222, .ref 223, .ref 224, .int 0, .ref 225, .int 0, .ref 226, .ref 227, .int 0, .ref 228, .ref 229, .ref 230, .ref 231, .ref 232]) rfl e191_21 rfl rfl rfl rfl (fun h22 o22 f22 => ?_)
  have s22 := s21.put f22
  refine s_iinc (y := 9) (lv' := [(2, .int 9), (0, .ref 191), (1, .int 16)]) rfl rfl (by decide) (by decide) rfl ?_
  refine q_goto rfl ?_
  refine q_iload_n rfl rfl ?_
  refine q_iload_n rfl rfl ?_
  refine q_icmp_ge rfl (fun c => absurd c (by decide)) (fun _ => ?_)
  refine q_aload_n rfl rfl ?_
  refine s_get (v := .ref 193) rfl o22 rfl rfl ?_
  refine q_aload_n rfl rfl ?_
  refine s_get (v := .int 9) rfl o22 rfl rfl ?_
  refine q_aload_n rfl rfl ?_
  refine s_get (v := .ref 192) rfl o22 rfl rfl ?_
  refine q_iload_n rfl rfl ?_
  have e192_22 := (f22.ne rfl (f21.ne rfl e192_20))
  refine s_iaload (j := 9) (v := .int 0) rfl e192_22 (by decide) rfl (by first | rfl | decide) ?_
  have e193_22 := (f22.ne rfl o21)
  refine s_iastore (j := 9) rfl e193_22 (by decide) rfl (fun h23 o23 f23 => ?_)
  have s23 := s22.put f23
  refine q_aload_n rfl rfl ?_
  refine q_dup rfl rfl ?_
  have e191_23 := (o22.ne f23 rfl)
  refine s_get (v := .int 9) rfl e191_23 rfl rfl ?_
  refine q_iconst rfl ?_
  refine s_iadd (k := 10) rfl (by decide) ?_
  refine s_put (vs' := [.int 0, .ref 192, .ref 193, .int 10, .ref 194, .ref 195, .ref 196, .ref 197, .ref 198, .ref 199, .ref 200, .ref 201, .ref 202, .ref 203, .ref 204, .ref 205, .int (-1), .int 0, .ref 206, .ref 207, .ref 208, .ref 209, .ref 210, .ref 211, .ref 212, .ref 213, .ref 214, .ref 215, .int 0, .int 0, .int 0, .int 0, .ref 216, .ref 217, .ref 218, .ref 219, .ref 220, .int (-1), .int 0, .int 0, .int 0, .int 0, .int 0, .int 0, .ref 221, .ref 222, .ref 223, .ref 224, .int 0, .ref 225, .int 0, .ref 226, .ref 227, .int 0, .ref 228, .ref 229, .ref 230, .ref 231, .ref 232]) rfl e191_23 rfl rfl rfl rfl (fun h24 o24 f24 => ?_)
  have s24 := s23.put f24
  refine s_iinc (y := 10) (lv' := [(2, .int 10), (0, .ref 191), (1, .int 16)]) rfl rfl (by decide) (by decide) rfl ?_
  refine q_goto rfl ?_
  refine q_iload_n rfl rfl ?_
  refine q_iload_n rfl rfl ?_
  refine q_icmp_ge rfl (fun c => absurd c (by decide)) (fun _ => ?_)
  refine q_aload_n rfl rfl ?_
  refine s_get (v := .ref 193) rfl o24 rfl rfl ?_
  refine q_aload_n rfl rfl ?_
  refine s_get (v := .int 10) rfl o24 rfl rfl ?_
  refine q_aload_n rfl rfl ?_
  refine s_get (v := .ref 192) rfl o24 rfl rfl ?_
  refine q_iload_n rfl rfl ?_
  have e192_24 := (f24.ne rfl (f23.ne rfl e192_22))
  refine s_iaload (j := 10) (v := .int 0) rfl e192_24 (by decide) rfl (by first | rfl | decide) ?_
  have e193_24 := (f24.ne rfl o23)
  refine s_iastore (j := 10) rfl e193_24 (by decide) rfl (fun h25 o25 f25 => ?_)
  have s25 := s24.put f25
  refine q_aload_n rfl rfl ?_
  refine q_dup rfl rfl ?_
  have e191_25 := (o24.ne f25 rfl)
  refine s_get (v := .int 10) rfl e191_25 rfl rfl ?_
  refine q_iconst rfl ?_
  refine s_iadd (k := 11) rfl (by decide) ?_
  refine s_put (vs' := [.int 0, .ref 192, .ref 193, .int 11, .ref 194, .ref 195, .ref 196, .ref 197, .ref 198, .ref 199, .ref 200, .ref 201, .ref 202, .ref 203, .ref 204, .ref 205, .int (-1), .int 0, .ref 206, .ref 207, .ref 208, .ref 209, .ref 210, .ref 211, .ref 212, .ref 213, .ref 214, .ref 215, .int 0, .int 0, .int 0, .int 0, .ref 216, .ref 217, .ref 218, .ref 219, .ref 220, .int (-1), .int 0, .int 0, .int 0, .int 0, .int 0, .int 0, .ref 221, .ref 222, .ref 223, .ref 224, .int 0, .ref 225, .int 0, .ref 226, .ref 227, .int 0, .ref 228, .ref 229, .ref 230, .ref 231, .ref 232]) rfl e191_25 rfl rfl rfl rfl (fun h26 o26 f26 => ?_)
  have s26 := s25.put f26
  refine s_iinc (y := 11) (lv' := [(2, .int 11), (0, .ref 191), (1, .int 16)]) rfl rfl (by decide) (by decide) rfl ?_
  refine q_goto rfl ?_
  refine q_iload_n rfl rfl ?_
  refine q_iload_n rfl rfl ?_
  refine q_icmp_ge rfl (fun c => absurd c (by decide)) (fun _ => ?_)
  refine q_aload_n rfl rfl ?_
  refine s_get (v := .ref 193) rfl o26 rfl rfl ?_
  refine q_aload_n rfl rfl ?_
  refine s_get (v := .int 11) rfl o26 rfl rfl ?_
  refine q_aload_n rfl rfl ?_
  refine s_get (v := .ref 192) rfl o26 rfl rfl ?_
  refine q_iload_n rfl rfl ?_
  have e192_26 := (f26.ne rfl (f25.ne rfl e192_24))
  refine s_iaload (j := 11) (v := .int 0) rfl e192_26 (by decide) rfl (by first | rfl | decide) ?_
  have e193_26 := (f26.ne rfl o25)
  refine s_iastore (j := 11) rfl e193_26 (by decide) rfl (fun h27 o27 f27 => ?_)
  have s27 := s26.put f27
  refine q_aload_n rfl rfl ?_
  refine q_dup rfl rfl ?_
  have e191_27 := (o26.ne f27 rfl)
  refine s_get (v := .int 11) rfl e191_27 rfl rfl ?_
  refine q_iconst rfl ?_
  refine s_iadd (k := 12) rfl (by decide) ?_
  refine s_put (vs' := [.int 0, .ref 192, .ref 193, .int 12, .ref 194, .ref 195, .ref 196, .ref 197, .ref 198, .ref 199, .ref 200, .ref 201, .ref 202, .ref 203, .ref 204, .ref 205, .int (-1), .int 0, .ref 206, .ref 207, .ref 208, .ref 209, .ref 210, .ref 211, .ref 212, .ref 213, .ref 214, .ref 215, .int 0, .int 0, .int 0, .int 0, .ref 216, .ref 217, .ref 218, .ref 219, .ref 220, .int (-1), .int 0, .int 0, .int 0, .int 0, .int 0, .int 0, .ref 221, .ref 222, .ref 223, .ref 224, .int 0, .ref 225, .int 0, .ref 226, .ref 227, .int 0, .ref 228, .ref 229, .ref 230, .ref 231, .ref 232]) rfl e191_27 rfl rfl rfl rfl (fun h28 o28 f28 => ?_)
  have s28 := s27.put f28
  refine s_iinc (y := 12) (lv' := [(2, .int 12), (0, .ref 191), (1, .int 16)]) rfl rfl (by decide) (by decide) rfl ?_
  refine q_goto rfl ?_
  refine q_iload_n rfl rfl ?_
  refine q_iload_n rfl rfl ?_
  refine q_icmp_ge rfl (fun c => absurd c (by decide)) (fun _ => ?_)
  refine q_aload_n rfl rfl ?_
  refine s_get (v := .ref 193) rfl o28 rfl rfl ?_
  refine q_aload_n rfl rfl ?_
  refine s_get (v := .int 12) rfl o28 rfl rfl ?_
  refine q_aload_n rfl rfl ?_
  refine s_get (v := .ref 192) rfl o28 rfl rfl ?_
  refine q_iload_n rfl rfl ?_
  have e192_28 := (f28.ne rfl (f27.ne rfl e192_26))
  refine s_iaload (j := 12) (v := .int 0) rfl e192_28 (by decide) rfl (by first | rfl | decide) ?_
  have e193_28 := (f28.ne rfl o27)
  refine s_iastore (j := 12) rfl e193_28 (by decide) rfl (fun h29 o29 f29 => ?_)
  have s29 := s28.put f29
  refine q_aload_n rfl rfl ?_
  refine q_dup rfl rfl ?_
  have e191_29 := (o28.ne f29 rfl)
  refine s_get (v := .int 12) rfl e191_29 rfl rfl ?_
  refine q_iconst rfl ?_
  refine s_iadd (k := 13) rfl (by decide) ?_
  refine s_put (vs' := [.int 0, .ref 192, .ref 193, .int 13, .ref 194, .ref 195, .ref 196, .ref 197, .ref 198, .ref 199, .ref 200, .ref 201, .ref 202, .ref 203, .ref 204, .ref 205, .int (-1), .int 0, .ref 206, .ref 207, .ref 208, .ref 209, .ref 210, .ref 211, .ref 212, .ref 213, .ref 214, .ref 215, .int 0, .int 0, .int 0, .int 0, .ref 216, .ref 217, .ref 218, .ref 219, .ref 220, .int (-1), .int 0, .int 0, .int 0, .int 0, .int 0, .int 0, .ref 221, .ref 222, .ref 223, .ref 224, .int 0, .ref 225, .int 0, .ref 226, .ref 227, .int 0, .ref 228, .ref 229, .ref 230, .ref 231, .ref 232]) rfl e191_29 rfl rfl rfl rfl (fun h30 o30 f30 => ?_)
  have s30 := s29.put f30
  refine s_iinc (y := 13) (lv' := [(2, .int 13), (0, .ref 191), (1, .int 16)]) rfl rfl (by decide) (by decide) rfl ?_
  refine q_goto rfl ?_
  refine q_iload_n rfl rfl ?_
  refine q_iload_n rfl rfl ?_
  refine q_icmp_ge rfl (fun c => absurd c (by decide)) (fun _ => ?_)
  refine q_aload_n rfl rfl ?_
  refine s_get (v := .ref 193) rfl o30 rfl rfl ?_
  refine q_aload_n rfl rfl ?_
  refine s_get (v := .int 13) rfl o30 rfl rfl ?_
  refine q_aload_n rfl rfl ?_
  refine s_get (v := .ref 192) rfl o30 rfl rfl ?_
  refine q_iload_n rfl rfl ?_
  have e192_30 := (f30.ne rfl (f29.ne rfl e192_28))
  refine s_iaload (j := 13) (v := .int 0) rfl e192_30 (by decide) rfl (by first | rfl | decide) ?_
  have e193_30 := (f30.ne rfl o29)
  refine s_iastore (j := 13) rfl e193_30 (by decide) rfl (fun h31 o31 f31 => ?_)
  have s31 := s30.put f31
  refine q_aload_n rfl rfl ?_
  refine q_dup rfl rfl ?_
  have e191_31 := (o30.ne f31 rfl)
  refine s_get (v := .int 13) rfl e191_31 rfl rfl ?_
  refine q_iconst rfl ?_
  refine s_iadd (k := 14) rfl (by decide) ?_
  refine s_put (vs' := [.int 0, .ref 192, .ref 193, .int 14, .ref 194, .ref 195, .ref 196, .ref 197, .ref 198, .ref 199, .ref 200, .ref 201, .ref 202, .ref 203, .ref 204, .ref 205, .int (-1), .int 0, .ref 206, .ref 207, .ref 208, .ref 209, .ref 210, .ref 211, .ref 212, .ref 213, .ref 214, .ref 215, .int 0, .int 0, .int 0, .int 0, .ref 216, .ref 217, .ref 218, .ref 219, .ref 220, .int (-1), .int 0, .int 0, .int 0, .int 0, .int 0, .int 0, .ref 221, .ref 222, .ref 223, .ref 224, .int 0, .ref 225, .int 0, .ref 226, .ref 227, .int 0, .ref 228, .ref 229, .ref 230, .ref 231, .ref 232]) rfl e191_31 rfl rfl rfl rfl (fun h32 o32 f32 => ?_)
  have s32 := s31.put f32
  refine s_iinc (y := 14) (lv' := [(2, .int 14), (0, .ref 191), (1, .int 16)]) rfl rfl (by decide) (by decide) rfl ?_
  refine q_goto rfl ?_
  refine q_iload_n rfl rfl ?_
  refine q_iload_n rfl rfl ?_
  refine q_icmp_ge rfl (fun c => absurd c (by decide)) (fun _ => ?_)
  refine q_aload_n rfl rfl ?_
  refine s_get (v := .ref 193) rfl o32 rfl rfl ?_
  refine q_aload_n rfl rfl ?_
  refine s_get (v := .int 14) rfl o32 rfl rfl ?_
  refine q_aload_n rfl rfl ?_
  refine s_get (v := .ref 192) rfl o32 rfl rfl ?_
  refine q_iload_n rfl rfl ?_
  have e192_32 := (f32.ne rfl (f31.ne rfl e192_30))
  refine s_iaload (j := 14) (v := .int 0) rfl e192_32 (by decide) rfl (by first | rfl | decide) ?_
  have e193_32 := (f32.ne rfl o31)
  refine s_iastore (j := 14) rfl e193_32 (by decide) rfl (fun h33 o33 f33 => ?_)
  have s33 := s32.put f33
  refine q_aload_n rfl rfl ?_
  refine q_dup rfl rfl ?_
  have e191_33 := (o32.ne f33 rfl)
  refine s_get (v := .int 14) rfl e191_33 rfl rfl ?_
  refine q_iconst rfl ?_
  refine s_iadd (k := 15) rfl (by decide) ?_
  refine s_put (vs' := [.int 0, .ref 192, .ref 193, .int 15, .ref 194, .ref 195, .ref 196, .ref 197, .ref 198, .ref 199, .ref 200, .ref 201, .ref 202, .ref 203, .ref 204, .ref 205, .int (-1), .int 0, .ref 206, .ref 207, .ref 208, .ref 209, .ref 210, .ref 211, .ref 212, .ref 213, .ref 214, .ref 215, .int 0, .int 0, .int 0, .int 0, .ref 216, .ref 217, .ref 218, .ref 219, .ref 220, .int (-1), .int 0, .int 0, .int 0, .int 0, .int 0, .int 0, .ref 221, .ref 222, .ref 223, .ref 224, .int 0, .ref 225, .int 0, .ref 226, .ref 227, .int 0, .ref 228, .ref 229, .ref 230, .ref 231, .ref 232]) rfl e191_33 rfl rfl rfl rfl (fun h34 o34 f34 => ?_)
  have s34 := s33.put f34
  refine s_iinc (y := 15) (lv' := [(2, .int 15), (0, .ref 191), (1, .int 16)]) rfl rfl (by decide) (by decide) rfl ?_
  refine q_goto rfl ?_
  refine q_iload_n rfl rfl ?_
  refine q_iload_n rfl rfl ?_
  refine q_icmp_ge rfl (fun c => absurd c (by decide)) (fun _ => ?_)
  refine q_aload_n rfl rfl ?_
  refine s_get (v := .ref 193) rfl o34 rfl rfl ?_
  refine q_aload_n rfl rfl ?_
  refine s_get (v := .int 15) rfl o34 rfl rfl ?_
  refine q_aload_n rfl rfl ?_
  refine s_get (v := .ref 192) rfl o34 rfl rfl ?_
  refine q_iload_n rfl rfl ?_
  have e192_34 := (f34.ne rfl (f33.ne rfl e192_32))
  refine s_iaload (j := 15) (v := .int 0) rfl e192_34 (by decide) rfl (by first | rfl | decide) ?_
  have e193_34 := (f34.ne rfl o33)
  refine s_iastore (j := 15) rfl e193_34 (by decide) rfl (fun h35 o35 f35 => ?_)
  have s35 := s34.put f35
  refine q_aload_n rfl rfl ?_
  refine q_dup rfl rfl ?_
  have e191_35 := (o34.ne f35 rfl)
  refine s_get (v := .int 15) rfl e191_35 rfl rfl ?_
  refine q_iconst rfl ?_
  refine s_iadd (k := 16) rfl (by decide) ?_
  refine s_put (vs' := [.int 0, .ref 192, .ref 193, .int 16, .ref 194, .ref 195, .ref 196, .ref 197, .ref 198, .ref 199, .ref 200, .ref 201, .ref 202, .ref 203, .ref 204, .ref 205, .int (-1), .int 0, .ref 206, .ref 207, .ref 208, .ref 209, .ref 210, .ref 211, .ref 212, .ref 213, .ref 214, .ref 215, .int 0, .int 0, .int 0, .int 0, .ref 216, .ref 217, .ref 218, .ref 219, .ref 220, .int (-1), .int 0, .int 0, .int 0, .int 0, .int 0, .int 0, .ref 221, .ref 222, .ref 223, .ref 224, .int 0, .ref 225, .int 0, .ref 226, .ref 227, .int 0, .ref 228, .ref 229, .ref 230, .ref 231, .ref 232]) rfl e191_35 rfl rfl rfl rfl (fun h36 o36 f36 => ?_)
  have s36 := s35.put f36
  refine s_iinc (y := 16) (lv' := [(2, .int 16), (0, .ref 191), (1, .int 16)]) rfl rfl (by decide) (by decide) rfl ?_
  refine q_goto rfl ?_
  refine q_iload_n rfl rfl ?_
  refine q_iload_n rfl rfl ?_
  refine q_icmp_ge rfl (fun _ => ?_) (fun c => absurd (by decide) c)
  refine q_iconst rfl ?_
  refine s_istore_n (lv' := [(2, .int 0), (0, .ref 191), (1, .int 16)]) rfl (by decide) rfl ?_
  have e192_36 := (f36.ne rfl (f35.ne rfl e192_34))
  refine en_loop (m := 191) (a := 192) rfl rfl (by decide) (by decide) 20 0 h36 _ rfl o36 e192_36 (fun h37 f37 => ?_)
  have s37 := s36.put f37
  show aW aiP 217 16 636 88 [(2, .int 20), (0, .ref 191), (1, .int 16)] [] h37 _
  refine q_aload_n rfl rfl ?_
  have e191_37 := (o36.ne f37 rfl)
  refine s_get (v := .int 16) rfl e191_37 rfl rfl ?_
  refine q_ireturn rfl rfl ?_
  show aW aiP 0 17 658 243 [(4, .int 0), (3, .ref 233), (2, .ref 191), (1, .ref 6), (0, .ref 0)] [.int 16, .int 16] h37 _
  refine q_icmp_eq rfl (fun _ => ?_) (fun c => absurd (by decide) c)
  refine s_iinc (y := 6) (lv' := [(4, .int 6), (3, .ref 233), (2, .ref 191), (1, .ref 6), (0, .ref 0)]) rfl rfl (by decide) (by decide) rfl ?_
  refine q_goto rfl ?_
  refine q_iload rfl rfl ?_
  refine q_aload_n rfl rfl ?_
  have e0_37 := (f37.ne rfl (f36.ne rfl (f35.ne rfl (f34.ne rfl (f33.ne rfl (f32.ne rfl (f31.ne rfl (f30.ne rfl (f29.ne rfl (f28.ne rfl (f27.ne rfl (f26.ne rfl (f25.ne rfl (f24.ne rfl (f23.ne rfl (f22.ne rfl (f21.ne rfl (f20.ne rfl (f19.ne rfl (f18.ne rfl (f17.ne rfl (f16.ne rfl (f15.ne rfl (f14.ne rfl (f13.ne rfl (f12.ne rfl (f11.ne rfl (f10.ne rfl (f9.ne rfl (f8.ne rfl (f7.ne rfl (f6.ne rfl (f5.ne rfl (f4.ne rfl e0_3))))))))))))))))))))))))))))))))))
  refine s_alen (x := 6) rfl e0_37 rfl (by decide) ?_
  refine q_bipush rfl ?_
  refine s_isub (k := 0) rfl (by decide) ?_
  refine q_icmp_gt rfl (fun _ => ?_) (fun c => absurd (by decide) c)
  refine q_iconst rfl ?_
  refine q_ireturn rfl rfl ?_
  exact ⟨rfl, s37.bd rfl⟩
set_option maxRecDepth 20000 in
set_option maxHeartbeats 4000000 in
theorem p_case1_17 {xs : Nat → Int32} {h : ai_H} (F : Fresh 6 xs h) (hk : xs 0 &&& 31 = 1) (hw : xs 1 = 17) : aW aiP 0 17 658 33 [(4, .int 0), (3, .ref 233), (2, .ref 191), (1, .ref 6), (0, .ref 0)] [] h p_Q := by
  have s0 := F.2.2.2.2.2.2.2.2.2.2.2.2.2.2.2.2.2.2.2.2.2.2.2.2.2.2.2.2.2.2.2.2.2.2.2.2.2.2.2.2.2.2.2.2.2.2.2.2.2.2.2.2.2.2.2.2.2.2.2.2.2.2.2.2.2.2.2.2.2.2
  refine q_aload_n rfl rfl ?_
  refine q_iload rfl rfl ?_
  have e0 := F.1
  refine s_iaload (j := 0) (v := .int (xs 0)) rfl e0 (by decide) rfl (by first | rfl | decide) ?_
  refine q_bipush rfl ?_
  refine s_iand (k := ((xs 0) &&& (31 : Int32))) rfl rfl ?_
  rw [hk]
  show aW aiP 0 17 658 40 [(4, .int 0), (3, .ref 233), (2, .ref 191), (1, .ref 6), (0, .ref 0)] [.int 1] h _
  refine s_sw (tg := 223) rfl rfl ?_
  refine q_aload_n rfl rfl ?_
  refine q_aload_n rfl rfl ?_
  refine q_iload rfl rfl ?_
  refine q_iconst rfl ?_
  refine s_iadd (k := 1) rfl (by decide) ?_
  refine s_iaload (j := 1) (v := .int (xs 1)) rfl e0 (by decide) rfl (by first | rfl | decide) ?_
  rw [hw]
  have e6 := F.2.2.2.2.2.2.1
  refine s_callV (as := [.int 17]) (rest := []) (d' := 16) (w' := 637) (lv' := [(0, .ref 6), (1, .int 17)]) rfl e6 rfl rfl rfl rfl rfl rfl ?_
  refine q_iload_n rfl rfl ?_
  refine q_if_lt rfl (fun c => absurd c (by decide)) (fun _ => ?_)
  refine q_iload_n rfl rfl ?_
  refine q_bipush rfl ?_
  refine q_icmp_gt rfl (fun c => absurd c (by decide)) (fun _ => ?_)
  refine q_aload_n rfl rfl ?_
  refine s_get (v := .int 0) rfl e6 rfl rfl ?_
  refine q_iload_n rfl rfl ?_
  refine s_iadd (k := 17) rfl (by decide) ?_
  refine q_sipush rfl ?_
  refine q_icmp_le rfl (fun _ => ?_) (fun c => absurd (by decide) c)
  refine q_aload_n rfl rfl ?_
  refine s_get (v := .ref 7) rfl e6 rfl rfl ?_
  refine q_iconst rfl ?_
  refine q_aload_n rfl rfl ?_
  refine s_get (v := .ref 8) rfl e6 rfl rfl ?_
  refine q_aload_n rfl rfl ?_
  refine s_get (v := .int 0) rfl e6 rfl rfl ?_
  refine q_iload_n rfl rfl ?_
  have e7 := F.2.2.2.2.2.2.2.1
  have e8 := F.2.2.2.2.2.2.2.2.1
  refine s_copy (sp := 0) (dp := 0) (k := 17) rfl e7 e8 (by decide) (by decide) (by decide) rfl (by decide) (by decide) (by decide) (fun i _ => rfl) (fun h1 o1 f1 => ?_)
  have s1 := s0.put f1
  refine q_aload_n rfl rfl ?_
  refine q_dup rfl rfl ?_
  have e6_1 := (e6.ne f1 rfl)
  refine s_get (v := .int 0) rfl e6_1 rfl rfl ?_
  refine q_iload_n rfl rfl ?_
  refine s_iadd (k := 17) rfl (by decide) ?_
  refine s_put (vs' := [.ref 7, .ref 8, .int 17, .ref 9, .int (-1), .ref 51, .ref 93, .ref 135, .ref 177, .ref 180, .int 0, .ref 183, .ref 186, .ref 189]) rfl e6_1 rfl rfl rfl rfl (fun h2 o2 f2 => ?_)
  have s2 := s1.put f2
  refine q_aload_n rfl rfl ?_
  refine s_get (v := .ref 7) rfl o2 rfl rfl ?_
  refine q_iconst rfl ?_
  refine s_callS (as := [.ref 7, .int 0]) (rest := []) (d' := 15) (w' := 614) (lv' := [(0, .ref 7), (1, .int 0)]) rfl rfl rfl rfl rfl rfl rfl rfl ?_
  refine q_iconst rfl ?_
  refine s_istore_n (lv' := [(2, .int 0), (0, .ref 7), (1, .int 0)]) rfl (by decide) rfl ?_
  refine q_aload_n rfl rfl ?_
  have e7_2 := (f2.ne rfl (f1.ne rfl e7))
  refine s_alen (x := 20) rfl e7_2 rfl (by decide) ?_
  refine s_istore_n (lv' := [(3, .int 20), (2, .int 0), (0, .ref 7), (1, .int 0)]) rfl (by decide) rfl ?_
  refine aW_lv (l := [(2, .int (nI 0)), (3, .int 20), (0, .ref 7), (1, .int 0)]) ?_ rfl rfl (by repeat' (first | exact inL_n | refine inL_c rfl ?_))
  refine fi_loop (a := 7) (by decide) 20 0 h2 _ rfl e7_2 (fun h3 f3 => ?_)
  have s3 := s2.put f3
  show aW aiP 15 16 637 59 [(0, .ref 6), (1, .int 17)] [] h3 _
  refine q_aload_n rfl rfl ?_
  have e6_3 := (o2.ne f3 rfl)
  refine s_get (v := .int 17) rfl e6_3 rfl rfl ?_
  refine q_ireturn rfl rfl ?_
  show aW aiP 0 17 658 233 [(4, .int 0), (3, .ref 233), (2, .ref 191), (1, .ref 6), (0, .ref 0)] [.int 17] h3 _
  refine q_aload_n rfl rfl ?_
  refine q_aload_n rfl rfl ?_
  refine q_iload rfl rfl ?_
  refine q_iconst rfl ?_
  refine s_iadd (k := 1) rfl (by decide) ?_
  have e0_3 := (f3.ne rfl (f2.ne rfl (f1.ne rfl e0)))
  refine s_iaload (j := 1) (v := .int (xs 1)) rfl e0_3 (by decide) rfl (by first | rfl | decide) ?_
  rw [hw]
  have e191 := F.2.2.2.2.2.2.2.2.2.2.2.2.2.2.2.2.2.2.2.2.2.2.2.2.2.2.2.1
  have e191_3 := (((e191.ne f1 rfl).ne f2 rfl).ne f3 rfl)
  refine s_callV (as := [.int 17]) (rest := [.int 17]) (d' := 16) (w' := 636) (lv' := [(0, .ref 191), (1, .int 17)]) rfl e191_3 rfl rfl rfl rfl rfl rfl ?_
  refine q_aload_n rfl rfl ?_
  refine q_iconst rfl ?_
  refine s_put (vs' := [.int 0, .ref 192, .ref 193, .int 0, .ref 194, .ref 195, .ref 196, .ref 197, .ref 198, .ref 199, .ref 200, .ref 201, .ref 202, .ref 203, .ref 204, .ref 205, .int (-1), .int 0, .ref 206, .ref 207, .ref 208, .ref 209, .ref 210, .ref 211, .ref 212, .ref 213, .ref 214, .ref 215, .int 0, .int 0, .int 0, .int 0, .ref 216, .ref 217, .ref 218, .ref 219, .ref 220, .int (-1), .int 0, .int 0, .int 0, .int 0, .int 0, .int 0, .ref 221, .ref 222, .ref 223, .ref 224, .int 0, .ref 225, .int 0, .ref 226, .ref 227, .int 0, .ref 228, .ref 229, .ref 230, .ref 231, .ref 232]) rfl e191_3 rfl rfl rfl rfl (fun h4 o4 f4 => ?_)
  have s4 := s3.put f4
  refine q_iload_n rfl rfl ?_
  refine q_if_lt rfl (fun c => absurd c (by decide)) (fun _ => ?_)
  refine q_iload_n rfl rfl ?_
  refine q_bipush rfl ?_
  refine q_icmp_gt rfl (fun c => absurd c (by decide)) (fun _ => ?_)
  refine q_aload_n rfl rfl ?_
  refine s_get (v := .int 0) rfl o4 rfl rfl ?_
  refine q_iload_n rfl rfl ?_
  refine s_iadd (k := 17) rfl (by decide) ?_
  refine q_sipush rfl ?_
  refine q_icmp_le rfl (fun _ => ?_) (fun c => absurd (by decide) c)
  refine q_iconst rfl ?_
  refine s_istore_n (lv' := [(2, .int 0), (0, .ref 191), (1, .int 17)]) rfl (by decide) rfl ?_
  refine q_iload_n rfl rfl ?_
  refine q_iload_n rfl rfl ?_
  refine q_icmp_ge rfl (fun c => absurd c (by decide)) (fun _ => ?_)
  refine q_aload_n rfl rfl ?_
  refine s_get (v := .ref 193) rfl o4 rfl rfl ?_
  refine q_aload_n rfl rfl ?_
  refine s_get (v := .int 0) rfl o4 rfl rfl ?_
  refine q_aload_n rfl rfl ?_
  refine s_get (v := .ref 192) rfl o4 rfl rfl ?_
  refine q_iload_n rfl rfl ?_
  have e192 := F.2.2.2.2.2.2.2.2.2.2.2.2.2.2.2.2.2.2.2.2.2.2.2.2.2.2.2.2.1
  have e192_4 := (f4.ne rfl (f3.ne rfl (f2.ne rfl (f1.ne rfl e192))))
  refine s_iaload (j := 0) (v := .int 0) rfl e192_4 (by decide) rfl (by first | rfl | decide) ?_
  have e193 := F.2.2.2.2.2.2.2.2.2.2.2.2.2.2.2.2.2.2.2.2.2.2.2.2.2.2.2.2.2.1
  have e193_4 := (f4.ne rfl (f3.ne rfl (f2.ne rfl (f1.ne rfl e193))))
  refine s_iastore (j := 0) rfl e193_4 (by decide) rfl (fun h5 o5 f5 => ?_)
  have s5 := s4.put f5
  refine q_aload_n rfl rfl ?_
  refine q_dup rfl rfl ?_
  have e191_5 := (o4.ne f5 rfl)
  refine s_get (v := .int 0) rfl e191_5 rfl rfl ?_
  refine q_iconst rfl ?_
  refine s_iadd (k := 1) rfl (by decide) ?_
  refine s_put (vs' := [.int 0, .ref 192, .ref 193, .int 1, .ref 194, .ref 195, .ref 196, .ref 197, .ref 198, .ref 199, .ref 200, .ref 201, .ref 202, .ref 203, .ref 204, .ref 205, .int (-1), .int 0, .ref 206, .ref 207, .ref 208, .ref 209, .ref 210, .ref 211, .ref 212, .ref 213, .ref 214, .ref 215, .int 0, .int 0, .int 0, .int 0, .ref 216, .ref 217, .ref 218, .ref 219, .ref 220, .int (-1), .int 0, .int 0, .int 0, .int 0, .int 0, .int 0, .ref 221, .ref 222, .ref 223, .ref 224, .int 0, .ref 225, .int 0, .ref 226, .ref 227, .int 0, .ref 228, .ref 229, .ref 230, .ref 231, .ref 232]) rfl e191_5 rfl rfl rfl rfl (fun h6 o6 f6 => ?_)
  have s6 := s5.put f6
  refine s_iinc (y := 1) (lv' := [(2, .int 1), (0, .ref 191), (1, .int 17)]) rfl rfl (by decide) (by decide) rfl ?_
  refine q_goto rfl ?_
  refine q_iload_n rfl rfl ?_
  refine q_iload_n rfl rfl ?_
  refine q_icmp_ge rfl (fun c => absurd c (by decide)) (fun _ => ?_)
  refine q_aload_n rfl rfl ?_
  refine s_get (v := .ref 193) rfl o6 rfl rfl ?_
  refine q_aload_n rfl rfl ?_
  refine s_get (v := .int 1) rfl o6 rfl rfl ?_
  refine q_aload_n rfl rfl ?_
  refine s_get (v := .ref 192) rfl o6 rfl rfl ?_
  refine q_iload_n rfl rfl ?_
  have e192_6 := (f6.ne rfl (f5.ne rfl e192_4))
  refine s_iaload (j := 1) (v := .int 0) rfl e192_6 (by decide) rfl (by first | rfl | decide) ?_
  have e193_6 := (f6.ne rfl o5)
  refine s_iastore (j := 1) rfl e193_6 (by decide) rfl (fun h7 o7 f7 => ?_)
  have s7 := s6.put f7
  refine q_aload_n rfl rfl ?_
  refine q_dup rfl rfl ?_
  have e191_7 := (o6.ne f7 rfl)
  refine s_get (v := .int 1) rfl e191_7 rfl rfl ?_
  refine q_iconst rfl ?_
  refine s_iadd (k := 2) rfl (by decide) ?_
  refine s_put (vs' := [.int 0, .ref 192, .ref 193, .int 2, .ref 194, .ref 195, .ref 196, .ref 197, .ref 198, .ref 199, .ref 200, .ref 201, .ref 202, .ref 203, .ref 204, .ref 205, .int (-1), .int 0, .ref 206, .ref 207, .ref 208, .ref 209, .ref 210, .ref 211, .ref 212, .ref 213, .ref 214, .ref 215, .int 0, .int 0, .int 0, .int 0, .ref 216, .ref 217, .ref 218, .ref 219, .ref 220, .int (-1), .int 0, .int 0, .int 0, .int 0, .int 0, .int 0, .ref 221, .ref 222, .ref 223, .ref 224, .int 0, .ref 225, .int 0, .ref 226, .ref 227, .int 0, .ref 228, .ref 229, .ref 230, .ref 231, .ref 232]) rfl e191_7 rfl rfl rfl rfl (fun h8 o8 f8 => ?_)
  have s8 := s7.put f8
  refine s_iinc (y := 2) (lv' := [(2, .int 2), (0, .ref 191), (1, .int 17)]) rfl rfl (by decide) (by decide) rfl ?_
  refine q_goto rfl ?_
  refine q_iload_n rfl rfl ?_
  refine q_iload_n rfl rfl ?_
  refine q_icmp_ge rfl (fun c => absurd c (by decide)) (fun _ => ?_)
  refine q_aload_n rfl rfl ?_
  refine s_get (v := .ref 193) rfl o8 rfl rfl ?_
  refine q_aload_n rfl rfl ?_
  refine s_get (v := .int 2) rfl o8 rfl rfl ?_
  refine q_aload_n rfl rfl ?_
  refine s_get (v := .ref 192) rfl o8 rfl rfl ?_
  refine q_iload_n rfl rfl ?_
  have e192_8 := (f8.ne rfl (f7.ne rfl e192_6))
  refine s_iaload (j := 2) (v := .int 0) rfl e192_8 (by decide) rfl (by first | rfl | decide) ?_
  have e193_8 := (f8.ne rfl o7)
  refine s_iastore (j := 2) rfl e193_8 (by decide) rfl (fun h9 o9 f9 => ?_)
  have s9 := s8.put f9
  refine q_aload_n rfl rfl ?_
  refine q_dup rfl rfl ?_
  have e191_9 := (o8.ne f9 rfl)
  refine s_get (v := .int 2) rfl e191_9 rfl rfl ?_
  refine q_iconst rfl ?_
  refine s_iadd (k := 3) rfl (by decide) ?_
  refine s_put (vs' := [.int 0, .ref 192, .ref 193, .int 3, .ref 194, .ref 195, .ref 196, .ref 197, .ref 198, .ref 199, .ref 200, .ref 201, .ref 202, .ref 203, .ref 204, .ref 205, .int (-1), .int 0, .ref 206, .ref 207, .ref 208, .ref 209, .ref 210, .ref 211, .ref 212, .ref 213, .ref 214, .ref 215, .int 0, .int 0, .int 0, .int 0, .ref 216, .ref 217, .ref 218, .ref 219, .ref 220, .int (-1), .int 0, .int 0, .int 0, .int 0, .int 0, .int 0, .ref 221, .ref 222, .ref 223, .ref 224, .int 0, .ref 225, .int 0, .ref 226, .ref 227, .int 0, .ref 228, .ref 229, .ref 230, .ref 231, .ref 232]) rfl e191_9 rfl rfl rfl rfl (fun h10 o10 f10 => ?_)
  have s10 := s9.put f10
  refine s_iinc (y := 3) (lv' := [(2, .int 3), (0, .ref 191), (1, .int 17)]) rfl rfl (by decide) (by decide) rfl ?_
  refine q_goto rfl ?_
  refine q_iload_n rfl rfl ?_
  refine q_iload_n rfl rfl ?_
  refine q_icmp_ge rfl (fun c => absurd c (by decide)) (fun _ => ?_)
  refine q_aload_n rfl rfl ?_
  refine s_get (v := .ref 193) rfl o10 rfl rfl ?_
  refine q_aload_n rfl rfl ?_
  refine s_get (v := .int 3) rfl o10 rfl rfl ?_
  refine q_aload_n rfl rfl ?_
  refine s_get (v := .ref 192) rfl o10 rfl rfl ?_
  refine q_iload_n rfl rfl ?_
  have e192_10 := (f10.ne rfl (f9.ne rfl e192_8))
  refine s_iaload (j := 3) (v := .int 0) rfl e192_10 (by decide) rfl (by first | rfl | decide) ?_
  have e193_10 := (f10.ne rfl o9)
  refine s_iastore (j := 3) rfl e193_10 (by decide) rfl (fun h11 o11 f11 => ?_)
  have s11 := s10.put f11
  refine q_aload_n rfl rfl ?_
  refine q_dup rfl rfl ?_
  have e191_11 := (o10.ne f11 rfl)
  refine s_get (v := .int 3) rfl e191_11 rfl rfl ?_
  refine q_iconst rfl ?_
  refine s_iadd (k := 4) rfl (by decide) ?_
  refine s_put (vs' := [.int 0, .ref 192, .ref 193, .int 4, .ref 194, .ref 195, .ref 196, .ref 197, .ref 198, .ref 199, .ref 200, .ref 201, .ref 202, .ref 203, .ref 204, .ref 205, .int (-1), .int 0, .ref 206, .ref 207, .ref 208, .ref 209, .ref 210, .ref 211, .ref 212, .ref 213, .ref 214, .ref 215, .int 0, .int 0, .int 0, .int 0, .ref 216, .ref 217, .ref 218, .ref 219, .ref 220, .int (-1), .int 0, .int 0, .int 0, .int 0, .int 0, .int 0, .ref 221, .ref 222, .ref 223, .ref 224, .int 0, .ref 225, .int 0, .ref 226, .ref 227, .int 0, .ref 228, .ref 229, .ref 230, .ref 231, .ref 232]) rfl e191_11 rfl rfl rfl rfl (fun h12 o12 f12 => ?_)
  have s12 := s11.put f12
  refine s_iinc (y := 4) (lv' := [(2, .int 4), (0, .ref 191), (1, .int 17)]) rfl rfl (by decide) (by decide) rfl ?_
  refine q_goto rfl ?_
  refine q_iload_n rfl rfl ?_
  refine q_iload_n rfl rfl ?_
  refine q_icmp_ge rfl (fun c => absurd c (by decide)) (fun _ => ?_)
  refine q_aload_n rfl rfl ?_
  refine s_get (v := .ref 193) rfl o12 rfl rfl ?_
  refine q_aload_n rfl rfl ?_
  refine s_get (v := .int 4) rfl o12 rfl rfl ?_
  refine q_aload_n rfl rfl ?_
  refine s_get (v := .ref 192) rfl o12 rfl rfl ?_
  refine q_iload_n rfl rfl ?_
  have e192_12 := (f12.ne rfl (f11.ne rfl e192_10))
  refine s_iaload (j := 4) (v := .int 0) rfl e192_12 (by decide) rfl (by first | rfl | decide) ?_
  have e193_12 := (f12.ne rfl o11)
  refine s_iastore (j := 4) rfl e193_12 (by decide) rfl (fun h13 o13 f13 => ?_)
  have s13 := s12.put f13
  refine q_aload_n rfl rfl ?_
  refine q_dup rfl rfl ?_
  have e191_13 := (o12.ne f13 rfl)
  refine s_get (v := .int 4) rfl e191_13 rfl rfl ?_
  refine q_iconst rfl ?_
  refine s_iadd (k := 5) rfl (by decide) ?_
  refine s_put (vs' := [.int 0, .ref 192, .ref 193, .int 5, .ref 194, .ref 195, .ref 196, .ref 197, .ref 198, .ref 199, .ref 200, .ref 201, .ref 202, .ref 203, .ref 204, .ref 205, .int (-1), .int 0, .ref 206, .ref 207, .ref 208, .ref 209, .ref 210, .ref 211, .ref 212, .ref 213, .ref 214, .ref 215, .int 0, .int 0, .int 0, .int 0, .ref 216, .ref 217, .ref 218, .ref 219, .ref 220, .int (-1), .int 0, .int 0, .int 0, .int 0, .int 0, .int 0, .ref 221, .ref 222, .ref 223, .ref 224, .int 0, .ref 225, .int 0, .ref 226, .ref 227, .int 0, .ref 228, .ref 229, .ref 230, .ref 231, .ref 232]) rfl e191_13 rfl rfl rfl rfl (fun h14 o14 f14 => ?_)
  have s14 := s13.put f14
  refine s_iinc (y := 5) (lv' := [(2, .int 5), (0, .ref 191), (1, .int 17)]) rfl rfl (by decide) (by decide) rfl ?_
  refine q_goto rfl ?_
  refine q_iload_n rfl rfl ?_
  refine q_iload_n rfl rfl ?_
  refine q_icmp_ge rfl (fun c => absurd c (by decide)) (fun _ => ?_)
  refine q_aload_n rfl rfl ?_
  refine s_get (v := .ref 193) rfl o14 rfl rfl ?_
  refine q_aload_n rfl rfl ?_
  refine s_get (v := .int 5) rfl o14 rfl rfl ?_
  refine q_aload_n rfl rfl ?_
  refine s_get (v := .ref 192) rfl o14 rfl rfl ?_
  refine q_iload_n rfl rfl ?_
  have e192_14 := (f14.ne rfl (f13.ne rfl e192_12))
  refine s_iaload (j := 5) (v := .int 0) rfl e192_14 (by decide) rfl (by first | rfl | decide) ?_
  have e193_14 := (f14.ne rfl o13)
  refine s_iastore (j := 5) rfl e193_14 (by decide) rfl (fun h15 o15 f15 => ?_)
  have s15 := s14.put f15
  refine q_aload_n rfl rfl ?_
  refine q_dup rfl rfl ?_
  have e191_15 := (o14.ne f15 rfl)
  refine s_get (v := .int 5) rfl e191_15 rfl rfl ?_
  refine q_iconst rfl ?_
  refine s_iadd (k := 6) rfl (by decide) ?_
  refine s_put (vs' := [.int 0, .ref 192, .ref 193, .int 6, .ref 194, .ref 195, .ref 196, .ref 197, .ref 198, .ref 199, .ref 200, .ref 201, .ref 202, .ref 203, .ref 204, .ref 205, .int (-1), .int 0, .ref 206, .ref 207, .ref 208, .ref 209, .ref 210, .ref 211, .ref 212, .ref 213, .ref 214, .ref 215, .int 0, .int 0, .int 0, .int 0, .ref 216, .ref 217, .ref 218, .ref 219, .ref 220, .int (-1), .int 0, .int 0, .int 0, .int 0, .int 0, .int 0, .ref 221, .ref 222, .ref 223, .ref 224, .int 0, .ref 225, .int 0, .ref 226, .ref 227, .int 0, .ref 228, .ref 229, .ref 230, .ref 231, .ref 232]) rfl e191_15 rfl rfl rfl rfl (fun h16 o16 f16 => ?_)
  have s16 := s15.put f16
  refine s_iinc (y := 6) (lv' := [(2, .int 6), (0, .ref 191), (1, .int 17)]) rfl rfl (by decide) (by decide) rfl ?_
  refine q_goto rfl ?_
  refine q_iload_n rfl rfl ?_
  refine q_iload_n rfl rfl ?_
  refine q_icmp_ge rfl (fun c => absurd c (by decide)) (fun _ => ?_)
  refine q_aload_n rfl rfl ?_
  refine s_get (v := .ref 193) rfl o16 rfl rfl ?_
  refine q_aload_n rfl rfl ?_
  refine s_get (v := .int 6) rfl o16 rfl rfl ?_
  refine q_aload_n rfl rfl ?_
  refine s_get (v := .ref 192) rfl o16 rfl rfl ?_
  refine q_iload_n rfl rfl ?_
  have e192_16 := (f16.ne rfl (f15.ne rfl e192_14))
  refine s_iaload (j := 6) (v := .int 0) rfl e192_16 (by decide) rfl (by first | rfl | decide) ?_
  have e193_16 := (f16.ne rfl o15)
  refine s_iastore (j := 6) rfl e193_16 (by decide) rfl (fun h17 o17 f17 => ?_)
  have s17 := s16.put f17
  refine q_aload_n rfl rfl ?_
  refine q_dup rfl rfl ?_
  have e191_17 := (o16.ne f17 rfl)
  refine s_get (v := .int 6) rfl e191_17 rfl rfl ?_
  refine q_iconst rfl ?_
  refine s_iadd (k := 7) rfl (by decide) ?_
  refine s_put (vs' := [.int 0, .ref 192, .ref 193, .int 7, .ref 194, .ref 195, .ref 196, .ref 197, .ref 198, .ref 199, .ref 200, .ref 201, .ref 202, .ref 203, .ref 204, .ref 205, .int (-1), .int 0, .ref 206, .ref 207, .ref 208, .ref 209, .ref 210, .ref 211, .ref 212, .ref 213, .ref 214, .ref 215, .int 0, .int 0, .int 0, .int 0, .ref 216, .ref 217, .ref 218, .ref 219, .ref 220, .int (-1), .int 0, .int 0, .int 0, .int 0, .int 0, .int 0, .ref 221, .ref 222, .ref 223, .ref 224, .int 0, .ref 225, .int 0, .ref 226, .ref 227, .int 0, .ref 228, .ref 229, .ref 230, .ref 231, .ref 232]) rfl e191_17 rfl rfl rfl rfl (fun h18 o18 f18 => ?_)
  have s18 := s17.put f18
  refine s_iinc (y := 7) (lv' := [(2, .int 7), (0, .ref 191), (1, .int 17)]) rfl rfl (by decide) (by decide) rfl ?_
  refine q_goto rfl ?_
  refine q_iload_n rfl rfl ?_
  refine q_iload_n rfl rfl ?_
  refine q_icmp_ge rfl (fun c => absurd c (by decide)) (fun _ => ?_)
  refine q_aload_n rfl rfl ?_
  refine s_get (v := .ref 193) rfl o18 rfl rfl ?_
  refine q_aload_n rfl rfl ?_
  refine s_get (v := .int 7) rfl o18 rfl rfl ?_
  refine q_aload_n rfl rfl ?_
  refine s_get (v := .ref 192) rfl o18 rfl rfl ?_
  refine q_iload_n rfl rfl ?_
  have e192_18 := (f18.ne rfl (f17.ne rfl e192_16))
  refine s_iaload (j := 7) (v := .int 0) rfl e192_18 (by decide) rfl (by first | rfl | decide) ?_
  have e193_18 := (f18.ne rfl o17)
  refine s_iastore (j := 7) rfl e193_18 (by decide) rfl (fun h19 o19 f19 => ?_)
  have s19 := s18.put f19
  refine q_aload_n rfl rfl ?_
  refine q_dup rfl rfl ?_
  have e191_19 := (o18.ne f19 rfl)
  refine s_get (v := .int 7) rfl e191_19 rfl rfl ?_
  refine q_iconst rfl ?_
  refine s_iadd (k := 8) rfl (by decide) ?_
  refine s_put (vs' := [.int 0, .ref 192, .ref 193, .int 8, .ref 194, .ref 195, .ref 196, .ref 197, .ref 198, .ref 199, .ref 200, .ref 201, .ref 202, .ref 203, .ref 204, .ref 205, .int (-1), .int 0, .ref 206, .ref 207, .ref 208, .ref 209, .ref 210, .ref 211, .ref 212, .ref 213, .ref 214, .ref 215, .int 0, .int 0, .int 0, .int 0, .ref 216, .ref 217, .ref 218, .ref 219, .ref 220, .int (-1), .int 0, .int 0, .int 0, .int 0, .int 0, .int 0, .ref 221, .ref 222, .ref 223, .ref 224, .int 0, .ref 225, .int 0, .ref 226, .ref 227, .int 0, .ref 228, .ref 229, .ref 230, .ref 231, .ref 232]) rfl e191_19 rfl rfl rfl rfl (fun h20 o20 f20 => ?_)
  have s20 := s19.put f20
  refine s_iinc (y := 8) (lv' := [(2, .int 8), (0, .ref 191), (1, .int 17)]) rfl rfl (by decide) (by decide) rfl ?_
  refine q_goto rfl ?_
  refine q_iload_n rfl rfl ?_
  refine q_iload_n rfl rfl ?_
  refine q_icmp_ge rfl (fun c => absurd c (by decide)) (fun _ => ?_)
  refine q_aload_n rfl rfl ?_
  refine s_get (v := .ref 193) rfl o20 rfl rfl ?_
  refine q_aload_n rfl rfl ?_
  refine s_get (v := .int 8) rfl o20 rfl rfl ?_
  refine q_aload_n rfl rfl ?_
  refine s_get (v := .ref 192) rfl o20 rfl rfl ?_
  refine q_iload_n rfl rfl ?_
  have e192_20 := (f20.ne rfl (f19.ne rfl e192_18))
  refine s_iaload (j := 8) (v := .int 0) rfl e192_20 (by decide) rfl (by first | rfl | decide) ?_
  have e193_20 := (f20.ne rfl o19)
  refine s_iastore (j := 8) rfl e193_20 (by decide) rfl (fun h21 o21 f21 => ?_)
  have s21 := s20.put f21
  refine q_aload_n rfl rfl ?_
  refine q_dup rfl rfl ?_
  have e191_21 := (o20.ne f21 rfl)
  refine s_get (v := .int 8) rfl e191_21 rfl rfl ?_
  refine q_iconst rfl ?_
  refine s_iadd (k := 9) rfl (by decide) ?_
  refine s_put (vs' := [.int 0, .ref 192, .ref 193, .int 9, .ref 194, .ref 195, .ref 196, .ref 197, .ref 198, .ref 199, .ref 200, .ref 201, .ref 202, .ref 203, .ref 204, .ref 205, .int (-1), .int 0, .ref 206, .ref 207, .ref 208, .ref 209, .ref 210, .ref 211, .ref 212, .ref 213, .ref 214, .ref 215, .int 0, .int 0, .int 0, .int 0, .ref 216, .ref 217, .ref 218, .ref 219, .ref 220, .int (-1), .int 0, .int 0, .int 0, .int 0, .int 0, .int 0, .ref 221, .ref 222, .ref 223, .ref 224, .int 0, .ref 225, .int 0, .ref 226, .ref 227, .int 0, .ref 228, .ref 229, .ref 230, .ref 231, .ref 232]) rfl e191_21 rfl rfl rfl rfl (fun h22 o22 f22 => ?_)
  have s22 := s21.put f22
  refine s_iinc (y := 9) (lv' := [(2, .int 9), (0, .ref 191), (1, .int 17)]) rfl rfl (by decide) (by decide) rfl ?_
  refine q_goto rfl ?_
  refine q_iload_n rfl rfl ?_
  refine q_iload_n rfl rfl ?_
  refine q_icmp_ge rfl (fun c => absurd c (by decide)) (fun _ => ?_)
  refine q_aload_n rfl rfl ?_
  refine s_get (v := .ref 193) rfl o22 rfl rfl ?_
  refine q_aload_n rfl rfl ?_
  refine s_get (v := .int 9) rfl o22 rfl rfl ?_
  refine q_aload_n rfl rfl ?_
  refine s_get (v := .ref 192) rfl o22 rfl rfl ?_
  refine q_iload_n rfl rfl ?_
  have e192_22 := (f22.ne rfl (f21.ne rfl e192_20))
  refine s_iaload (j := 9) (v := .int 0) rfl e192_22 (by decide) rfl (by first | rfl | decide) ?_
  have e193_22 := (f22.ne rfl o21)
  refine s_iastore (j := 9) rfl e193_22 (by decide) rfl (fun h23 o23 f23 => ?_)
  have s23 := s22.put f23
  refine q_aload_n rfl rfl ?_
  refine q_dup rfl rfl ?_
  have e191_23 := (o22.ne f23 rfl)
  refine s_get (v := .int 9) rfl e191_23 rfl rfl ?_
  refine q_iconst rfl ?_
  refine s_iadd (k := 10) rfl (by decide) ?_
  refine s_put (vs' := [.int 0, .ref 192, .ref 193, .int 10, .ref 194, .ref 195, .ref 196, .ref 197, .ref 198, .ref 199, .ref 200, .ref 201, .ref 202, .ref 203, .ref 204, .ref 205, .int (-1), .int 0, .ref 206, .ref 207, .ref 208, .ref 209, .ref 210, .ref 211, .ref 212, .ref 213, .ref 214, .ref 215, .int 0, .int 0, .int 0, .int 0, .ref 216, .ref 217, .ref 218, .ref 219, .ref 220, .int (-1), .int 0, .int 0, .int 0, .int 0, .int 0, .int 0, .ref 221, .ref 222, .ref 223, .ref 224, .int 0, .ref 225, .int 0, .ref 226, .ref 227, .int 0, .ref 228, .ref 229, .ref 230, .ref 231, .ref 232]) rfl e191_23 rfl rfl rfl rfl (fun h24 o24 f24 => ?_)
  have s24 := s23.put f24
  refine s_iinc (y := 10) (lv' := [(2, .int 10), (0, .ref 191), (1, .int 17)]) rfl rfl (by decide) (by decide) rfl ?_
  refine q_goto rfl ?_
  refine q_iload_n rfl rfl ?_
  refine q_iload_n rfl rfl ?_
  refine q_icmp_ge rfl (fun c => absurd c (by decide)) (fun _ => ?_)
  refine q_aload_n rfl rfl ?_
  refine s_get (v := .ref 193) rfl o24 rfl rfl ?_
  refine q_aload_n rfl rfl ?_
  refine s_get (v := .int 10) rfl o24 rfl rfl ?_
  refine q_aload_n rfl rfl ?_
  refine s_get (v := .ref 192) rfl o24 rfl rfl ?_
  refine q_iload_n rfl rfl ?_
  have e192_24 := (f24.ne rfl (f23.ne rfl e192_22))
  refine s_iaload (j := 10) (v := .int 0) rfl e192_24 (by decide) rfl (by first | rfl | decide) ?_
  have e193_24 := (f24.ne rfl o23)
  refine s_iastore (j := 10) rfl e193_24 (by decide) rfl (fun h25 o25 f25 => ?_)
  have s25 := s24.put f25
  refine q_aload_n rfl rfl ?_
  refine q_dup rfl rfl ?_
  have e191_25 := (o24.ne f25 rfl)
  refine s_get (v := .int 10) rfl e191_25 rfl rfl ?_
  refine q_iconst rfl ?_
  refine s_iadd (k := 11) rfl (by decide) ?_
  refine s_put (vs' := [.int 0, .ref 192, .ref 193, .int 11, .ref 194, .ref 195, .ref 196, .ref 197, .ref 198, .ref 199, .ref 200, .ref 201, .ref 202, .ref 203, .ref 204, .ref 205, .int (-1), .int 0, .ref 206, .ref 207, .ref 208, .ref 209, .ref 210, .ref 211, .ref 212, .ref 213, .ref 214, .ref 215, .int 0, .int 0, .int 0, .int 0, .ref 216, .ref 217, .ref 218, .ref 219, .ref 220, .int (-1), .int 0, .int 0, .int 0, .int 0, .int 0, .int 0, .ref 221, .ref 222, .ref 223, .ref 224, .int 0, .ref 225, .int 0, .ref 226, .ref 227, .int 0, .ref 228, .ref 229, .ref 230, .ref 231, .ref 232]) rfl e191_25 rfl rfl rfl rfl (fun h26 o26 f26 => ?_)
  have s26 := s25.put f26
  refine s_iinc (y := 11) (lv' := [(2, .int 11), (0, .ref 191), (1, .int 17)]) rfl rfl (by decide) (by decide) rfl ?_
  refine q_goto rfl ?_
  refine q_iload_n rfl rfl ?_
  refine q_iload_n rfl rfl ?_
  refine q_icmp_ge rfl (fun c => absurd c (by decide)) (fun _ => ?_)
  refine q_aload_n rfl rfl ?_
  refine s_get (v := .ref 193) rfl o26 rfl rfl ?_
  refine q_aload_n rfl rfl ?_
  refine s_get (v := .int 11) rfl o26 rfl rfl ?_
  refine q_aload_n rfl rfl ?_
  refine s_get (v := .ref 192) rfl o26 rfl rfl ?_
  refine q_iload_n rfl rfl ?_
  have e192_26 := (f26.ne rfl (f25.ne rfl e192_24))
  refine s_iaload (j := 11) (v := .int 0) rfl e192_26 (by decide) rfl (by first | rfl | decide) ?_
  have e193_26 := (f26.ne rfl o25)
  refine s_iastore (j := 11) rfl e193_26 (by decide) rfl (fun h27 o27 f27 => ?_)
  have s27 := s26.put f27
  refine q_aload_n rfl rfl ?_
  refine q_dup rfl rfl ?_
  have e191_27 := (o26.ne f27 rfl)
  refine s_get (v := .int 11) rfl e191_27 rfl rfl ?_
  refine q_iconst rfl ?_
  refine s_iadd (k := 12) rfl (by decide) ?_
  refine s_put (vs' := [.int 0, .ref 192, .ref 193, .int 12, .ref 194, .ref 195, .ref 196, .ref 197, .ref 198, .ref 199, .ref 200, .ref 201, .ref 202, .ref 203, .ref 204, .ref 205, .int (-1), .int 0, .ref 206, .ref 207, .ref 208, .ref 209, .ref 210, .ref 211, .ref 212, .ref 213, .ref 214, .ref 215, .int 0, .int 0, .int 0, .int 0, .ref 216, .ref 217, .ref 218, .ref 219, .ref 220, .int (-1), .int 0, .int 0, .int 0, .int 0, .int 0, .int 0, .ref 221, .ref 222, .ref 223, .ref 224, .int 0, .ref 225, .int 0, .ref 226, .ref 227, .int 0, .ref 228, .ref 229, .ref 230, .ref 231, .ref 232]) rfl e191_27 rfl rfl rfl rfl (fun h28 o28 f28 => ?_)
  have s28 := s27.put f28
  refine s_iinc (y := 12) (lv' := [(2, .int 12), (0, .ref 191), (1, .int 17)]) rfl rfl (by decide) (by decide) rfl ?_
  refine q_goto rfl ?_
  refine q_iload_n rfl rfl ?_
  refine q_iload_n rfl rfl ?_
  refine q_icmp_ge rfl (fun c => absurd c (by decide)) (fun _ => ?_)
  refine q_aload_n rfl rfl ?_
  refine s_get (v := .ref 193) rfl o28 rfl rfl ?_
  refine q_aload_n rfl rfl ?_
  refine s_get (v := .int 12) rfl o28 rfl rfl ?_
  refine q_aload_n rfl rfl ?_
  refine s_get (v := .ref 192) rfl o28 rfl rfl ?_
  refine q_iload_n rfl rfl ?_
  have e192_28 := (f28.ne rfl (f27.ne rfl e192_26))
  refine s_iaload (j := 12) (v := .int 0) rfl e192_28 (by decide) rfl (by first | rfl | decide) ?_
  have e193_28 := (f28.ne rfl o27)
  refine s_iastore (j := 12) rfl e193_28 (by decide) rfl (fun h29 o29 f29 => ?_)
  have s29 := s28.put f29
  refine q_aload_n rfl rfl ?_
  refine q_dup rfl rfl ?_
  have e191_29 := (o28.ne f29 rfl)
  refine s_get (v := .int 12) rfl e191_29 rfl rfl ?_
  refine q_iconst rfl ?_
  refine s_iadd (k := 13) rfl (by decide) ?_
  refine s_put (vs' := [.int 0, .ref 192, .ref 193, .int 13, .ref 194, .ref 195, .ref 196, .ref 197, .ref 198, .ref 199, .ref 200, .ref 201, .ref 202, .ref 203, .ref 204, .ref 205, .int (-1), .int 0, .ref 206, .ref 207, .ref 208, .ref 209, .ref 210, .ref 211, .ref 212, .ref 213, .ref 214, .ref 215, .int 0, .int 0, .int 0, .int 0, .ref 216, .ref 217, .ref 218, .ref 219, .ref 220, .int (-1), .int 0, .int 0, .int 0, .int 0, .int 0, .int 0, .ref 221, .ref 222, .ref 223, .ref 224, .int 0, .ref 225, .int 0, .ref 226, .ref 227, .int 0, .ref 228, .ref 229, .ref 230, .ref 231, .ref 232]) rfl e191_29 rfl rfl rfl rfl (fun h30 o30 f30 => ?_)
  have s30 := s29.put f30
  refine s_iinc (y := 13) (lv' := [(2, .int 13), (0, .ref 191), (1, .int 17)]) rfl rfl (by decide) (by decide) rfl ?_
  refine q_goto rfl ?_
  refine q_iload_n rfl rfl ?_
  refine q_iload_n rfl rfl ?_
  refine q_icmp_ge rfl (fun c => absurd c (by decide)) (fun _ => ?_)
  refine q_aload_n rfl rfl ?_
  refine s_get (v := .ref 193) rfl o30 rfl rfl ?_
  refine q_aload_n rfl rfl ?_
  refine s_get (v := .int 13) rfl o30 rfl rfl ?_
  refine q_aload_n rfl rfl ?_
  refine s_get (v := .ref 192) rfl o30 rfl rfl ?_
  refine q_iload_n rfl rfl ?_
  have e192_30 := (f30.ne rfl (f29.ne rfl e192_28))
  refine s_iaload (j := 13) (v := .int 0) rfl e192_30 (by decide) rfl (by first | rfl | decide) ?_
  have e193_30 := (f30.ne rfl o29)
  refine s_iastore (j := 13) rfl e193_30 (by decide) rfl (fun h31 o31 f31 => ?_)
  have s31 := s30.put f31
  refine q_aload_n rfl rfl ?_
  refine q_dup rfl rfl ?_
  have e191_31 := (o30.ne f31 rfl)
  refine s_get (v := .int 13) rfl e191_31 rfl rfl ?_
  refine q_iconst rfl ?_
  refine s_iadd (k := 14) rfl (by decide) ?_
  refine s_put (vs' := [.int 0, .ref 192, .ref 193, .int 14, .ref 194, .ref 195, .ref 196, .ref 197, .ref 198, .ref 199, .ref 200, .ref 201, .ref 202, .ref 203, .ref 204, .ref 205, .int (-1), .int 0, .ref 206, .ref 207, .ref 208, .ref 209, .ref 210, .ref 211, .ref 212, .ref 213, .ref 214, .ref 215, .int 0, .int 0, .int 0, .int 0, .ref 216, .ref 217, .ref 218, .ref 219, .ref 220, .int (-1), .int 0, .int 0, .int 0, .int 0, .int 0, .int 0, .ref 221, .ref 222, .ref 223, .ref 224, .int 0, .ref 225, .int 0, .ref 226, .ref 227, .int 0, .ref 228, .ref 229, .ref 230, .ref 231, .ref 232]) rfl e191_31 rfl rfl rfl rfl (fun h32 o32 f32 => ?_)
  have s32 := s31.put f32
  refine s_iinc (y := 14) (lv' := [(2, .int 14), (0, .ref 191), (1, .int 17)]) rfl rfl (by decide) (by decide) rfl ?_
  refine q_goto rfl ?_
  refine q_iload_n rfl rfl ?_
  refine q_iload_n rfl rfl ?_
  refine q_icmp_ge rfl (fun c => absurd c (by decide)) (fun _ => ?_)
  refine q_aload_n rfl rfl ?_
  refine s_get (v := .ref 193) rfl o32 rfl rfl ?_
  refine q_aload_n rfl rfl ?_
  refine s_get (v := .int 14) rfl o32 rfl rfl ?_
  refine q_aload_n rfl rfl ?_
  refine s_get (v := .ref 192) rfl o32 rfl rfl ?_
  refine q_iload_n rfl rfl ?_
  have e192_32 := (f32.ne rfl (f31.ne rfl e192_30))
  refine s_iaload (j := 14) (v := .int 0) rfl e192_32 (by decide) rfl (by first | rfl | decide) ?_
  have e193_32 := (f32.ne rfl o31)
  refine s_iastore (j := 14) rfl e193_32 (by decide) rfl (fun h33 o33 f33 => ?_)
  have s33 := s32.put f33
  refine q_aload_n rfl rfl ?_
  refine q_dup rfl rfl ?_
  have e191_33 := (o32.ne f33 rfl)
  refine s_get (v := .int 14) rfl e191_33 rfl rfl ?_
  refine q_iconst rfl ?_
  refine s_iadd (k := 15) rfl (by decide) ?_
  refine s_put (vs' := [.int 0, .ref 192, .ref 193, .int 15, .ref 194, .ref 195, .ref 196, .ref 197, .ref 198, .ref 199, .ref 200, .ref 201, .ref 202, .ref 203, .ref 204, .ref 205, .int (-1), .int 0, .ref 206, .ref 207, .ref 208, .ref 209, .ref 210, .ref 211, .ref 212, .ref 213, .ref 214, .ref 215, .int 0, .int 0, .int 0, .int 0, .ref 216, .ref 217, .ref 218, .ref 219, .ref 220, .int (-1), .int 0, .int 0, .int 0, .int 0, .int 0, .int 0, .ref 221, .ref 222, .ref 223, .ref 224, .int 0, .ref 225, .int 0, .ref 226, .ref 227, .int 0, .ref 228, .ref 229, .ref 230, .ref 231, .ref 232]) rfl e191_33 rfl rfl rfl rfl (fun h34 o34 f34 => ?_)
  have s34 := s33.put f34
  refine s_iinc (y := 15) (lv' := [(2, .int 15), (0, .ref 191), (1, .int 17)]) rfl rfl (by decide) (by decide) rfl ?_
  refine q_goto rfl ?_
  refine q_iload_n rfl rfl ?_
  refine q_iload_n rfl rfl ?_
  refine q_icmp_ge rfl (fun c => absurd c (by decide)) (fun _ => ?_)
  refine q_aload_n rfl rfl ?_
  refine s_get (v := .ref 193) rfl o34 rfl rfl ?_
  refine q_aload_n rfl rfl ?_
  refine s_get (v := .int 15) rfl o34 rfl rfl ?_
  refine q_aload_n rfl rfl ?_
  refine s_get (v := .ref 192) rfl o34 rfl rfl ?_
  refine q_iload_n rfl rfl ?_
  have e192_34 := (f34.ne rfl (f33.ne rfl e192_32))
  refine s_iaload (j := 15) (v := .int 0) rfl e192_34 (by decide) rfl (by first | rfl | decide) ?_
  have e193_34 := (f34.ne rfl o33)
  refine s_iastore (j := 15) rfl e193_34 (by decide) rfl (fun h35 o35 f35 => ?_)
  have s35 := s34.put f35
  refine q_aload_n rfl rfl ?_
  refine q_dup rfl rfl ?_
  have e191_35 := (o34.ne f35 rfl)
  refine s_get (v := .int 15) rfl e191_35 rfl rfl ?_
  refine q_iconst rfl ?_
  refine s_iadd (k := 16) rfl (by decide) ?_
  refine s_put (vs' := [.int 0, .ref 192, .ref 193, .int 16, .ref 194, .ref 195, .ref 196, .ref 197, .ref 198, .ref 199, .ref 200, .ref 201, .ref 202, .ref 203, .ref 204, .ref 205, .int (-1), .int 0, .ref 206, .ref 207, .ref 208, .ref 209, .ref 210, .ref 211, .ref 212, .ref 213, .ref 214, .ref 215, .int 0, .int 0, .int 0, .int 0, .ref 216, .ref 217, .ref 218, .ref 219, .ref 220, .int (-1), .int 0, .int 0, .int 0, .int 0, .int 0, .int 0, .ref 221, .ref 222, .ref 223, .ref 224, .int 0, .ref 225, .int 0, .ref 226, .ref 227, .int 0, .ref 228, .ref 229, .ref 230, .ref 231, .ref 232]) rfl e191_35 rfl rfl rfl rfl (fun h36 o36 f36 => ?_)
  have s36 := s35.put f36
  refine s_iinc (y := 16) (lv' := [(2, .int 16), (0, .ref 191), (1, .int 17)]) rfl rfl (by decide) (by decide) rfl ?_
  refine q_goto rfl ?_
  refine q_iload_n rfl rfl ?_
  refine q_iload_n rfl rfl ?_
  refine q_icmp_ge rfl (fun c => absurd c (by decide)) (fun _ => ?_)
  refine q_aload_n rfl rfl ?_
  refine s_get (v := .ref 193) rfl o36 rfl rfl ?_
  refine q_aload_n rfl rfl ?_
  refine s_get (v := .int 16) rfl o36 rfl rfl ?_
  refine q_aload_n rfl rfl ?_
  refine s_get (v := .ref 192) rfl o36 rfl rfl ?_
  refine q_iload_n rfl rfl ?_
  have e192_36 := (f36.ne rfl (f35.ne rfl e192_34))
  refine s_iaload (j := 16) (v := .int 0) rfl e192_36 (by decide) rfl (by first | rfl | decide) ?_
  have e193_36 := (f36.ne rfl o35)
  refine s_iastore (j := 16) rfl e193_36 (by decide) rfl (fun h37 o37 f37 => ?_)
  have s37 := s36.put f37
  refine q_aload_n rfl rfl ?_
  refine q_dup rfl rfl ?_
  have e191_37 := (o36.ne f37 rfl)
  refine s_get (v := .int 16) rfl e191_37 rfl rfl ?_
  refine q_iconst rfl ?_
  refine s_iadd (k := 17) rfl (by decide) ?_
  refine s_put (vs' := [.int 0, .ref 192, .ref 193, .int 17, .ref 194, .ref 195, .ref 196, .ref 197, .ref 198, .ref 199, .ref 200, .ref 201, .ref 202, .ref 203, .ref 204, .ref 205, .int (-1), .int 0, .ref 206, .ref 207, .ref 208, .ref 209, .ref 210, .ref 211, .ref 212, .ref 213, .ref 214, .ref 215, .int 0, .int 0, .int 0, .int 0, .ref 216, .ref 217, .ref 218, .ref 219, .ref 220, .int (-1), .int 0, .int 0, .int 0, .int 0, .int 0, .int 0, .ref 221, .ref 222, .ref 223, .ref 224, .int 0, .ref 225, .int 0, .ref 226, .ref 227, .int 0, .ref 228, .ref 229, .ref 230, .ref 231, .ref 232]) rfl e191_37 rfl rfl rfl rfl (fun h38 o38 f38 => ?_)
  have s38 := s37.put f38
  refine s_iinc (y := 17) (lv' := [(2, .int 17), (0, .ref 191), (1, .int 17)]) rfl rfl (by decide) (by decide) rfl ?_
  refine q_goto rfl ?_
  refine q_iload_n rfl rfl ?_
  refine q_iload_n rfl rfl ?_
  refine q_icmp_ge rfl (fun _ => ?_) (fun c => absurd (by decide) c)
  refine q_iconst rfl ?_
  refine s_istore_n (lv' := [(2, .int 0), (0, .ref 191), (1, .int 17)]) rfl (by decide) rfl ?_
  have e192_38 := (f38.ne rfl (f37.ne rfl e192_36))
  refine en_loop (m := 191) (a := 192) rfl rfl (by decide) (by decide) 20 0 h38 _ rfl o38 e192_38 (fun h39 f39 => ?_)
  have s39 := s38.put f39
  show aW aiP 217 16 636 88 [(2, .int 20), (0, .ref 191), (1, .int 17)] [] h39 _
  refine q_aload_n rfl rfl ?_
  have e191_39 := (o38.ne f39 rfl)
  refine s_get (v := .int 17) rfl e191_39 rfl rfl ?_
  refine q_ireturn rfl rfl ?_
  show aW aiP 0 17 658 243 [(4, .int 0), (3, .ref 233), (2, .ref 191), (1, .ref 6), (0, .ref 0)] [.int 17, .int 17] h39 _
  refine q_icmp_eq rfl (fun _ => ?_) (fun c => absurd (by decide) c)
  refine s_iinc (y := 6) (lv' := [(4, .int 6), (3, .ref 233), (2, .ref 191), (1, .ref 6), (0, .ref 0)]) rfl rfl (by decide) (by decide) rfl ?_
  refine q_goto rfl ?_
  refine q_iload rfl rfl ?_
  refine q_aload_n rfl rfl ?_
  have e0_39 := (f39.ne rfl (f38.ne rfl (f37.ne rfl (f36.ne rfl (f35.ne rfl (f34.ne rfl (f33.ne rfl (f32.ne rfl (f31.ne rfl (f30.ne rfl (f29.ne rfl (f28.ne rfl (f27.ne rfl (f26.ne rfl (f25.ne rfl (f24.ne rfl (f23.ne rfl (f22.ne rfl (f21.ne rfl (f20.ne rfl (f19.ne rfl (f18.ne rfl (f17.ne rfl (f16.ne rfl (f15.ne rfl (f14.ne rfl (f13.ne rfl (f12.ne rfl (f11.ne rfl (f10.ne rfl (f9.ne rfl (f8.ne rfl (f7.ne rfl (f6.ne rfl (f5.ne rfl (f4.ne rfl e0_3))))))))))))))))))))))))))))))))))))
  refine s_alen (x := 6) rfl e0_39 rfl (by decide) ?_
  refine q_bipush rfl ?_
  refine s_isub (k := 0) rfl (by decide) ?_
  refine q_icmp_gt rfl (fun _ => ?_) (fun c => absurd (by decide) c)
  refine q_iconst rfl ?_
  refine q_ireturn rfl rfl ?_
  exact ⟨rfl, s39.bd rfl⟩
set_option maxRecDepth 20000 in
set_option maxHeartbeats 4000000 in
theorem p_case1_18 {xs : Nat → Int32} {h : ai_H} (F : Fresh 6 xs h) (hk : xs 0 &&& 31 = 1) (hw : xs 1 = 18) : aW aiP 0 17 658 33 [(4, .int 0), (3, .ref 233), (2, .ref 191), (1, .ref 6), (0, .ref 0)] [] h p_Q := by
  have s0 := F.2.2.2.2.2.2.2.2.2.2.2.2.2.2.2.2.2.2.2.2.2.2.2.2.2.2.2.2.2.2.2.2.2.2.2.2.2.2.2.2.2.2.2.2.2.2.2.2.2.2.2.2.2.2.2.2.2.2.2.2.2.2.2.2.2.2.2.2.2.2
  refine q_aload_n rfl rfl ?_
  refine q_iload rfl rfl ?_
  have e0 := F.1
  refine s_iaload (j := 0) (v := .int (xs 0)) rfl e0 (by decide) rfl (by first | rfl | decide) ?_
  refine q_bipush rfl ?_
  refine s_iand (k := ((xs 0) &&& (31 : Int32))) rfl rfl ?_
  rw [hk]
  show aW aiP 0 17 658 40 [(4, .int 0), (3, .ref 233), (2, .ref 191), (1, .ref 6), (0, .ref 0)] [.int 1] h _
  refine s_sw (tg := 223) rfl rfl ?_
  refine q_aload_n rfl rfl ?_
  refine q_aload_n rfl rfl ?_
  refine q_iload rfl rfl ?_
  refine q_iconst rfl ?_
  refine s_iadd (k := 1) rfl (by decide) ?_
  refine s_iaload (j := 1) (v := .int (xs 1)) rfl e0 (by decide) rfl (by first | rfl | decide) ?_
  rw [hw]
  have e6 := F.2.2.2.2.2.2.1
  refine s_callV (as := [.int 18]) (rest := []) (d' := 16) (w' := 637) (lv' := [(0, .ref 6), (1, .int 18)]) rfl e6 rfl rfl rfl rfl rfl rfl ?_
  refine q_iload_n rfl rfl ?_
  refine q_if_lt rfl (fun c => absurd c (by decide)) (fun _ => ?_)
  refine q_iload_n rfl rfl ?_
  refine q_bipush rfl ?_
  refine q_icmp_gt rfl (fun c => absurd c (by decide)) (fun _ => ?_)
  refine q_aload_n rfl rfl ?_
  refine s_get (v := .int 0) rfl e6 rfl rfl ?_
  refine q_iload_n rfl rfl ?_
  refine s_iadd (k := 18) rfl (by decide) ?_
  refine q_sipush rfl ?_
  refine q_icmp_le rfl (fun _ => ?_) (fun c => absurd (by decide) c)
  refine q_aload_n rfl rfl ?_
  refine s_get (v := .ref 7) rfl e6 rfl rfl ?_
  refine q_iconst rfl ?_
  refine q_aload_n rfl rfl ?_
  refine s_get (v := .ref 8) rfl e6 rfl rfl ?_
  refine q_aload_n rfl rfl ?_
  refine s_get (v := .int 0) rfl e6 rfl rfl ?_
  refine q_iload_n rfl rfl ?_
  have e7 := F.2.2.2.2.2.2.2.1
  have e8 := F.2.2.2.2.2.2.2.2.1
  refine s_copy (sp := 0) (dp := 0) (k := 18) rfl e7 e8 (by decide) (by decide) (by decide) rfl (by decide) (by decide) (by decide) (fun i _ => rfl) (fun h1 o1 f1 => ?_)
  have s1 := s0.put f1
  refine q_aload_n rfl rfl ?_
  refine q_dup rfl rfl ?_
  have e6_1 := (e6.ne f1 rfl)
  refine s_get (v := .int 0) rfl e6_1 rfl rfl ?_
  refine q_iload_n rfl rfl ?_
  refine s_iadd (k := 18) rfl (by decide) ?_
  refine s_put (vs' := [.ref 7, .ref 8, .int 18, .ref 9, .int (-1), .ref 51, .ref 93, .ref 135, .ref 177, .ref 180, .int 0, .ref 183, .ref 186, .ref 189]) rfl e6_1 rfl rfl rfl rfl (fun h2 o2 f2 => ?_)
  have s2 := s1.put f2
  refine q_aload_n rfl rfl ?_
  refine s_get (v := .ref 7) rfl o2 rfl rfl ?_
  refine q_iconst rfl ?_
  refine s_callS (as := [.ref 7, .int 0]) (rest := []) (d' := 15) (w' := 614) (lv' := [(0, .ref 7), (1, .int 0)]) rfl rfl rfl rfl rfl rfl rfl rfl ?_
  refine q_iconst rfl ?_
  refine s_istore_n (lv' := [(2, .int 0), (0, .ref 7), (1, .int 0)]) rfl (by decide) rfl ?_
  refine q_aload_n rfl rfl ?_
  have e7_2 := (f2.ne rfl (f1.ne rfl e7))
  refine s_alen (x := 20) rfl e7_2 rfl (by decide) ?_
  refine s_istore_n (lv' := [(3, .int 20), (2, .int 0), (0, .ref 7), (1, .int 0)]) rfl (by decide) rfl ?_
  refine aW_lv (l := [(2, .int (nI 0)), (3, .int 20), (0, .ref 7), (1, .int 0)]) ?_ rfl rfl (by repeat' (first | exact inL_n | refine inL_c rfl ?_))
  refine fi_loop (a := 7) (by decide) 20 0 h2 _ rfl e7_2 (fun h3 f3 => ?_)
  have s3 := s2.put f3
  show aW aiP 15 16 637 59 [(0, .ref 6), (1, .int 18)] [] h3 _
  refine q_aload_n rfl rfl ?_
  have e6_3 := (o2.ne f3 rfl)
  refine s_get (v := .int 18) rfl e6_3 rfl rfl ?_
  refine q_ireturn rfl rfl ?_
  show aW aiP 0 17 658 233 [(4, .int 0), (3, .ref 233), (2, .ref 191), (1, .ref 6), (0, .ref 0)] [.int 18] h3 _
  refine q_aload_n rfl rfl ?_
  refine q_aload_n rfl rfl ?_
  refine q_iload rfl rfl ?_
  refine q_iconst rfl ?_
  refine s_iadd (k := 1) rfl (by decide) ?_
  have e0_3 := (f3.ne rfl (f2.ne rfl (f1.ne rfl e0)))
  refine s_iaload (j := 1) (v := .int (xs 1)) rfl e0_3 (by decide) rfl (by first | rfl | decide) ?_
  rw [hw]
  have e191 := F.2.2.2.2.2.2.2.2.2.2.2.2.2.2.2.2.2.2.2.2.2.2.2.2.2.2.2.1
  have e191_3 := (((e191.ne f1 rfl).ne f2 rfl).ne f3 rfl)
  refine s_callV (as := [.int 18]) (rest := [.int 18]) (d' := 16) (w' := 636) (lv' := [(0, .ref 191), (1, .int 18)]) rfl e191_3 rfl rfl rfl rfl rfl rfl ?_
  refine q_aload_n rfl rfl ?_
  refine q_iconst rfl ?_
  refine s_put (vs' := [.int 0, .ref 192, .ref 193, .int 0, .ref 194, .ref 195, .ref 196, .ref 197, .ref 198, .ref 199, .ref 200, .ref 201, .ref 202, .ref 203, .ref 204, .ref 205, .int (-1), .int 0, .ref 206, .ref 207, .ref 208, .ref 209, .ref 210, .ref 211, .ref 212, .ref 213, .ref 214, .ref 215, .int 0, .int 0, .int 0, .int 0, .ref 216, .ref 217, .ref 218, .ref 219, .ref 220, .int (-1), .int 0, .int 0, .int 0, .int 0, .int 0, .int 0, .ref 221, .ref 222, .ref 223, .ref 224, .int 0, .ref 225, .int 0, .ref 226, .ref 227, .int 0, .ref 228, .ref 229, .ref 230, .ref 231, .ref 232]) rfl e191_3 rfl rfl rfl rfl (fun h4 o4 f4 => ?_)
  have s4 := s3.put f4
  refine q_iload_n rfl rfl ?_
  refine q_if_lt rfl (fun c => absurd c (by decide)) (fun _ => ?_)
  refine q_iload_n rfl rfl ?_
  refine q_bipush rfl ?_
  refine q_icmp_gt rfl (fun c => absurd c (by decide)) (fun _ => ?_)
  refine q_aload_n rfl rfl ?_
  refine s_get (v := .int 0) rfl o4 rfl rfl ?_
  refine q_iload_n rfl rfl ?_
  refine s_iadd (k := 18) rfl (by decide) ?_
  refine q_sipush rfl ?_
  refine q_icmp_le rfl (fun _ => ?_) (fun c => absurd (by decide) c)
  refine q_iconst rfl ?_
  refine s_istore_n (lv' := [(2, .int 0), (0, .ref 191), (1, .int 18)]) rfl (by decide) rfl ?_
  refine q_iload_n rfl rfl ?_
  refine q_iload_n rfl rfl ?_
  refine q_icmp_ge rfl (fun c => absurd c (by decide)) (fun _ => ?_)
  refine q_aload_n rfl rfl ?_
  refine s_get (v := .ref 193) rfl o4 rfl rfl ?_
  refine q_aload_n rfl rfl ?_
  refine s_get (v := .int 0) rfl o4 rfl rfl ?_
  refine q_aload_n rfl rfl ?_
  refine s_get (v := .ref 192) rfl o4 rfl rfl ?_
  refine q_iload_n rfl rfl ?_
  have e192 := F.2.2.2.2.2.2.2.2.2.2.2.2.2.2.2.2.2.2.2.2.2.2.2.2.2.2.2.2.1
  have e192_4 := (f4.ne rfl (f3.ne rfl (f2.ne rfl (f1.ne rfl e192))))
  refine s_iaload (j := 0) (v := .int 0) rfl e192_4 (by decide) rfl (by first | rfl | decide) ?_
  have e193 := F.2.2.2.2.2.2.2.2.2.2.2.2.2.2.2.2.2.2.2.2.2.2.2.2.2.2.2.2.2.1
  have e193_4 := (f4.ne rfl (f3.ne rfl (f2.ne rfl (f1.ne rfl e193))))
  refine s_iastore (j := 0) rfl e193_4 (by decide) rfl (fun h5 o5 f5 => ?_)
  have s5 := s4.put f5
  refine q_aload_n rfl rfl ?_
  refine q_dup rfl rfl ?_
  have e191_5 := (o4.ne f5 rfl)
  refine s_get (v := .int 0) rfl e191_5 rfl rfl ?_
  refine q_iconst rfl ?_
  refine s_iadd (k := 1) rfl (by decide) ?_
  refine s_put (vs' := [.int 0, .ref 192, .ref 193, .int 1, .ref 194, .ref 195, .ref 196, .ref 197, .ref 198, .ref 199, .ref 200, .ref 201, .ref 202, .ref 203, .ref 204, .ref 205, .int (-1), .int 0, .ref 206, .ref 207, .ref 208, .ref 209, .ref 210, .ref 211, .ref 212, .ref 213, .ref 214, .ref 215, .int 0, .int 0, .int 0, .int 0, .ref 216, .ref 217, .ref 218, .ref 219, .ref 220, .int (-1), .int 0, .int 0, .int 0, .int 0, .int 0, .int 0, .ref 221, .ref 222, .ref 223, .ref 224, .int 0, .ref 225, .int 0, .ref 226, .ref 227, .int 0, .ref 228, .ref 229, .ref 230, .ref 231, .ref 232]) rfl e191_5 rfl rfl rfl rfl (fun h6 o6 f6 => ?_)
  have s6 := s5.put f6
  refine s_iinc (y := 1) (lv' := [(2, .int 1), (0, .ref 191), (1, .int 18)]) rfl rfl (by decide) (by decide) rfl ?_
  refine q_goto rfl ?_
  refine q_iload_n rfl rfl ?_
  refine q_iload_n rfl rfl ?_
  refine q_icmp_ge rfl (fun c => absurd c (by decide)) (fun _ => ?_)
  refine q_aload_n rfl rfl ?_
  refine s_get (v := .ref 193) rfl o6 rfl rfl ?_
  refine q_aload_n rfl rfl ?_
  refine s_get (v := .int 1) rfl o6 rfl rfl ?_
  refine q_aload_n rfl rfl ?_
  refine s_get (v := .ref 192) rfl o6 rfl rfl ?_
  refine q_iload_n rfl rfl ?_
  have e192_6 := (f6.ne rfl (f5.ne rfl e192_4))
  refine s_iaload (j := 1) (v := .int 0) rfl e192_6 (by decide) rfl (by first | rfl | decide) ?_
  have e193_6 := (f6.ne rfl o5)
  refine s_iastore (j := 1) rfl e193_6 (by decide) rfl (fun h7 o7 f7 => ?_)
  have s7 := s6.put f7
  refine q_aload_n rfl rfl ?_
  refine q_dup rfl rfl ?_
  have e191_7 := (o6.ne f7 rfl)
  refine s_get (v := .int 1) rfl e191_7 rfl rfl ?_
  refine q_iconst rfl ?_
  refine s_iadd (k := 2) rfl (by decide) ?_
  refine s_put (vs' := [.int 0, .ref 192, .ref 193, .int 2, .ref 194, .ref 195, .ref 196, .ref 197, .ref 198, .ref 199, .ref 200, .ref 201, .ref 202, .ref 203, .ref 204, .ref 205, .int (-1), .int 0, .ref 206, .ref 207, .ref 208, .ref 209, .ref 210, .ref 211, .ref 212, .ref 213, .ref 214, .ref 215, .int 0, .int 0, .int 0, .int 0, .ref 216, .ref 217, .ref 218, .ref 219, .ref 220, .int (-1), .int 0, .int 0, .int 0, .int 0, .int 0, .int 0, .ref 221, .ref 222, .ref 223, .ref 224, .int 0, .ref 225, .int 0, .ref 226, .ref 227, .int 0, .ref 228, .ref 229, .ref 230, .ref 231, .ref 232]) rfl e191_7 rfl rfl rfl rfl (fun h8 o8 f8 => ?_)
  have s8 := s7.put f8
  refine s_iinc (y := 2) (lv' := [(2, .int 2), (0, .ref 191), (1, .int 18)]) rfl rfl (by decide) (by decide) rfl ?_
  refine q_goto rfl ?_
  refine q_iload_n rfl rfl ?_
  refine q_iload_n rfl rfl ?_
  refine q_icmp_ge rfl (fun c => absurd c (by decide)) (fun _ => ?_)
  refine q_aload_n rfl rfl ?_
  refine s_get (v := .ref 193) rfl o8 rfl rfl ?_
  refine q_aload_n rfl rfl ?_
  refine s_get (v := .int 2) rfl o8 rfl rfl ?_
  refine q_aload_n rfl rfl ?_
  refine s_get (v := .ref 192) rfl o8 rfl rfl ?_
  refine q_iload_n rfl rfl ?_
  have e192_8 := (f8.ne rfl (f7.ne rfl e192_6))
  refine s_iaload (j := 2) (v := .int 0) rfl e192_8 (by decide) rfl (by first | rfl | decide) ?_
  have e193_8 := (f8.ne rfl o7)
  refine s_iastore (j := 2) rfl e193_8 (by decide) rfl (fun h9 o9 f9 => ?_)
  have s9 := s8.put f9
  refine q_aload_n rfl rfl ?_
  refine q_dup rfl rfl ?_
  have e191_9 := (o8.ne f9 rfl)
  refine s_get (v := .int 2) rfl e191_9 rfl rfl ?_
  refine q_iconst rfl ?_
  refine s_iadd (k := 3) rfl (by decide) ?_
  refine s_put (vs' := [.int 0, .ref 192, .ref 193, .int 3, .ref 194, .ref 195, .ref 196, .ref 197, .ref 198, .ref 199, .ref 200, .ref 201, .ref 202, .ref 203, .ref 204, .ref 205, .int (-1), .int 0, .ref 206, .ref 207, .ref 208, .ref 209, .ref 210, .ref 211, .ref 212, .ref 213, .ref 214, .ref 215, .int 0, .int 0, .int 0, .int 0, .ref 216, .ref 217, .ref 218, .ref 219, .ref 220, .int (-1), .int 0, .int 0, .int 0, .int 0, .int 0, .int 0, .ref 221, .ref 222, .ref 223, .ref 224, .int 0, .ref 225, .int 0, .ref 226, .ref 227, .int 0, .ref 228, .ref 229, .ref 230, .ref 231, .ref 232]) rfl e191_9 rfl rfl rfl rfl (fun h10 o10 f10 => ?_)
  have s10 := s9.put f10
  refine s_iinc (y := 3) (lv' := [(2, .int 3), (0, .ref 191), (1, .int 18)]) rfl rfl (by decide) (by decide) rfl ?_
  refine q_goto rfl ?_
  refine q_iload_n rfl rfl ?_
  refine q_iload_n rfl rfl ?_
  refine q_icmp_ge rfl (fun c => absurd c (by decide)) (fun _ => ?_)
  refine q_aload_n rfl rfl ?_
  refine s_get (v := .ref 193) rfl o10 rfl rfl ?_
  refine q_aload_n rfl rfl ?_
  refine s_get (v := .int 3) rfl o10 rfl rfl ?_
  refine q_aload_n rfl rfl ?_
  refine s_get (v := .ref 192) rfl o10 rfl rfl ?_
  refine q_iload_n rfl rfl ?_
  have e192_10 := (f10.ne rfl (f9.ne rfl e192_8))
  refine s_iaload (j := 3) (v := .int 0) rfl e192_10 (by decide) rfl (by first | rfl | decide) ?_
  have e193_10 := (f10.ne rfl o9)
  refine s_iastore (j := 3) rfl e193_10 (by decide) rfl (fun h11 o11 f11 => ?_)
  have s11 := s10.put f11
  refine q_aload_n rfl rfl ?_
  refine q_dup rfl rfl ?_
  have e191_11 := (o10.ne f11 rfl)
  refine s_get (v := .int 3) rfl e191_11 rfl rfl ?_
  refine q_iconst rfl ?_
  refine s_iadd (k := 4) rfl (by decide) ?_
  refine s_put (vs' := [.int 0, .ref 192, .ref 193, .int 4, .ref 194, .ref 195, .ref 196, .ref 197, .ref 198, .ref 199, .ref 200, .ref 201, .ref 202, .ref 203, .ref 204, .ref 205, .int (-1), .int 0, .ref 206, .ref 207, .ref 208, .ref 209, .ref 210, .ref 211, .ref 212, .ref 213, .ref 214, .ref 215, .int 0, .int 0, .int 0, .int 0, .ref 216, .ref 217, .ref 218, .ref 219, .ref 220, .int (-1), .int 0, .int 0, .int 0, .int 0, .int 0, .int 0, .ref 221, .ref 222, .ref 223, .ref 224, .int 0, .ref 225, .int 0, .ref 226, .ref 227, .int 0, .ref 228, .ref 229, .ref 230, .ref 231, .ref 232]) rfl e191_11 rfl rfl rfl rfl (fun h12 o12 f12 => ?_)
  have s12 := s11.put f12
  refine s_iinc (y := 4) (lv' := [(2, .int 4), (0, .ref 191), (1, .int 18)]) rfl rfl (by decide) (by decide) rfl ?_
  refine q_goto rfl ?_
  refine q_iload_n rfl rfl ?_
  refine q_iload_n rfl rfl ?_
  refine q_icmp_ge rfl (fun c => absurd c (by decide)) (fun _ => ?_)
  refine q_aload_n rfl rfl ?_
  refine s_get (v := .ref 193) rfl o12 rfl rfl ?_
  refine q_aload_n rfl rfl ?_
  refine s_get (v := .int 4) rfl o12 rfl rfl ?_
  refine q_aload_n rfl rfl ?_
  refine s_get (v := .ref 192) rfl o12 rfl rfl ?_
  refine q_iload_n rfl rfl ?_
  have e192_12 := (f12.ne rfl (f11.ne rfl e192_10))
  refine s_iaload (j := 4) (v := .int 0) rfl e192_12 (by decide) rfl (by first | rfl | decide) ?_
  have e193_12 := (f12.ne rfl o11)
  refine s_iastore (j := 4) rfl e193_12 (by decide) rfl (fun h13 o13 f13 => ?_)
  have s13 := s12.put f13
  refine q_aload_n rfl rfl ?_
  refine q_dup rfl rfl ?_
  have e191_13 := (o12.ne f13 rfl)
  refine s_get (v := .int 4) rfl e191_13 rfl rfl ?_
  refine q_iconst rfl ?_
  refine s_iadd (k := 5) rfl (by decide) ?_
  refine s_put (vs' := [.int 0, .ref 192, .ref 193, .int 5, .ref 194, .ref 195, .ref 196, .ref 197, .ref 198, .ref 199, .ref 200, .ref 201, .ref 202, .ref 203, .ref 204, .ref 205, .int (-1), .int 0, .ref 206, .ref 207, .ref 208, .ref 209, .ref 210, .ref 211, .ref 212, .ref 213, .ref 214, .ref 215, .int 0, .int 0, .int 0, .int 0, .ref 216, .ref 217, .ref 218, .ref 219, .ref 220, .int (-1), .int 0, .int 0, .int 0, .int 0, .int 0, .int 0, .ref 221, .ref 222, .ref 223, .ref 224, .int 0, .ref 225, .int 0, .ref 226, .ref 227, .int 0, .ref 228, .ref 229, .ref 230, .ref 231, .ref 232]) rfl e191_13 rfl rfl rfl rfl (fun h14 o14 f14 => ?_)
  have s14 := s13.put f14
  refine s_iinc (y := 5) (lv' := [(2, .int 5), (0, .ref 191), (1, .int 18)]) rfl rfl (by decide) (by decide) rfl ?_
  refine q_goto rfl ?_
  refine q_iload_n rfl rfl ?_
  refine q_iload_n rfl rfl ?_
  refine q_icmp_ge rfl (fun c => absurd c (by decide)) (fun _ => ?_)
  refine q_aload_n rfl rfl ?_
  refine s_get (v := .ref 193) rfl o14 rfl rfl ?_
  refine q_aload_n rfl rfl ?_
  refine s_get (v := .int 5) rfl o14 rfl rfl ?_
  refine q_aload_n rfl rfl ?_
  refine s_get (v := .ref 192) rfl o14 rfl rfl ?_
  refine q_iload_n rfl rfl ?_
  have e192_14 := (f14.ne rfl (f13.ne rfl e192_12))
  refine s_iaload (j := 5) (v := .int 0) rfl e192_14 (by decide) rfl (by first | rfl | decide) ?_
  have e193_14 := (f14.ne rfl o13)
  refine s_iastore (j := 5) rfl e193_14 (by decide) rfl (fun h15 o15 f15 => ?_)
  have s15 := s14.put f15
  refine q_aload_n rfl rfl ?_
  refine q_dup rfl rfl ?_
  have e191_15 := (o14.ne f15 rfl)
  refine s_get (v := .int 5) rfl e191_15 rfl rfl ?_
  refine q_iconst rfl ?_
  refine s_iadd (k := 6) rfl (by decide) ?_
  refine s_put (vs' := [.int 0, .ref 192, .ref 193, .int 6, .ref 194, .ref 195, .ref 196, .ref 197, .ref 198, .ref 199, .ref 200, .ref 201, .ref 202, .ref 203, .ref 204, .ref 205, .int (-1), .int 0, .ref 206, .ref 207, .ref 208, .ref 209, .ref 210, .ref 211, .ref 212, .ref 213, .ref 214, .ref 215, .int 0, .int 0, .int 0, .int 0, .ref 216, .ref 217, .ref 218, .ref 219, .ref 220, .int (-1), .int 0, .int 0, .int 0, .int 0, .int 0, .int 0, .ref 221, .ref 222, .ref 223, .ref 224, .int 0, .ref 225, .int 0, .ref 226, .ref 227, .int 0, .ref 228, .ref 229, .ref 230, .ref 231, .ref 232]) rfl e191_15 rfl rfl rfl rfl (fun h16 o16 f16 => ?_)
  have s16 := s15.put f16
  refine s_iinc (y := 6) (lv' := [(2, .int 6), (0, .ref 191), (1, .int 18)]) rfl rfl (by decide) (by decide) rfl ?_
  refine q_goto rfl ?_
  refine q_iload_n rfl rfl ?_
  refine q_iload_n rfl rfl ?_
  refine q_icmp_ge rfl (fun c => absurd c (by decide)) (fun _ => ?_)
  refine q_aload_n rfl rfl ?_
  refine s_get (v := .ref 193) rfl o16 rfl rfl ?_
  refine q_aload_n rfl rfl ?_
  refine s_get (v := .int 6) rfl o16 rfl rfl ?_
  refine q_aload_n rfl rfl ?_
  refine s_get (v := .ref 192) rfl o16 rfl rfl ?_
  refine q_iload_n rfl rfl ?_
  have e192_16 := (f16.ne rfl (f15.ne rfl e192_14))
  refine s_iaload (j := 6) (v := .int 0) rfl e192_16 (by decide) rfl (by first | rfl | decide) ?_
  have e193_16 := (f16.ne rfl o15)
  refine s_iastore (j := 6) rfl e193_16 (by decide) rfl (fun h17 o17 f17 => ?_)
  have s17 := s16.put f17
  refine q_aload_n rfl rfl ?_
  refine q_dup rfl rfl ?_
  have e191_17 := (o16.ne f17 rfl)
  refine s_get (v := .int 6) rfl e191_17 rfl rfl ?_
  refine q_iconst rfl ?_
  refine s_iadd (k := 7) rfl (by decide) ?_
  refine s_put (vs' := [.int 0, .ref 192, .ref 193, .int 7, .ref 194, .ref 195, .ref 196, .ref 197, .ref 198, .ref 199, .ref 200, .ref 201, .ref 202, .ref 203, .ref 204, .ref 205, .int (-1), .int 0, .ref 206, .ref 207, .ref 208, .ref 209, .ref 210, .ref 211, .ref 212, .ref 213, .ref 214, .ref 215, .int 0, .int 0, .int 0, .int 0, .ref 216, .ref 217, .ref 218, .ref 219, .ref 220, .int (-1), .int 0, .int 0, .int 0, .int 0, .int 0, .int 0, .ref 221, .ref 222, .ref 223, .ref 224, .int 0, .ref 225, .int 0, .ref 226, .ref 227, .int 0, .ref 228, .ref 229, .ref 230, .ref 231, .ref 232]) rfl e191_17 rfl rfl rfl rfl (fun h18 o18 f18 => ?_)
  have s18 := s17.put f18
  refine s_iinc (y := 7) (lv' := [(2, .int 7), (0, .ref 191), (1, .int 18)]) rfl rfl (by decide) (by decide) rfl ?_
  refine q_goto rfl ?_
  refine q_iload_n rfl rfl ?_
  refine q_iload_n rfl rfl ?_
  refine q_icmp_ge rfl (fun c => absurd c (by decide)) (fun _ => ?_)
  refine q_aload_n rfl rfl ?_
  refine s_get (v := .ref 193) rfl o18 rfl rfl ?_
  refine q_aload_n rfl rfl ?_
  refine s_get (v := .int 7) rfl o18 rfl rfl ?_
  refine q_aload_n rfl rfl ?_
  refine s_get (v := .ref 192) rfl o18 rfl rfl ?_
  refine q_iload_n rfl rfl ?_
  have e192_18 := (f18.ne rfl (f17.ne rfl e192_16))
  refine s_iaload (j := 7) (v := .int 0) rfl e192_18 (by decide) rfl (by first | rfl | decide) ?_
  have e193_18 := (f18.ne rfl o17)
  refine s_iastore (j := 7) rfl e193_18 (by decide) rfl (fun h19 o19 f19 => ?_)
  have s19 := s18.put f19
  refine q_aload_n rfl rfl ?_
  refine q_dup rfl rfl ?_
  have e191_19 := (o18.ne f19 rfl)
  refine s_get (v := .int 7) rfl e191_19 rfl rfl ?_
  refine q_iconst rfl ?_
  refine s_iadd (k := 8) rfl (by decide) ?_
  refine s_put (vs' := [.int 0, .ref 192, .ref 193, .int 8, .ref 194, .ref 195, .ref 196, .ref 197, .ref 198, .ref 199, .ref 200, .ref 201, .ref 202, .ref 203, .ref 204, .ref 205, .int (-1), .int 0, .ref 206, .ref 207, .ref 208, .ref 209, .ref 210, .ref 211, .ref 212, .ref 213, .ref 214, .ref 215, .int 0, .int 0, .int 0, .int 0, .ref 216, .ref 217, .ref 218, .ref 219, .ref 220, .int (-1), .int 0, .int 0, .int 0, .int 0, .int 0, .int 0, .ref 221, .ref 222, .ref 223, .ref 224, .int 0, .ref 225, .int 0, .ref 226, .ref 227, .int 0, .ref 228, .ref 229, .ref 230, .ref 231, .ref 232]) rfl e191_19 rfl rfl rfl rfl (fun h20 o20 f20 => ?_)
  have s20 := s19.put f20
  refine s_iinc (y := 8) (lv' := [(2, .int 8), (0, .ref 191), (1, .int 18)]) rfl rfl (by decide) (by decide) rfl ?_
  refine q_goto rfl ?_
  refine q_iload_n rfl rfl ?_
  refine q_iload_n rfl rfl ?_
  refine q_icmp_ge rfl (fun c => absurd c (by decide)) (fun _ => ?_)
  refine q_aload_n rfl rfl ?_
  refine s_get (v := .ref 193) rfl o20 rfl rfl ?_
  refine q_aload_n rfl rfl ?_
  refine s_get (v := .int 8) rfl o20 rfl rfl ?_
  refine q_aload_n rfl rfl ?_
  refine s_get (v := .ref 192) rfl o20 rfl rfl ?_
  refine q_iload_n rfl rfl ?_
  have e192_20 := (f20.ne rfl (f19.ne rfl e192_18))
  refine s_iaload (j := 8) (v := .int 0) rfl e192_20 (by decide) rfl (by first | rfl | decide) ?_
  have e193_20 := (f20.ne rfl o19)
  refine s_iastore (j := 8) rfl e193_20 (by decide) rfl (fun h21 o21 f21 => ?_)
  have s21 := s20.put f21
  refine q_aload_n rfl rfl ?_
  refine q_dup rfl rfl ?_
  have e191_21 := (o20.ne f21 rfl)
  refine s_get (v := .int 8) rfl e191_21 rfl rfl ?_
  refine q_iconst rfl ?_
  refine s_iadd (k := 9) rfl (by decide) ?_
  refine s_put (vs' := [.int 0, .ref 192, .ref 193, .int 9, .ref 194, .ref 195, .ref 196, .ref 197, .ref 198, .ref 199, .ref 200, .ref 201, .ref 202, .ref 203, .ref 204, .ref 205, .int (-1), .int 0, .ref 206, .ref 207, .ref 208, .ref 209, .ref 210, .ref 211, .ref 212, .ref 213, .ref 214, .ref 215, .int 0, .int 0, .int 0, .int 0, .ref 216, .ref 217, .ref 218, .ref 219, .ref 220, .int (-1), .int 0, .int 0, .int 0, .int 0, .int 0, .int 0, .ref 221, .ref 222, .ref 223, .ref 224, .int 0, .ref 225, .int 0, .ref 226, .ref 227, .int 0, .ref 228, .ref 229, .ref 230, .ref 231, .ref 232]) rfl e191_21 rfl rfl rfl rfl (fun h22 o22 f22 => ?_)
  have s22 := s21.put f22
  refine s_iinc (y := 9) (lv' := [(2, .int 9), (0, .ref 191), (1, .int 18)]) rfl rfl (by decide) (by decide) rfl ?_
  refine q_goto rfl ?_
  refine q_iload_n rfl rfl ?_
  refine q_iload_n rfl rfl ?_
  refine q_icmp_ge rfl (fun c => absurd c (by decide)) (fun _ => ?_)
  refine q_aload_n rfl rfl ?_
  refine s_get (v := .ref 193) rfl o22 rfl rfl ?_
  refine q_aload_n rfl rfl ?_
  refine s_get (v := .int 9) rfl o22 rfl rfl ?_
  refine q_aload_n rfl rfl ?_
  refine s_get (v := .ref 192) rfl o22 rfl rfl ?_
  refine q_iload_n rfl rfl ?_
  have e192_22 := (f22.ne rfl (f21.ne rfl e192_20))
  refine s_iaload (j := 9) (v := .int 0) rfl e192_22 (by decide) rfl (by first | rfl | decide) ?_
  have e193_22 := (f22.ne rfl o21)
  refine s_iastore (j := 9) rfl e193_22 (by decide) rfl (fun h23 o23 f23 => ?_)
  have s23 := s22.put f23
  refine q_aload_n rfl rfl ?_
  refine q_dup rfl rfl ?_
  have e191_23 := (o22.ne f23 rfl)
  refine s_get (v := .int 9) rfl e191_23 rfl rfl ?_
  refine q_iconst rfl ?_
  refine s_iadd (k := 10) rfl (by decide) ?_
  refine s_put (vs' := [.int 0, .ref 192, .ref 193, .int 10, .ref 194, .ref 195, .ref 196, .ref 197, .ref 198, .ref 199, .ref 200, .ref 201, .ref 202, .ref 203, .ref 204, .ref 205, .int (-1), .int 0, .ref 206, .ref 207, .ref 208, .ref 209, .ref 210, .ref 211, .ref 212, .ref 213, .ref 214, .ref 215, .int 0, .int 0, .int 0, .int 0, .ref 216, .ref 217, .ref 218, .ref 219, .ref 220, .int (-1), .int 0, .int 0, .int 0, .int 0, .int 0, .int 0, .ref 221, .ref 222, .ref 223, .ref 224, .int 0, .ref 225, .int 0, .ref 226, .ref 227, .int 0, .ref 228, .ref 229, .ref 230, .ref 231, .ref 232]) rfl e191_23 rfl rfl rfl rfl (fun h24 o24 f24 => ?_)
  have s24 := s23.put f24
  refine s_iinc (y := 10) (lv' := [(2, .int 10), (0, .ref 191), (1, .int 18)]) rfl rfl (by decide) (by decide) rfl ?_
  refine q_goto rfl ?_
  refine q_iload_n rfl rfl ?_
  refine q_iload_n rfl rfl ?_
  refine q_icmp_ge rfl (fun c => absurd c (by decide)) (fun _ => ?_)
  refine q_aload_n rfl rfl ?_
  refine s_get (v := .ref 193) rfl o24 rfl rfl ?_
  refine q_aload_n rfl rfl ?_
  refine s_get (v := .int 10) rfl o24 rfl rfl ?_
  refine q_aload_n rfl rfl ?_
  refine s_get (v := .ref 192) rfl o24 rfl rfl ?_
  refine q_iload_n rfl rfl ?_
  have e192_24 := (f24.ne rfl (f23.ne rfl e192_22))
  refine s_iaload (j := 10) (v := .int 0) rfl e192_24 (by decide) rfl (by first | rfl | decide) ?_
  have e193_24 := (f24.ne rfl o23)
  refine s_iastore (j := 10) rfl e193_24 (by decide) rfl (fun h25 o25 f25 => ?_)
  have s25 := s24.put f25
  refine q_aload_n rfl rfl ?_
  refine q_dup rfl rfl ?_
  have e191_25 := (o24.ne f25 rfl)
  refine s_get (v := .int 10) rfl e191_25 rfl rfl ?_
  refine q_iconst rfl ?_
  refine s_iadd (k := 11) rfl (by decide) ?_
  refine s_put (vs' := [.int 0, .ref 192, .ref 193, .int 11, .ref 194, .ref 195, .ref 196, .ref 197, .ref 198, .ref 199, .ref 200, .ref 201, .ref 202, .ref 203, .ref 204, .ref 205, .int (-1), .int 0, .ref 206, .ref 207, .ref 208, .ref 209, .ref 210, .ref 211, .ref 212, .ref 213, .ref 214, .ref 215, .int 0, .int 0, .int 0, .int 0, .ref 216, .ref 217, .ref 218, .ref 219, .ref 220, .int (-1), .int 0, .int 0, .int 0, .int 0, .int 0, .int 0, .ref 221, .ref 222, .ref 223, .ref 224, .int 0, .ref 225, .int 0, .ref 226, .ref 227, .int 0, .ref 228, .ref 229, .ref 230, .ref 231, .ref 232]) rfl e191_25 rfl rfl rfl rfl (fun h26 o26 f26 => ?_)
  have s26 := s25.put f26
  refine s_iinc (y := 11) (lv' := [(2, .int 11), (0, .ref 191), (1, .int 18)]) rfl rfl (by decide) (by decide) rfl ?_
  refine q_goto rfl ?_
  refine q_iload_n rfl rfl ?_
  refine q_iload_n rfl rfl ?_
  refine q_icmp_ge rfl (fun c => absurd c (by decide)) (fun _ => ?_)
  refine q_aload_n rfl rfl ?_
  refine s_get (v := .ref 193) rfl o26 rfl rfl ?_
  refine q_aload_n rfl rfl ?_
  refine s_get (v := .int 11) rfl o26 rfl rfl ?_
  refine q_aload_n rfl rfl ?_
  refine s_get (v := .ref 192) rfl o26 rfl rfl ?_
  refine q_iload_n rfl rfl ?_
  have e192_26 := (f26.ne rfl (f25.ne rfl e192_24))
  refine s_iaload (j := 11) (v := .int 0) rfl e192_26 (by decide) rfl (by first | rfl | decide) ?_
  have e193_26 := (f26.ne rfl o25)
  refine s_iastore (j := 11) rfl e193_26 (by decide) rfl (fun h27 o27 f27 => ?_)
  have s27 := s26.put f27
  refine q_aload_n rfl rfl ?_
  refine q_dup rfl rfl ?_
  have e191_27 := (o26.ne f27 rfl)
  refine s_get (v := .int 11) rfl e191_27 rfl rfl ?_
  refine q_iconst rfl ?_
  refine s_iadd (k := 12) rfl (by decide) ?_
  refine s_put (vs' := [.int 0, .ref 192, .ref 193, .int 12, .ref 194, .ref 195, .ref 196, .ref 197, .ref 198, .ref 199, .ref 200, .ref 201, .ref 202, .ref 203, .ref 204, .ref 205, .int (-1), .int 0, .ref 206, .ref 207, .ref 208, .ref 209, .ref 210, .ref 211, .ref 212, .ref 213, .ref 214, .ref 215, .int 0, .int 0, .int 0, .int 0, .ref 216, .ref 217, .ref 218, .ref 219, .ref 220, .int (-1), .int 0, .int 0, .int 0, .int 0, .int 0, .int 0, .ref 221, .ref 222, .ref 223, .ref 224, .int 0, .ref 225, .int 0, .ref 226, .ref 227, .int 0, .ref 228, .ref 229, .ref 230, .ref 231, .ref 232]) rfl e191_27 rfl rfl rfl rfl (fun h28 o28 f28 => ?_)
  have s28 := s27.put f28
  refine s_iinc (y := 12) (lv' := [(2, .int 12), (0, .ref 191), (1, .int 18)]) rfl rfl (by decide) (by decide) rfl ?_
  refine q_goto rfl ?_
  refine q_iload_n rfl rfl ?_
  refine q_iload_n rfl rfl ?_
  refine q_icmp_ge rfl (fun c => absurd c (by decide)) (fun _ => ?_)
  refine q_aload_n rfl rfl ?_
  refine s_get (v := .ref 193) rfl o28 rfl rfl ?_
  refine q_aload_n rfl rfl ?_
  refine s_get (v := .int 12) rfl o28 rfl rfl ?_
  refine q_aload_n rfl rfl ?_
  refine s_get (v := .ref 192) rfl o28 rfl rfl ?_
  refine q_iload_n rfl rfl ?_
  have e192_28 := (f28.ne rfl (f27.ne rfl e192_26))
  refine s_iaload (j := 12) (v := .int 0) rfl e192_28 (by decide) rfl (by first | rfl | decide) ?_
  have e193_28 := (f28.ne rfl o27)
  refine s_iastore (j := 12) rfl e193_28 (by decide) rfl (fun h29 o29 f29 => ?_)
  have s29 := s28.put f29
  refine q_aload_n rfl rfl ?_
  refine q_dup rfl rfl ?_
  have e191_29 := (o28.ne f29 rfl)
  refine s_get (v := .int 12) rfl e191_29 rfl rfl ?_
  refine q_iconst rfl ?_
  refine s_iadd (k := 13) rfl (by decide) ?_
  refine s_put (vs' := [.int 0, .ref 192, .ref 193, .int 13, .ref 194, .ref 195, .ref 196, .ref 197, .ref 198, .ref 199, .ref 200, .ref 201, .ref 202, .ref 203, .ref 204, .ref 205, .int (-1), .int 0, .ref 206, .ref 207, .ref 208, .ref 209, .ref 210, .ref 211, .ref 212, .ref 213, .ref 214, .ref 215, .int 0, .int 0, .int 0, .int 0, .ref 216, .ref 217, .ref 218, .ref 219, .ref 220, .int (-1), .int 0, .int 0, .int 0, .int 0, .int 0, .int 0, .ref 221, .ref 222, .ref 223, .ref 224, .int 0, .ref 225, .int 0, .ref 226, .ref 227, .int 0, .ref 228, .ref 229, .ref 230, .ref 231, .ref 232]) rfl e191_29 rfl rfl rfl rfl (fun h30 o30 f30 => ?_)
  have s30 := s29.put f30
  refine s_iinc (y := 13) (lv' := [(2, .int 13), (0, .ref 191), (1, .int 18)]) rfl rfl (by decide) (by decide) rfl ?_
  refine q_goto rfl ?_
  refine q_iload_n rfl rfl ?_
  refine q_iload_n rfl rfl ?_
  refine q_icmp_ge rfl (fun c => absurd c (by decide)) (fun _ => ?_)
  refine q_aload_n rfl rfl ?_
  refine s_get (v := .ref 193) rfl o30 rfl rfl ?_
  refine q_aload_n rfl rfl ?_
  refine s_get (v := .int 13) rfl o30 rfl rfl ?_
  refine q_aload_n rfl rfl ?_
  refine s_get (v := .ref 192) rfl o30 rfl rfl ?_
  refine q_iload_n rfl rfl ?_
  have e192_30 := (f30.ne rfl (f29.ne rfl e192_28))
  refine s_iaload (j := 13) (v := .int 0) rfl e192_30 (by decide) rfl (by first | rfl | decide) ?_
  have e193_30 := (f30.ne rfl o29)
  refine s_iastore (j := 13) rfl e193_30 (by decide) rfl (fun h31 o31 f31 => ?_)
  have s31 := s30.put f31
  refine q_aload_n rfl rfl ?_
  refine q_dup rfl rfl ?_
  have e191_31 := (o30.ne f31 rfl)
  refine s_get (v := .int 13) rfl e191_31 rfl rfl ?_
  refine q_iconst rfl ?_
  refine s_iadd (k := 14) rfl (by decide) ?_
  refine s_put (vs' := [.int 0, .ref 192, .ref 193, .int 14, .ref 194, .ref 195, .ref 196, .ref 197, .ref 198, .ref 199, .ref 200, .ref 201, .ref 202, .ref 203, .ref 204, .ref 205, .int (-1), .int 0, .ref 206, .ref 207, .ref 208, .ref 209, .ref 210, .ref 211, .ref 212, .ref 213, .ref 214, .ref 215, .int 0, .int 0, .int 0, .int 0, .ref 216, .ref 217, .ref 218, .ref 219, .ref 220, .int (-1), .int 0, .int 0, .int 0, .int 0, .int 0, .int 0, .ref 221, .ref 222, .ref 223, .ref 224, .int 0, .ref 225, .int 0, .ref 226, .ref 227, .int 0, .ref 228, .ref 229, .ref 230, .ref 231, .ref 232]) rfl e191_31 rfl rfl rfl rfl (fun h32 o32 f32 => ?_)
  have s32 := s31.put f32
  refine s_iinc (y := 14) (lv' := [(2, .int 14), (0, .ref 191), (1, .int 18)]) rfl rfl (by decide) (by decide) rfl ?_
  refine q_goto rfl ?_
  refine q_iload_n rfl rfl ?_
  refine q_iload_n rfl rfl ?_
  refine q_icmp_ge rfl (fun c => absurd c (by decide)) (fun _ => ?_)
  refine q_aload_n rfl rfl ?_
  refine s_get (v := .ref 193) rfl o32 rfl rfl ?_
  refine q_aload_n rfl rfl ?_
  refine s_get (v := .int 14) rfl o32 rfl rfl ?_
  refine q_aload_n rfl rfl ?_
  refine s_get (v := .ref 192) rfl o32 rfl rfl ?_
  refine q_iload_n rfl rfl ?_
  have e192_32 := (f32.ne rfl (f31.ne rfl e192_30))
  refine s_iaload (j := 14) (v := .int 0) rfl e192_32 (by decide) rfl (by first | rfl | decide) ?_
  have e193_32 := (f32.ne rfl o31)
  refine s_iastore (j := 14) rfl e193_32 (by decide) rfl (fun h33 o33 f33 => ?_)
  have s33 := s32.put f33
  refine q_aload_n rfl rfl ?_
  refine q_dup rfl rfl ?_
  have e191_33 := (o32.ne f33 rfl)
  refine s_get (v := .int 14) rfl e191_33 rfl rfl ?_
  refine q_iconst rfl ?_
  refine s_iadd (k := 15) rfl (by decide) ?_
  refine s_put (vs' := [.int 0, .ref 192, .ref 193, .int 15, .ref 194, .ref 195, .ref 196, .ref 197, .ref 198, .ref 199, .ref 200, .ref 201, .ref 202, .ref 203, .ref 204, .ref 205, .int (-1), .int 0, .ref 206, .ref 207, .ref 208, .ref 209, .ref 210, .ref 211, .ref 212, .ref 213, .ref 214, .ref 215, .int 0, .int 0, .int 0, .int 0, .ref 216, .ref 217, .ref 218, .ref 219, .ref 220, .int (-1), .int 0, .int 0, .int 0, .int 0, .int 0, .int 0, .ref 221, .ref 222, .ref 223, .ref 224, .int 0, .ref 225, .int 0, .ref 226, .ref 227, .int 0, .ref 228, .ref 229, .ref 230, .ref 231, .ref 232]) rfl e191_33 rfl rfl rfl rfl (fun h34 o34 f34 => ?_)
  have s34 := s33.put f34
  refine s_iinc (y := 15) (lv' := [(2, .int 15), (0, .ref 191), (1, .int 18)]) rfl rfl (by decide) (by decide) rfl ?_
  refine q_goto rfl ?_
  refine q_iload_n rfl rfl ?_
  refine q_iload_n rfl rfl ?_
  refine q_icmp_ge rfl (fun c => absurd c (by decide)) (fun _ => ?_)
  refine q_aload_n rfl rfl ?_
  refine s_get (v := .ref 193) rfl o34 rfl rfl ?_
  refine q_aload_n rfl rfl ?_
  refine s_get (v := .int 15) rfl o34 rfl rfl ?_
  refine q_aload_n rfl rfl ?_
  refine s_get (v := .ref 192) rfl o34 rfl rfl ?_
  refine q_iload_n rfl rfl ?_
  have e192_34 := (f34.ne rfl (f33.ne rfl e192_32))
  refine s_iaload (j := 15) (v := .int 0) rfl e192_34 (by decide) rfl (by first | rfl | decide) ?_
  have e193_34 := (f34.ne rfl o33)
  refine s_iastore (j := 15) rfl e193_34 (by decide) rfl (fun h35 o35 f35 => ?_)
  have s35 := s34.put f35
  refine q_aload_n rfl rfl ?_
  refine q_dup rfl rfl ?_
  have e191_35 := (o34.ne f35 rfl)
  refine s_get (v := .int 15) rfl e191_35 rfl rfl ?_
  refine q_iconst rfl ?_
  refine s_iadd (k := 16) rfl (by decide) ?_
  refine s_put (vs' := [.int 0, .ref 192, .ref 193, .int 16, .ref 194, .ref 195, .ref 196, .ref 197, .ref 198, .ref 199, .ref 200, .ref 201, .ref 202, .ref 203, .ref 204, .ref 205, .int (-1), .int 0, .ref 206, .ref 207, .ref 208, .ref 209, .ref 210, .ref 211, .ref 212, .ref 213, .ref 214, .ref 215, .int 0, .int 0, .int 0, .int 0, .ref 216, .ref 217, .ref 218, .ref 219, .ref 220, .int (-1), .int 0, .int 0, .int 0, .int 0, .int 0, .int 0, .ref 221, .ref 222, .ref 223, .ref 224, .int 0, .ref 225, .int 0, .ref 226, .ref 227, .int 0, .ref 228, .ref 229, .ref 230, .ref 231, .ref 232]) rfl e191_35 rfl rfl rfl rfl (fun h36 o36 f36 => ?_)
  have s36 := s35.put f36
  refine s_iinc (y := 16) (lv' := [(2, .int 16), (0, .ref 191), (1, .int 18)]) rfl rfl (by decide) (by decide) rfl ?_
  refine q_goto rfl ?_
  refine q_iload_n rfl rfl ?_
  refine q_iload_n rfl rfl ?_
  refine q_icmp_ge rfl (fun c => absurd c (by decide)) (fun _ => ?_)
  refine q_aload_n rfl rfl ?_
  refine s_get (v := .ref 193) rfl o36 rfl rfl ?_
  refine q_aload_n rfl rfl ?_
  refine s_get (v := .int 16) rfl o36 rfl rfl ?_
  refine q_aload_n rfl rfl ?_
  refine s_get (v := .ref 192) rfl o36 rfl rfl ?_
  refine q_iload_n rfl rfl ?_
  have e192_36 := (f36.ne rfl (f35.ne rfl e192_34))
  refine s_iaload (j := 16) (v := .int 0) rfl e192_36 (by decide) rfl (by first | rfl | decide) ?_
  have e193_36 := (f36.ne rfl o35)
  refine s_iastore (j := 16) rfl e193_36 (by decide) rfl (fun h37 o37 f37 => ?_)
  have s37 := s36.put f37
  refine q_aload_n rfl rfl ?_
  refine q_dup rfl rfl ?_
  have e191_37 := (o36.ne f37 rfl)
  refine s_get (v := .int 16) rfl e191_37 rfl rfl ?_
  refine q_iconst rfl ?_
  refine s_iadd (k := 17) rfl (by decide) ?_
  refine s_put (vs' := [.int 0, .ref 192, .ref 193, .int 17, .ref 194, .ref 195, .ref 196, .ref 197, .ref 198, .ref 199, .ref 200, .ref 201, .ref 202, .ref 203, .ref 204, .ref 205, .int (-1), .int 0, .ref 206, .ref 207, .ref 208, .ref 209, .ref 210, .ref 211, .ref 212, .ref 213, .ref 214, .ref 215, .int 0, .int 0, .int 0, .int 0, .ref 216, .ref 217, .ref 218, .ref 219, .ref 220, .int (-1), .int 0, .int 0, .int 0, .int 0, .int 0, .int 0, .ref 221, .ref 222, .ref 223, .ref 224, .int 0, .ref 225, .int 0, .ref 226, .ref 227, .int 0, .ref 228, .ref 229, .ref 230, .ref 231, .ref 232]) rfl e191_37 rfl rfl rfl rfl (fun h38 o38 f38 => ?_)
  have s38 := s37.put f38
  refine s_iinc (y := 17) (lv' := [(2, .int 17), (0, .ref 191), (1, .int 18)]) rfl rfl (by decide) (by decide) rfl ?_
  refine q_goto rfl ?_
  refine q_iload_n rfl rfl ?_
  refine q_iload_n rfl rfl ?_
  refine q_icmp_ge rfl (fun c => absurd c (by decide)) (fun _ => ?_)
  refine q_aload_n rfl rfl ?_
  refine s_get (v := .ref 193) rfl o38 rfl rfl ?_
  refine q_aload_n rfl rfl ?_
  refine s_get (v := .int 17) rfl o38 rfl rfl ?_
  refine q_aload_n rfl rfl ?_
  refine s_get (v := .ref 192) rfl o38 rfl rfl ?_
  refine q_iload_n rfl rfl ?_
  have e192_38 := (f38.ne rfl (f37.ne rfl e192_36))
  refine s_iaload (j := 17) (v := .int 0) rfl e192_38 (by decide) rfl (by first | rfl | decide) ?_
  have e193_38 := (f38.ne rfl o37)
  refine s_iastore (j := 17) rfl e193_38 (by decide) rfl (fun h39 o39 f39 => ?_)
  have s39 := s38.put f39
  refine q_aload_n rfl rfl ?_
  refine q_dup rfl rfl ?_
  have e191_39 := (o38.ne f39 rfl)
  refine s_get (v := .int 17) rfl e191_39 rfl rfl ?_
  refine q_iconst rfl ?_
  refine s_iadd (k := 18) rfl (by decide) ?_
  refine s_put (vs' := [.int 0, .ref 192, .ref 193, .int 18, .ref 194, .ref 195, .ref 196, .ref 197, .ref 198, .ref 199, .ref 200, .ref 201, .ref 202, .ref 203, .ref 204, .ref 205, .int (-1), .int 0, .ref 206, .ref 207, .ref 208, .ref 209, .ref 210, .ref 211, .ref 212, .ref 213, .ref 214, .ref 215, .int 0, .int 0, .int 0, .int 0, .ref 216, .ref 217, .ref 218, .ref 219, .ref 220, .int (-1), .int 0, .int 0, .int 0, .int 0, .int 0, .int 0, .ref 221, .ref 222, .ref 223, .ref 224, .int 0, .ref 225, .int 0, .ref 226, .ref 227, .int 0, .ref 228, .ref 229, .ref 230, .ref 231, .ref 232]) rfl e191_39 rfl rfl rfl rfl (fun h40 o40 f40 => ?_)
  have s40 := s39.put f40
  refine s_iinc (y := 18) (lv' := [(2, .int 18), (0, .ref 191), (1, .int 18)]) rfl rfl (by decide) (by decide) rfl ?_
  refine q_goto rfl ?_
  refine q_iload_n rfl rfl ?_
  refine q_iload_n rfl rfl ?_
  refine q_icmp_ge rfl (fun _ => ?_) (fun c => absurd (by decide) c)
  refine q_iconst rfl ?_
  refine s_istore_n (lv' := [(2, .int 0), (0, .ref 191), (1, .int 18)]) rfl (by decide) rfl ?_
  have e192_40 := (f40.ne rfl (f39.ne rfl e192_38))
  refine en_loop (m := 191) (a := 192) rfl rfl (by decide) (by decide) 20 0 h40 _ rfl o40 e192_40 (fun h41 f41 => ?_)
  have s41 := s40.put f41
  show aW aiP 217 16 636 88 [(2, .int 20), (0, .ref 191), (1, .int 18)] [] h41 _
  refine q_aload_n rfl rfl ?_
  have e191_41 := (o40.ne f41 rfl)
  refine s_get (v := .int 18) rfl e191_41 rfl rfl ?_
  refine q_ireturn rfl rfl ?_
  show aW aiP 0 17 658 243 [(4, .int 0), (3, .ref 233), (2, .ref 191), (1, .ref 6), (0, .ref 0)] [.int 18, .int 18] h41 _
  refine q_icmp_eq rfl (fun _ => ?_) (fun c => absurd (by decide) c)
  refine s_iinc (y := 6) (lv' := [(4, .int 6), (3, .ref 233), (2, .ref 191), (1, .ref 6), (0, .ref 0)]) rfl rfl (by decide) (by decide) rfl ?_
  refine q_goto rfl ?_
  refine q_iload rfl rfl ?_
  refine q_aload_n rfl rfl ?_
  have e0_41 := (f41.ne rfl (f40.ne rfl (f39.ne rfl (f38.ne rfl (f37.ne rfl (f36.ne rfl (f35.ne rfl (f34.ne rfl (f33.ne rfl (f32.ne rfl (f31.ne rfl (f30.ne rfl (f29.ne rfl (f28.ne rfl (f27.ne rfl (f26.ne rfl (f25.ne rfl (f24.ne rfl (f23.ne rfl (f22.ne rfl (f21.ne rfl (f20.ne rfl (f19.ne rfl (f18.ne rfl (f17.ne rfl (f16.ne rfl (f15.ne rfl (f14.ne rfl (f13.ne rfl (f12.ne rfl (f11.ne rfl (f10.ne rfl (f9.ne rfl (f8.ne rfl (f7.ne rfl (f6.ne rfl (f5.ne rfl (f4.ne rfl e0_3))))))))))))))))))))))))))))))))))))))
  refine s_alen (x := 6) rfl e0_41 rfl (by decide) ?_
  refine q_bipush rfl ?_
  refine s_isub (k := 0) rfl (by decide) ?_
  refine q_icmp_gt rfl (fun _ => ?_) (fun c => absurd (by decide) c)
  refine q_iconst rfl ?_
  refine q_ireturn rfl rfl ?_
  exact ⟨rfl, s41.bd rfl⟩
set_option maxRecDepth 20000 in
set_option maxHeartbeats 4000000 in
theorem p_case1_19 {xs : Nat → Int32} {h : ai_H} (F : Fresh 6 xs h) (hk : xs 0 &&& 31 = 1) (hw : xs 1 = 19) : aW aiP 0 17 658 33 [(4, .int 0), (3, .ref 233), (2, .ref 191), (1, .ref 6), (0, .ref 0)] [] h p_Q := by
  have s0 := F.2.2.2.2.2.2.2.2.2.2.2.2.2.2.2.2.2.2.2.2.2.2.2.2.2.2.2.2.2.2.2.2.2.2.2.2.2.2.2.2.2.2.2.2.2.2.2.2.2.2.2.2.2.2.2.2.2.2.2.2.2.2.2.2.2.2.2.2.2.2
  refine q_aload_n rfl rfl ?_
  refine q_iload rfl rfl ?_
  have e0 := F.1
  refine s_iaload (j := 0) (v := .int (xs 0)) rfl e0 (by decide) rfl (by first | rfl | decide) ?_
  refine q_bipush rfl ?_
  refine s_iand (k := ((xs 0) &&& (31 : Int32))) rfl rfl ?_
  rw [hk]
  show aW aiP 0 17 658 40 [(4, .int 0), (3, .ref 233), (2, .ref 191), (1, .ref 6), (0, .ref 0)] [.int 1] h _
  refine s_sw (tg := 223) rfl rfl ?_
  refine q_aload_n rfl rfl ?_
  refine q_aload_n rfl rfl ?_
  refine q_iload rfl rfl ?_
  refine q_iconst rfl ?_
  refine s_iadd (k := 1) rfl (by decide) ?_
  refine s_iaload (j := 1) (v := .int (xs 1)) rfl e0 (by decide) rfl (by first | rfl | decide) ?_
  rw [hw]
  have e6 := F.2.2.2.2.2.2.1
  refine s_callV (as := [.int 19]) (rest := []) (d' := 16) (w' := 637) (lv' := [(0, .ref 6), (1, .int 19)]) rfl e6 rfl rfl rfl rfl rfl rfl ?_
  refine q_iload_n rfl rfl ?_
  refine q_if_lt rfl (fun c => absurd c (by decide)) (fun _ => ?_)
  refine q_iload_n rfl rfl ?_
  refine q_bipush rfl ?_
  refine q_icmp_gt rfl (fun c => absurd c (by decide)) (fun _ => ?_)
  refine q_aload_n rfl rfl ?_
  refine s_get (v := .int 0) rfl e6 rfl rfl ?_
  refine q_iload_n rfl rfl ?_
  refine s_iadd (k := 19) rfl (by decide) ?_
  refine q_sipush rfl ?_
  refine q_icmp_le rfl (fun _ => ?_) (fun c => absurd (by decide) c)
  refine q_aload_n rfl rfl ?_
  refine s_get (v := .ref 7) rfl e6 rfl rfl ?_
  refine q_iconst rfl ?_
  refine q_aload_n rfl rfl ?_
  refine s_get (v := .ref 8) rfl e6 rfl rfl ?_
  refine q_aload_n rfl rfl ?_
  refine s_get (v := .int 0) rfl e6 rfl rfl ?_
  refine q_iload_n rfl rfl ?_
  have e7 := F.2.2.2.2.2.2.2.1
  have e8 := F.2.2.2.2.2.2.2.2.1
  refine s_copy (sp := 0) (dp := 0) (k := 19) rfl e7 e8 (by decide) (by decide) (by decide) rfl (by decide) (by decide) (by decide) (fun i _ => rfl) (fun h1 o1 f1 => ?_)
  have s1 := s0.put f1
  refine q_aload_n rfl rfl ?_
  refine q_dup rfl rfl ?_
  have e6_1 := (e6.ne f1 rfl)
  refine s_get (v := .int 0) rfl e6_1 rfl rfl ?_
  refine q_iload_n rfl rfl ?_
  refine s_iadd (k := 19) rfl (by decide) ?_
  refine s_put (vs' := [.ref 7, .ref 8, .int 19, .ref 9, .int (-1), .ref 51, .ref 93, .ref 135, .ref 177, .ref 180, .int 0, .ref 183, .ref 186, .ref 189]) rfl e6_1 rfl rfl rfl rfl (fun h2 o2 f2 => ?_)
  have s2 := s1.put f2
  refine q_aload_n rfl rfl ?_
  refine s_get (v := .ref 7) rfl o2 rfl rfl ?_
  refine q_iconst rfl ?_
  refine s_callS (as := [.ref 7, .int 0]) (rest := []) (d' := 15) (w' := 614) (lv' := [(0, .ref 7), (1, .int 0)]) rfl rfl rfl rfl rfl rfl rfl rfl ?_
  refine q_iconst rfl ?_
  refine s_istore_n (lv' := [(2, .int 0), (0, .ref 7), (1, .int 0)]) rfl (by decide) rfl ?_
  refine q_aload_n rfl rfl ?_
  have e7_2 := (f2.ne rfl (f1.ne rfl e7))
  refine s_alen (x := 20) rfl e7_2 rfl (by decide) ?_
  refine s_istore_n (lv' := [(3, .int 20), (2, .int 0), (0, .ref 7), (1, .int 0)]) rfl (by decide) rfl ?_
  refine aW_lv (l := [(2, .int (nI 0)), (3, .int 20), (0, .ref 7), (1, .int 0)]) ?_ rfl rfl (by repeat' (first | exact inL_n | refine inL_c rfl ?_))
  refine fi_loop (a := 7) (by decide) 20 0 h2 _ rfl e7_2 (fun h3 f3 => ?_)
  have s3 := s2.put f3
  show aW aiP 15 16 637 59 [(0, .ref 6), (1, .int 19)] [] h3 _
  refine q_aload_n rfl rfl ?_
  have e6_3 := (o2.ne f3 rfl)
  refine s_get (v := .int 19) rfl e6_3 rfl rfl ?_
  refine q_ireturn rfl rfl ?_
  show aW aiP 0 17 658 233 [(4, .int 0), (3, .ref 233), (2, .ref 191), (1, .ref 6), (0, .ref 0)] [.int 19] h3 _
  refine q_aload_n rfl rfl ?_
  refine q_aload_n rfl rfl ?_
  refine q_iload rfl rfl ?_
  refine q_iconst rfl ?_
  refine s_iadd (k := 1) rfl (by decide) ?_
  have e0_3 := (f3.ne rfl (f2.ne rfl (f1.ne rfl e0)))
  refine s_iaload (j := 1) (v := .int (xs 1)) rfl e0_3 (by decide) rfl (by first | rfl | decide) ?_
  rw [hw]
  have e191 := F.2.2.2.2.2.2.2.2.2.2.2.2.2.2.2.2.2.2.2.2.2.2.2.2.2.2.2.1
  have e191_3 := (((e191.ne f1 rfl).ne f2 rfl).ne f3 rfl)
  refine s_callV (as := [.int 19]) (rest := [.int 19]) (d' := 16) (w' := 636) (lv' := [(0, .ref 191), (1, .int 19)]) rfl e191_3 rfl rfl rfl rfl rfl rfl ?_
  refine q_aload_n rfl rfl ?_
  refine q_iconst rfl ?_
  refine s_put (vs' := [.int 0, .ref 192, .ref 193, .int 0, .ref 194, .ref 195, .ref 196, .ref 197, .ref 198, .ref 199, .ref 200, .ref 201, .ref 202, .ref 203, .ref 204, .ref 205, .int (-1), .int 0, .ref 206, .ref 207, .ref 208, .ref 209, .ref 210, .ref 211, .ref 212, .ref 213, .ref 214, .ref 215, .int 0, .int 0, .int 0, .int 0, .ref 216, .ref 217, .ref 218, .ref 219, .ref 220, .int (-1), .int 0, .int 0, .int 0, .int 0, .int 0, .int 0, .ref 221, .ref 222, .ref 223, .ref 224, .int 0, .ref 225, .int 0, .ref 226, .ref 227, .int 0, .ref 228, .ref 229, .ref 230, .ref 231, .ref 232]) rfl e191_3 rfl rfl rfl rfl (fun h4 o4 f4 => ?_)
  have s4 := s3.put f4
  refine q_iload_n rfl rfl ?_
  refine q_if_lt rfl (fun c => absurd c (by decide)) (fun _ => ?_)
  refine q_iload_n rfl rfl ?_
  refine q_bipush rfl ?_
  refine q_icmp_gt rfl (fun c => absurd c (by decide)) (fun _ => ?_)
  refine q_aload_n rfl rfl ?_
  refine s_get (v := .int 0) rfl o4 rfl rfl ?_
  refine q_iload_n rfl rfl ?_
  refine s_iadd (k := 19) rfl (by decide) ?_
  refine q_sipush rfl ?_
  refine q_icmp_le rfl (fun _ => ?_) (fun c => absurd (by decide) c)
  refine q_iconst rfl ?_
  refine s_istore_n (lv' := [(2, .int 0), (0, .ref 191), (1, .int 19)]) rfl (by decide) rfl ?_
  refine q_iload_n rfl rfl ?_
  refine q_iload_n rfl rfl ?_
  refine q_icmp_ge rfl (fun c => absurd c (by decide)) (fun _ => ?_)
  refine q_aload_n rfl rfl ?_
  refine s_get (v := .ref 193) rfl o4 rfl rfl ?_
  refine q_aload_n rfl rfl ?_
  refine s_get (v := .int 0) rfl o4 rfl rfl ?_
  refine q_aload_n rfl rfl ?_
  refine s_get (v := .ref 192) rfl o4 rfl rfl ?_
  refine q_iload_n rfl rfl ?_
  have e192 := F.2.2.2.2.2.2.2.2.2.2.2.2.2.2.2.2.2.2.2.2.2.2.2.2.2.2.2.2.1
  have e192_4 := (f4.ne rfl (f3.ne rfl (f2.ne rfl (f1.ne rfl e192))))
  refine s_iaload (j := 0) (v := .int 0) rfl e192_4 (by decide) rfl (by first | rfl | decide) ?_
  have e193 := F.2.2.2.2.2.2.2.2.2.2.2.2.2.2.2.2.2.2.2.2.2.2.2.2.2.2.2.2.2.1
  have e193_4 := (f4.ne rfl (f3.ne rfl (f2.ne rfl (f1.ne rfl e193))))
  refine s_iastore (j := 0) rfl e193_4 (by decide) rfl (fun h5 o5 f5 => ?_)
  have s5 := s4.put f5
  refine q_aload_n rfl rfl ?_
  refine q_dup rfl rfl ?_
  have e191_5 := (o4.ne f5 rfl)
  refine s_get (v := .int 0) rfl e191_5 rfl rfl ?_
  refine q_iconst rfl ?_
  refine s_iadd (k := 1) rfl (by decide) ?_
  refine s_put (vs' := [.int 0, .ref 192, .ref 193, .int 1, .ref 194, .ref 195, .ref 196, .ref 197, .ref 198, .ref 199, .ref 200, .ref 201, .ref 202, .ref 203, .ref 204, .ref 205, .int (-1), .int 0, .ref 206, .ref 207, .ref 208, .ref 209, .ref 210, .ref 211, .ref 212, .ref 213, .ref 214, .ref 215, .int 0, .int 0, .int 0, .int 0, .ref 216, .ref 217, .ref 218, .ref 219, .ref 220, .int (-1), .int 0, .int 0, .int 0, .int 0, .int 0, .int 0, .ref 221, .ref 222, .ref 223, .ref 224, .int 0, .ref 225, .int 0, .ref 226, .ref 227, .int 0, .ref 228, .ref 229, .ref 230, .ref 231, .ref 232]) rfl e191_5 rfl rfl rfl rfl (fun h6 o6 f6 => ?_)
  have s6 := s5.put f6
  refine s_iinc (y := 1) (lv' := [(2, .int 1), (0, .ref 191), (1, .int 19)]) rfl rfl (by decide) (by decide) rfl ?_
  refine q_goto rfl ?_
  refine q_iload_n rfl rfl ?_
  refine q_iload_n rfl rfl ?_
  refine q_icmp_ge rfl (fun c => absurd c (by decide)) (fun _ => ?_)
  refine q_aload_n rfl rfl ?_
  refine s_get (v := .ref 193) rfl o6 rfl rfl ?_
  refine q_aload_n rfl rfl ?_
  refine s_get (v := .int 1) rfl o6 rfl rfl ?_
  refine q_aload_n rfl rfl ?_
  refine s_get (v := .ref 192) rfl o6 rfl rfl ?_
  refine q_iload_n rfl rfl ?_
  have e192_6 := (f6.ne rfl (f5.ne rfl e192_4))
  refine s_iaload (j := 1) (v := .int 0) rfl e192_6 (by decide) rfl (by first | rfl | decide) ?_
  have e193_6 := (f6.ne rfl o5)
  refine s_iastore (j := 1) rfl e193_6 (by decide) rfl (fun h7 o7 f7 => ?_)
  have s7 := s6.put f7
  refine q_aload_n rfl rfl ?_
  refine q_dup rfl rfl ?_
  have e191_7 := (o6.ne f7 rfl)
  refine s_get (v := .int 1) rfl e191_7 rfl rfl ?_
  refine q_iconst rfl ?_
  refine s_iadd (k := 2) rfl (by decide) ?_
  refine s_put (vs' := [.int 0, .ref 192, .ref 193, .int 2, .ref 194, .ref 195, .ref 196, .ref 197, .ref 198, .ref 199, .ref 200, .ref 201, .ref 202, .ref 203, .ref 204, .ref 205, .int (-1), .int 0, .ref 206, .ref 207, .ref 208, .ref 209, .ref 210, .ref 211, .ref 212, .ref 213, .ref 214, .ref 215, .int 0, .int 0, .int 0, .int 0, .ref 216, .ref 217, .ref 218, .ref 219, .ref 220, .int (-1), .int 0, .int 0, .int 0, .int 0, .int 0, .int 0, .ref 221, .ref 222, .ref 223, .ref 224, .int 0, .ref 225, .int 0, .ref 226, .ref 227, .int 0, .ref 228, .ref 229, .ref 230, .ref 231, .ref 232]) rfl e191_7 rfl rfl rfl rfl (fun h8 o8 f8 => ?_)
  have s8 := s7.put f8
  refine s_iinc (y := 2) (lv' := [(2, .int 2), (0, .ref 191), (1, .int 19)]) rfl rfl (by decide) (by decide) rfl ?_
  refine q_goto rfl ?_
  refine q_iload_n rfl rfl ?_
  refine q_iload_n rfl rfl ?_
  refine q_icmp_ge rfl (fun c => absurd c (by decide)) (fun _ => ?_)
  refine q_aload_n rfl rfl ?_
  refine s_get (v := .ref 193) rfl o8 rfl rfl ?_
  refine q_aload_n rfl rfl ?_
  refine s_get (v := .int 2) rfl o8 rfl rfl ?_
  refine q_aload_n rfl rfl ?_
  refine s_get (v := .ref 192) rfl o8 rfl rfl ?_
  refine q_iload_n rfl rfl ?_
  have e192_8 := (f8.ne rfl (f7.ne rfl e192_6))
  refine s_iaload (j := 2) (v := .int 0) rfl e192_8 (by decide) rfl (by first | rfl | decide) ?_
  have e193_8 := (f8.ne rfl o7)
  refine s_iastore (j := 2) rfl e193_8 (by decide) rfl (fun h9 o9 f9 => ?_)
  have s9 := s8.put f9
  refine q_aload_n rfl rfl ?_
  refine q_dup rfl rfl ?_
  have e191_9 := (o8.ne f9 rfl)
  refine s_get (v := .int 2) rfl e191_9 rfl rfl ?_
  refine q_iconst rfl ?_
  refine s_iadd (k := 3) rfl (by decide) ?_
  refine s_put (vs' := [.int 0, .ref 192, .ref 193, .int 3, .ref 194, .ref 195, .ref 196, .ref 197, .ref 198, .ref 199, .ref 200, .ref 201, .ref 202, .ref 203, .ref 204, .ref 205, .int (-1), .int 0, .ref 206, .ref 207, .ref 208, .ref 209, .ref 210, .ref 211, .ref 212, .ref 213, .ref 214, .ref 215, .int 0, .int 0, .int 0, .int 0, .ref 216, .ref 217, .ref 218, .ref 219, .ref 220, .int (-1), .int 0, .int 0, .int 0, .int 0, .int 0, .int 0, .ref 221, .ref 222, .ref 223, .ref 224, .int 0, .ref 225, .int 0, .ref 226, .ref 227, .int 0, .ref 228, .ref 229, .ref 230, .ref 231, .ref 232]) rfl e191_9 rfl rfl rfl rfl (fun h10 o10 f10 => ?_)
  have s10 := s9.put f10
  refine s_iinc (y := 3) (lv' := [(2, .int 3), (0, .ref 191), (1, .int 19)]) rfl rfl (by decide) (by decide) rfl ?_
  refine q_goto rfl ?_
  refine q_iload_n rfl rfl ?_
  refine q_iload_n rfl rfl ?_
  refine q_icmp_ge rfl (fun c => absurd c (by decide)) (fun _ => ?_)
  refine q_aload_n rfl rfl ?_
  refine s_get (v := .ref 193) rfl o10 rfl rfl ?_
  refine q_aload_n rfl rfl ?_
  refine s_get (v := .int 3) rfl o10 rfl rfl ?_
  refine q_aload_n rfl rfl ?_
  refine s_get (v := .ref 192) rfl o10 rfl rfl ?_
  refine q_iload_n rfl rfl ?_
  have e192_10 := (f10.ne rfl (f9.ne rfl e192_8))
  refine s_iaload (j := 3) (v := .int 0) rfl e192_10 (by decide) rfl (by first | rfl | decide) ?_
  have e193_10 := (f10.ne rfl o9)
  refine s_iastore (j := 3) rfl e193_10 (by decide) rfl (fun h11 o11 f11 => ?_)
  have s11 := s10.put f11
  refine q_aload_n rfl rfl ?_
  refine q_dup rfl rfl ?_
  have e191_11 := (o10.ne f11 rfl)
  refine s_get (v := .int 3) rfl e191_11 rfl rfl ?_
  refine q_iconst rfl ?_
  refine s_iadd (k := 4) rfl (by decide) ?_
  refine s_put (vs' := [.int 0, .ref 192, .ref 193, .int 4, .ref 194, .ref 195, .ref 196, .ref 197, .ref 198, .ref 199, .ref 200, .ref 201, .ref 202, .ref 203, .ref 204, .ref 205, .int (-1), .int 0, .ref 206, .ref 207, .ref 208, .ref 209, .ref 210, .ref 211, .ref 212, .ref 213, .ref 214, .ref 215, .int 0, .int 0, .int 0, .int 0, .ref 216, .ref 217, .ref 218, .ref 219, .ref 220, .int (-1), .int 0, .int 0, .int 0, .int 0, .int 0, .int 0, .ref 221, .ref 222, .ref 223, .ref 224, .int 0, .ref 225, .int 0, .ref 226, .ref 227, .int 0, .ref 228, .ref 229, .ref 230, .ref 231, .ref 232]) rfl e191_11 rfl rfl rfl rfl (fun h12 o12 f12 => ?_)
  have s12 := s11.put f12
  refine s_iinc (y := 4) (lv' := [(2, .int 4), (0, .ref 191), (1, .int 19)]) rfl rfl (by decide) (by decide) rfl ?_
  refine q_goto rfl ?_
  refine q_iload_n rfl rfl ?_
  refine q_iload_n rfl rfl ?_
  refine q_icmp_ge rfl (fun c => absurd c (by decide)) (fun _ => ?_)
  refine q_aload_n rfl rfl ?_
  refine s_get (v := .ref 193) rfl o12 rfl rfl ?_
  refine q_aload_n rfl rfl ?_
  refine s_get (v := .int 4) rfl o12 rfl rfl ?_
  refine q_aload_n rfl rfl ?_
  refine s_get (v := .ref 192) rfl o12 rfl rfl ?_
  refine q_iload_n rfl rfl ?_
  have e192_12 := (f12.ne rfl (f11.ne rfl e192_10))
  refine s_iaload (j := 4) (v := .int 0) rfl e192_12 (by decide) rfl (by first | rfl | decide) ?_
  have e193_12 := (f12.ne rfl o11)
  refine s_iastore (j := 4) rfl e193_12 (by decide) rfl (fun h13 o13 f13 => ?_)
  have s13 := s12.put f13
  refine q_aload_n rfl rfl ?_
  refine q_dup rfl rfl ?_
  have e191_13 := (o12.ne f13 rfl)
  refine s_get (v := .int 4) rfl e191_13 rfl rfl ?_
  refine q_iconst rfl ?_
  refine s_iadd (k := 5) rfl (by decide) ?_
  refine s_put (vs' := [.int 0, .ref 192, .ref 193, .int 5, .ref 194, .ref 195, .ref 196, .ref 197, .ref 198, .ref 199, .ref 200, .ref 201, .ref 202, .ref 203, .ref 204, .ref 205, .int (-1), .int 0, .ref 206, .ref 207, .ref 208, .ref 209, .ref 210, .ref 211, .ref 212, .ref 213, .ref 214, .ref 215, .int 0, .int 0, .int 0, .int 0, .ref 216, .ref 217, .ref 218, .ref 219, .ref 220, .int (-1), .int 0, .int 0, .int 0, .int 0, .int 0, .int 0, .ref 221, .ref 222, .ref 223, .ref 224, .int 0, .ref 225, .int 0, .ref 226, .ref 227, .int 0, .ref 228, .ref 229, .ref 230, .ref 231, .ref 232]) rfl e191_13 rfl rfl rfl rfl (fun h14 o14 f14 => ?_)
  have s14 := s13.put f14
  refine s_iinc (y := 5) (lv' := [(2, .int 5), (0, .ref 191), (1, .int 19)]) rfl rfl (by decide) (by decide) rfl ?_
  refine q_goto rfl ?_
  refine q_iload_n rfl rfl ?_
  refine q_iload_n rfl rfl ?_
  refine q_icmp_ge rfl (fun c => absurd c (by decide)) (fun _ => ?_)
  refine q_aload_n rfl rfl ?_
  refine s_get (v := .ref 193) rfl o14 rfl rfl ?_
  refine q_aload_n rfl rfl ?_
  refine s_get (v := .int 5) rfl o14 rfl rfl ?_
  refine q_aload_n rfl rfl ?_
  refine s_get (v := .ref 192) rfl o14 rfl rfl ?_
  refine q_iload_n rfl rfl ?_
  have e192_14 := (f14.ne rfl (f13.ne rfl e192_12))
  refine s_iaload (j := 5) (v := .int 0) rfl e192_14 (by decide) rfl (by first | rfl | decide) ?_
  have e193_14 := (f14.ne rfl o13)
  refine s_iastore (j := 5) rfl e193_14 (by decide) rfl (fun h15 o15 f15 => ?_)
  have s15 := s14.put f15
  refine q_aload_n rfl rfl ?_
  refine q_dup rfl rfl ?_
  have e191_15 := (o14.ne f15 rfl)
  refine s_get (v := .int 5) rfl e191_15 rfl rfl ?_
  refine q_iconst rfl ?_
  refine s_iadd (k := 6) rfl (by decide) ?_
  refine s_put (vs' := [.int 0, .ref 192, .ref 193, .int 6, .ref 194, .ref 195, .ref 196, .ref 197, .ref 198, .ref 199, .ref 200, .ref 201, .ref 202, .ref 203, .ref 204, .ref 205, .int (-1), .int 0, .ref 206, .ref 207, .ref 208, .ref 209, .ref 210, .ref 211, .ref 212, .ref 213, .ref 214, .ref 215, .int 0, .int 0, .int 0, .int 0, .ref 216, .ref 217, .ref 218, .ref 219, .ref 220, .int (-1), .int 0, .int 0, .int 0, .int 0, .int 0, .int 0, .ref 221, .ref 222, .ref 223, .ref 224, .int 0, .ref 225, .int 0, .ref 226, .ref 227, .int 0, .ref 228, .ref 229, .ref 230, .ref 231, .ref 232]) rfl e191_15 rfl rfl rfl rfl (fun h16 o16 f16 => ?_)
  have s16 := s15.put f16
  refine s_iinc (y := 6) (lv' := [(2, .int 6), (0, .ref 191), (1, .int 19)]) rfl rfl (by decide) (by decide) rfl ?_
  refine q_goto rfl ?_
  refine q_iload_n rfl rfl ?_
  refine q_iload_n rfl rfl ?_
  refine q_icmp_ge rfl (fun c => absurd c (by decide)) (fun _ => ?_)
  refine q_aload_n rfl rfl ?_
  refine s_get (v := .ref 193) rfl o16 rfl rfl ?_
  refine q_aload_n rfl rfl ?_
  refine s_get (v := .int 6) rfl o16 rfl rfl ?_
  refine q_aload_n rfl rfl ?_
  refine s_get (v := .ref 192) rfl o16 rfl rfl ?_
  refine q_iload_n rfl rfl ?_
  have e192_16 := (f16.ne rfl (f15.ne rfl e192_14))
  refine s_iaload (j := 6) (v := .int 0) rfl e192_16 (by decide) rfl (by first | rfl | decide) ?_
  have e193_16 := (f16.ne rfl o15)
  refine s_iastore (j := 6) rfl e193_16 (by decide) rfl (fun h17 o17 f17 => ?_)
  have s17 := s16.put f17
  refine q_aload_n rfl rfl ?_
  refine q_dup rfl rfl ?_
  have e191_17 := (o16.ne f17 rfl)
  refine s_get (v := .int 6) rfl e191_17 rfl rfl ?_
  refine q_iconst rfl ?_
  refine s_iadd (k := 7) rfl (by decide) ?_
  refine s_put (vs' := [.int 0, .ref 192, .ref 193, .int 7, .ref 194, .ref 195, .ref 196, .ref 197, .ref 198, .ref 199, .ref 200, .ref 201, .ref 202, .ref 203, .ref 204, .ref 205, .int (-1), .int 0, .ref 206, .ref 207, .ref 208, .ref 209, .ref 210, .ref 211, .ref 212, .ref 213, .ref 214, .ref 215, .int 0, .int 0, .int 0, .int 0, .ref 216, .ref 217, .ref 218, .ref 219, .ref 220, .int (-1), .int 0, .int 0, .int 0, .int 0, .int 0, .int 0, .ref 221, .ref 222, .ref 223, .ref 224, .int 0, .ref 225, .int 0, .ref 226, .ref 227, .int 0, .ref 228, .ref 229, .ref 230, .ref 231, .ref 232]) rfl e191_17 rfl rfl rfl rfl (fun h18 o18 f18 => ?_)
  have s18 := s17.put f18
  refine s_iinc (y := 7) (lv' := [(2, .int 7), (0, .ref 191), (1, .int 19)]) rfl rfl (by decide) (by decide) rfl ?_
  refine q_goto rfl ?_
  refine q_iload_n rfl rfl ?_
  refine q_iload_n rfl rfl ?_
  refine q_icmp_ge rfl (fun c => absurd c (by decide)) (fun _ => ?_)
  refine q_aload_n rfl rfl ?_
  refine s_get (v := .ref 193) rfl o18 rfl rfl ?_
  refine q_aload_n rfl rfl ?_
  refine s_get (v := .int 7) rfl o18 rfl rfl ?_
  refine q_aload_n rfl rfl ?_
  refine s_get (v := .ref 192) rfl o18 rfl rfl ?_
  refine q_iload_n rfl rfl ?_
  have e192_18 := (f18.ne rfl (f17.ne rfl e192_16))
  refine s_iaload (j := 7) (v := .int 0) rfl e192_18 (by decide) rfl (by first | rfl | decide) ?_
  have e193_18 := (f18.ne rfl o17)
  refine s_iastore (j := 7) rfl e193_18 (by decide) rfl (fun h19 o19 f19 => ?_)
  have s19 := s18.put f19
  refine q_aload_n rfl rfl ?_
  refine q_dup rfl rfl ?_
  have e191_19 := (o18.ne f19 rfl)
  refine s_get (v := .int 7) rfl e191_19 rfl rfl ?_
  refine q_iconst rfl ?_
  refine s_iadd (k := 8) rfl (by decide) ?_
  refine s_put (vs' := [.int 0, .ref 192, .ref 193, .int 8, .ref 194, .ref 195, .ref 196, .ref 197, .ref 198, .ref 199, .ref 200, .ref 201, .ref 202, .ref 203, .ref 204, .ref 205, .int (-1), .int 0, .ref 206, .ref 207, .ref 208, .ref 209, .ref 210, .ref 211, .ref 212, .ref 213, .ref 214, .ref 215, .int 0, .int 0, .int 0, .int 0, .ref 216, .ref 217, .ref 218, .ref 219, .ref 220, .int (-1), .int 0, .int 0, .int 0, .int 0, .int 0, .int 0, .ref 221, .ref 222, .ref 223, .ref 224, .int 0, .ref 225, .int 0, .ref 226, .ref 227, .int 0, .ref 228, .ref 229, .ref 230, .ref 231, .ref 232]) rfl e191_19 rfl rfl rfl rfl (fun h20 o20 f20 => ?_)
  have s20 := s19.put f20
  refine s_iinc (y := 8) (lv' := [(2, .int 8), (0, .ref 191), (1, .int 19)]) rfl rfl (by decide) (by decide) rfl ?_
  refine q_goto rfl ?_
  refine q_iload_n rfl rfl ?_
  refine q_iload_n rfl rfl ?_
  refine q_icmp_ge rfl (fun c => absurd c (by decide)) (fun _ => ?_)
  refine q_aload_n rfl rfl ?_
  refine s_get (v := .ref 193) rfl o20 rfl rfl ?_
  refine q_aload_n rfl rfl ?_
  refine s_get (v := .int 8) rfl o20 rfl rfl ?_
  refine q_aload_n rfl rfl ?_
  refine s_get (v := .ref 192) rfl o20 rfl rfl ?_
  refine q_iload_n rfl rfl ?_
  have e192_20 := (f20.ne rfl (f19.ne rfl e192_18))
  refine s_iaload (j := 8) (v := .int 0) rfl e192_20 (by decide) rfl (by first | rfl | decide) ?_
  have e193_20 := (f20.ne rfl o19)
  refine s_iastore (j := 8) rfl e193_20 (by decide) rfl (fun h21 o21 f21 => ?_)
  have s21 := s20.put f21
  refine q_aload_n rfl rfl ?_
  refine q_dup rfl rfl ?_
  have e191_21 := (o20.ne f21 rfl)
  refine s_get (v := .int 8) rfl e191_21 rfl rfl ?_
  refine q_iconst rfl ?_
  refine s_iadd (k := 9) rfl (by decide) ?_
  refine s_put (vs' := [.int 0, .ref 192, .ref 193, .int 9, .ref 194, .ref 195, .ref 196, .ref 197, .ref 198, .ref 199, .ref 200, .ref 201, .ref 202, .ref 203, .ref 204, .ref 205, .int (-1), .int 0, .ref 206, .ref 207, .ref 208, .ref 209, .ref 210, .ref 211, .ref 212, .ref 213, .ref 214, .ref 215, .int 0, .int 0, .int 0, .int 0, .ref 216, .ref 217, .ref 218, .ref 219, .ref 220, .int (-1), .int 0, .int 0, .int 0, .int 0, .int 0, .int 0, .ref 221, .ref 222, .ref 223, .ref 224, .int 0, .ref 225, .int 0, .ref 226, .ref 227, .int 0, .ref 228, .ref 229, .ref 230, .ref 231, .ref 232]) rfl e191_21 rfl rfl rfl rfl (fun h22 o22 f22 => ?_)
  have s22 := s21.put f22
  refine s_iinc (y := 9) (lv' := [(2, .int 9), (0, .ref 191), (1, .int 19)]) rfl rfl (by decide) (by decide) rfl ?_
  refine q_goto rfl ?_
  refine q_iload_n rfl rfl ?_
  refine q_iload_n rfl rfl ?_
  refine q_icmp_ge rfl (fun c => absurd c (by decide)) (fun _ => ?_)
  refine q_aload_n rfl rfl ?_
  refine s_get (v := .ref 193) rfl o22 rfl rfl ?_
  refine q_aload_n rfl rfl ?_
  refine s_get (v := .int 9) rfl o22 rfl rfl ?_
  refine q_aload_n rfl rfl ?_
  refine s_get (v := .ref 192) rfl o22 rfl rfl ?_
  refine q_iload_n rfl rfl ?_
  have e192_22 := (f22.ne rfl (f21.ne rfl e192_20))
  refine s_iaload (j := 9) (v := .int 0) rfl e192_22 (by decide) rfl (by first | rfl | decide) ?_
  have e193_22 := (f22.ne rfl o21)
  refine s_iastore (j := 9) rfl e193_22 (by decide) rfl (fun h23 o23 f23 => ?_)
  have s23 := s22.put f23
  refine q_aload_n rfl rfl ?_
  refine q_dup rfl rfl ?_
  have e191_23 := (o22.ne f23 rfl)
  refine s_get (v := .int 9) rfl e191_23 rfl rfl ?_
  refine q_iconst rfl ?_
  refine s_iadd (k := 10) rfl (by decide) ?_
  refine s_put (vs' := [.int 0, .ref 192, .ref 193, .int 10, .ref 194, .ref 195, .ref 196, .ref 197, .ref 198, .ref 199, .ref 200, .ref 201, .ref 202, .ref 203, .ref 204, .ref 205, .int (-1), .int 0, .ref 206, .ref 207, .ref 208, .ref 209, .ref 210, .ref 211, .ref 212, .ref 213, .ref 214, .ref 215, .int 0, .int 0, .int 0, .int 0, .ref 216, .ref 217, .ref 218, .ref 219, .ref 220, .int (-1), .int 0, .int 0, .int 0, .int 0, .int 0, .int 0, .ref 221, .ref 222, .ref 223, .ref 224, .int 0, .ref 225, .int 0, .ref 226, .ref 227, .int 0, .ref 228, .ref 229, .ref 230, .ref 231, .ref 232]) rfl e191_23 rfl rfl rfl rfl (fun h24 o24 f24 => ?_)
  have s24 := s23.put f24
  refine s_iinc (y := 10) (lv' := [(2, .int 10), (0, .ref 191), (1, .int 19)]) rfl rfl (by decide) (by decide) rfl ?_
  refine q_goto rfl ?_
  refine q_iload_n rfl rfl ?_
  refine q_iload_n rfl rfl ?_
  refine q_icmp_ge rfl (fun c => absurd c (by decide)) (fun _ => ?_)
  refine q_aload_n rfl rfl ?_
  refine s_get (v := .ref 193) rfl o24 rfl rfl ?_
  refine q_aload_n rfl rfl ?_
  refine s_get (v := .int 10) rfl o24 rfl rfl ?_
  refine q_aload_n rfl rfl ?_
  refine s_get (v := .ref 192) rfl o24 rfl rfl ?_
  refine q_iload_n rfl rfl ?_
  have e192_24 := (f24.ne rfl (f23.ne rfl e192_22))
  refine s_iaload (j := 10) (v := .int 0) rfl e192_24 (by decide) rfl (by first | rfl | decide) ?_
  have e193_24 := (f24.ne rfl o23)
  refine s_iastore (j := 10) rfl e193_24 (by decide) rfl (fun h25 o25 f25 => ?_)
  have s25 := s24.put f25
  refine q_aload_n rfl rfl ?_
  refine q_dup rfl rfl ?_
  have e191_25 := (o24.ne f25 rfl)
  refine s_get (v := .int 10) rfl e191_25 rfl rfl ?_
  refine q_iconst rfl ?_
  refine s_iadd (k := 11) rfl (by decide) ?_
  refine s_put (vs' := [.int 0, .ref 192, .ref 193, .int 11, .ref 194, .ref 195, .ref 196, .ref 197, .ref 198, .ref 199, .ref 200, .ref 201, .ref 202, .ref 203, .ref 204, .ref 205, .int (-1), .int 0, .ref 206, .ref 207, .ref 208, .ref 209, .ref 210, .ref 211, .ref 212, .ref 213, .ref 214, .ref 215, .int 0, .int 0, .int 0, .int 0, .ref 216, .ref 217, .ref 218, .ref 219, .ref 220, .int (-1), .int 0, .int 0, .int 0, .int 0, .int 0, .int 0, .ref 221, .ref 222, .ref 223, .ref 224, .int 0, .ref 225, .int 0, .ref 226, .ref 227, .int 0, .ref 228, .ref 229, .ref 230, .ref 231, .ref 232]) rfl e191_25 rfl rfl rfl rfl (fun h26 o26 f26 => ?_)
  have s26 := s25.put f26
  refine s_iinc (y := 11) (lv' := [(2, .int 11), (0, .ref 191), (1, .int 19)]) rfl rfl (by decide) (by decide) rfl ?_
  refine q_goto rfl ?_
  refine q_iload_n rfl rfl ?_
  refine q_iload_n rfl rfl ?_
  refine q_icmp_ge rfl (fun c => absurd c (by decide)) (fun _ => ?_)
  refine q_aload_n rfl rfl ?_
  refine s_get (v := .ref 193) rfl o26 rfl rfl ?_
  refine q_aload_n rfl rfl ?_
  refine s_get (v := .int 11) rfl o26 rfl rfl ?_
  refine q_aload_n rfl rfl ?_
  refine s_get (v := .ref 192) rfl o26 rfl rfl ?_
  refine q_iload_n rfl rfl ?_
  have e192_26 := (f26.ne rfl (f25.ne rfl e192_24))
  refine s_iaload (j := 11) (v := .int 0) rfl e192_26 (by decide) rfl (by first | rfl | decide) ?_
  have e193_26 := (f26.ne rfl o25)
  refine s_iastore (j := 11) rfl e193_26 (by decide) rfl (fun h27 o27 f27 => ?_)
  have s27 := s26.put f27
  refine q_aload_n rfl rfl ?_
  refine q_dup rfl rfl ?_
  have e191_27 := (o26.ne f27 rfl)
  refine s_get (v := .int 11) rfl e191_27 rfl rfl ?_
  refine q_iconst rfl ?_
  refine s_iadd (k := 12) rfl (by decide) ?_
  refine s_put (vs' := [.int 0, .ref 192, .ref 193, .int 12, .ref 194, .ref 195, .ref 196, .ref 197, .ref 198, .ref 199, .ref 200, .ref 201, .ref 202, .ref 203, .ref 204, .ref 205, .int (-1), .int 0, .ref 206, .ref 207, .ref 208, .ref 209, .ref 210, .ref 211, .ref 212, .ref 213, .ref 214, .ref 215, .int 0, .int 0, .int 0, .int 0, .ref 216, .ref 217, .ref 218, .ref 219, .ref 220, .int (-1), .int 0, .int 0, .int 0, .int 0, .int 0, .int 0, .ref 221, .ref 222, .ref 223, .ref 224, .int 0, .ref 225, .int 0, .ref 226, .ref 227, .int 0, .ref 228, .ref 229, .ref 230, .ref 231, .ref 232]) rfl e191_27 rfl rfl rfl rfl (fun h28 o28 f28 => ?_)
  have s28 := s27.put f28
  refine s_iinc (y := 12) (lv' := [(2, .int 12), (0, .ref 191), (1, .int 19)]) rfl rfl (by decide) (by decide) rfl ?_
  refine q_goto rfl ?_
  refine q_iload_n rfl rfl ?_
  refine q_iload_n rfl rfl ?_
  refine q_icmp_ge rfl (fun c => absurd c (by decide)) (fun _ => ?_)
  refine q_aload_n rfl rfl ?_
  refine s_get (v := .ref 193) rfl o28 rfl rfl ?_
  refine q_aload_n rfl rfl ?_
  refine s_get (v := .int 12) rfl o28 rfl rfl ?_
  refine q_aload_n rfl rfl ?_
  refine s_get (v := .ref 192) rfl o28 rfl rfl ?_
  refine q_iload_n rfl rfl ?_
  have e192_28 := (f28.ne rfl (f27.ne rfl e192_26))
  refine s_iaload (j := 12) (v := .int 0) rfl e192_28 (by decide) rfl (by first | rfl | decide) ?_
  have e193_28 := (f28.ne rfl o27)
  refine s_iastore (j := 12) rfl e193_28 (by decide) rfl (fun h29 o29 f29 => ?_)
  have s29 := s28.put f29
  refine q_aload_n rfl rfl ?_
  refine q_dup rfl rfl ?_
  have e191_29 := (o28.ne f29 rfl)
  refine s_get (v := .int 12) rfl e191_29 rfl rfl ?_
  refine q_iconst rfl ?_
  refine s_iadd (k := 13) rfl (by decide) ?_
  refine s_put (vs' := [.int 0, .ref 192, .ref 193, .int 13, .ref 194, .ref 195, .ref 196, .ref 197, .ref 198, .ref 199, .ref 200, .ref 201, .ref 202, .ref 203, .ref 204, .ref 205, .int (-1), .int 0, .ref 206, .ref 207, .ref 208, .ref 209, .ref 210, .ref 211, .ref 212, .ref 213, .ref 214, .ref 215, .int 0, .int 0, .int 0, .int 0, .ref 216, .ref 217, .ref 218, .ref 219, .ref 220, .int (-1), .int 0, .int 0, .int 0, .int 0, .int 0, .int 0, .ref 221, .ref 222, .ref 223, .ref 224, .int 0, .ref 225, .int 0, .ref 226, .ref 227, .int 0, .ref 228, .ref 229, .ref 230, .ref 231, .ref 232]) rfl e191_29 rfl rfl rfl rfl (fun h30 o30 f30 => ?_)
  have s30 := s29.put f30
  refine s_iinc (y := 13) (lv' := [(2, .int 13), (0, .ref 191), (1, .int 19)]) rfl rfl (by decide) (by decide) rfl ?_
  refine q_goto rfl ?_
  refine q_iload_n rfl rfl ?_
  refine q_iload_n rfl rfl ?_
  refine q_icmp_ge rfl (fun c => absurd c (by decide)) (fun _ => ?_)
  refine q_aload_n rfl rfl ?_
  refine s_get (v := .ref 193) rfl o30 rfl rfl ?_
  refine q_aload_n rfl rfl ?_
  refine s_get (v := .int 13) rfl o30 rfl rfl ?_
  refine q_aload_n rfl rfl ?_
  refine s_get (v := .ref 192) rfl o30 rfl rfl ?_
  refine q_iload_n rfl rfl ?_
  have e192_30 := (f30.ne rfl (f29.ne rfl e192_28))
  refine s_iaload (j := 13) (v := .int 0) rfl e192_30 (by decide) rfl (by first | rfl | decide) ?_
  have e193_30 := (f30.ne rfl o29)
  refine s_iastore (j := 13) rfl e193_30 (by decide) rfl (fun h31 o31 f31 => ?_)
  have s31 := s30.put f31
  refine q_aload_n rfl rfl ?_
  refine q_dup rfl rfl ?_
  have e191_31 := (o30.ne f31 rfl)
  refine s_get (v := .int 13) rfl e191_31 rfl rfl ?_
  refine q_iconst rfl ?_
  refine s_iadd (k := 14) rfl (by decide) ?_
  refine s_put (vs' := [.int 0, .ref 192, .ref 193, .int 14, .ref 194, .ref 195, .ref 196, .ref 197, .ref 198, .ref 199, .ref 200, .ref 201, .ref 202, .ref 203, .ref 204, .ref 205, .int (-1), .int 0, .ref 206, .ref 207, .ref 208, .ref 209, .ref 210, .ref 211, .ref 212, .ref 213, .ref 214, .ref 215, .int 0, .int 0, .int 0, .int 0, .ref 216, .ref 217, .ref 218, .ref 219, .ref 220, .int (-1), .int 0, .int 0, .int 0, .int 0, .int 0, .int 0, .ref 221, .ref 222, .ref 223, .ref 224, .int 0, .ref 225, .int 0, .ref 226, .ref 227, .int 0, .ref 228, .ref 229, .ref 230, .ref 231, .ref 232]) rfl e191_31 rfl rfl rfl rfl (fun h32 o32 f32 => ?_)
  have s32 := s31.put f32
  refine s_iinc (y := 14) (lv' := [(2, .int 14), (0, .ref 191), (1, .int 19)]) rfl rfl (by decide) (by decide) rfl ?_
  refine q_goto rfl ?_
  refine q_iload_n rfl rfl ?_
  refine q_iload_n rfl rfl ?_
  refine q_icmp_ge rfl (fun c => absurd c (by decide)) (fun _ => ?_)
  refine q_aload_n rfl rfl ?_
  refine s_get (v := .ref 193) rfl o32 rfl rfl ?_
  refine q_aload_n rfl rfl ?_
  refine s_get (v := .int 14) rfl o32 rfl rfl ?_
  refine q_aload_n rfl rfl ?_
  refine s_get (v := .ref 192) rfl o32 rfl rfl ?_
  refine q_iload_n rfl rfl ?_
  have e192_32 := (f32.ne rfl (f31.ne rfl e192_30))
  refine s_iaload (j := 14) (v := .int 0) rfl e192_32 (by decide) rfl (by first | rfl | decide) ?_
  have e193_32 := (f32.ne rfl o31)
  refine s_iastore (j := 14) rfl e193_32 (by decide) rfl (fun h33 o33 f33 => ?_)
  have s33 := s32.put f33
  refine q_aload_n rfl rfl ?_
  refine q_dup rfl rfl ?_
  have e191_33 := (o32.ne f33 rfl)
  refine s_get (v := .int 14) rfl e191_33 rfl rfl ?_
  refine q_iconst rfl ?_
  refine s_iadd (k := 15) rfl (by decide) ?_
  refine s_put (vs' := [.int 0, .ref 192, .ref 193, .int 15, .ref 194, .ref 195, .ref 196, .ref 197, .ref 198, .ref 199, .ref 200, .ref 201, .ref 202, .ref 203, .ref 204, .ref 205, .int (-1), .int 0, .ref 206, .ref 207, .ref 208, .ref 209, .ref 210, .ref 211, .ref 212, .ref 213, .ref 214, .ref 215, .int 0, .int 0, .int 0, .int 0, .ref 216, .ref 217, .ref 218, .ref 219, .ref 220, .int (-1), .int 0, .int 0, .int 0, .int 0, .int 0, .int 0, .ref 221, .ref 222, .ref 223, .ref 224, .int 0, .ref 225, .int 0, .ref 226, .ref 227, .int 0, .ref 228, .ref 229, .ref 230, .ref 231, .ref 232]) rfl e191_33 rfl rfl rfl rfl (fun h34 o34 f34 => ?_)
  have s34 := s33.put f34
  refine s_iinc (y := 15) (lv' := [(2, .int 15), (0, .ref 191), (1, .int 19)]) rfl rfl (by decide) (by decide) rfl ?_
  refine q_goto rfl ?_
  refine q_iload_n rfl rfl ?_
  refine q_iload_n rfl rfl ?_
  refine q_icmp_ge rfl (fun c => absurd c (by decide)) (fun _ => ?_)
  refine q_aload_n rfl rfl ?_
  refine s_get (v := .ref 193) rfl o34 rfl rfl ?_
  refine q_aload_n rfl rfl ?_
  refine s_get (v := .int 15) rfl o34 rfl rfl ?_
  refine q_aload_n rfl rfl ?_
  refine s_get (v := .ref 192) rfl o34 rfl rfl ?_
  refine q_iload_n rfl rfl ?_
  have e192_34 := (f34.ne rfl (f33.ne rfl e192_32))
  refine s_iaload (j := 15) (v := .int 0) rfl e192_34 (by decide) rfl (by first | rfl | decide) ?_
  have e193_34 := (f34.ne rfl o33)
  refine s_iastore (j := 15) rfl e193_34 (by decide) rfl (fun h35 o35 f35 => ?_)
  have s35 := s34.put f35
  refine q_aload_n rfl rfl ?_
  refine q_dup rfl rfl ?_
  have e191_35 := (o34.ne f35 rfl)
  refine s_get (v := .int 15) rfl e191_35 rfl rfl ?_
  refine q_iconst rfl ?_
  refine s_iadd (k := 16) rfl (by decide) ?_
  refine s_put (vs' := [.int 0, .ref 192, .ref 193, .int 16, .ref 194, .ref 195, .ref 196, .ref 197, .ref 198, .ref 199, .ref 200, .ref 201, .ref 202, .ref 203, .ref 204, .ref 205, .int (-1), .int 0, .ref 206, .ref 207, .ref 208, .ref 209, .ref 210, .ref 211, .ref 212, .ref 213, .ref 214, .ref 215, .int 0, .int 0, .int 0, .int 0, .ref 216, .ref 217, .ref 218, .ref 219, .ref 220, .int (-1), .int 0, .int 0, .int 0, .int 0, .int 0, .int 0, .ref 221, .ref 222, .ref 223, .ref 224, .int 0, .ref 225, .int 0, .ref 226, .ref 227, .int 0, .ref 228, .ref 229, .ref 230, .ref 231, .ref 232]) rfl e191_35 rfl rfl rfl rfl (fun h36 o36 f36 => ?_)
  have s36 := s35.put f36
  refine s_iinc (y := 16) (lv' := [(2, .int 16), (0, .ref 191), (1, .int 19)]) rfl rfl (by decide) (by decide) rfl ?_
  refine q_goto rfl ?_
  refine q_iload_n rfl rfl ?_
  refine q_iload_n rfl rfl ?_
  refine q_icmp_ge rfl (fun c => absurd c (by decide)) (fun _ => ?_)
  refine q_aload_n rfl rfl ?_
  refine s_get (v := .ref 193) rfl o36 rfl rfl ?_
  refine q_aload_n rfl rfl ?_
  refine s_get (v := .int 16) rfl o36 rfl rfl ?_
  refine q_aload_n rfl rfl ?_
  refine s_get (v := .ref 192) rfl o36 rfl rfl ?_
  refine q_iload_n rfl rfl ?_
  have e192_36 := (f36.ne rfl (f35.ne rfl e192_34))
  refine s_iaload (j := 16) (v := .int 0) rfl e192_36 (by decide) rfl (by first | rfl | decide) ?_
  have e193_36 := (f36.ne rfl o35)
  refine s_iastore (j := 16) rfl e193_36 (by decide) rfl (fun h37 o37 f37 => ?_)
  have s37 := s36.put f37
  refine q_aload_n rfl rfl ?_
  refine q_dup rfl rfl ?_
  have e191_37 := (o36.ne f37 rfl)
  refine s_get (v := .int 16) rfl e191_37 rfl rfl ?_
  refine q_iconst rfl ?_
  refine s_iadd (k := 17) rfl (by decide) ?_
  refine s_put (vs' := [.int 0, .ref 192, .ref 193, .int 17, .ref 194, .ref 195, .ref 196, .ref 197, .ref 198, .ref 199, .ref 200, .ref 201, .ref 202, .ref 203, .ref 204, .ref 205, .int (-1), .int 0, .ref 206, .ref 207, .ref 208, .ref 209, .ref 210, .ref 211, .ref 212, .ref 213, .ref 214, .ref 215, .int 0, .int 0, .int 0, .int 0, .ref 216, .ref 217, .ref 218, .ref 219, .ref 220, .int (-1), .int 0, .int 0, .int 0, .int 0, .int 0, .int 0, .ref 221, .ref 222, .ref 223, .ref 224, .int 0, .ref 225, .int 0, .ref 226, .ref 227, .int 0, .ref 228, .ref 229, .ref 230, .ref 231, .ref 232]) rfl e191_37 rfl rfl rfl rfl (fun h38 o38 f38 => ?_)
  have s38 := s37.put f38
  refine s_iinc (y := 17) (lv' := [(2, .int 17), (0, .ref 191), (1, .int 19)]) rfl rfl (by decide) (by decide) rfl ?_
  refine q_goto rfl ?_
  refine q_iload_n rfl rfl ?_
  refine q_iload_n rfl rfl ?_
  refine q_icmp_ge rfl (fun c => absurd c (by decide)) (fun _ => ?_)
  refine q_aload_n rfl rfl ?_
  refine s_get (v := .ref 193) rfl o38 rfl rfl ?_
  refine q_aload_n rfl rfl ?_
  refine s_get (v := .int 17) rfl o38 rfl rfl ?_
  refine q_aload_n rfl rfl ?_
  refine s_get (v := .ref 192) rfl o38 rfl rfl ?_
  refine q_iload_n rfl rfl ?_
  have e192_38 := (f38.ne rfl (f37.ne rfl e192_36))
  refine s_iaload (j := 17) (v := .int 0) rfl e192_38 (by decide) rfl (by first | rfl | decide) ?_
  have e193_38 := (f38.ne rfl o37)
  refine s_iastore (j := 17) rfl e193_38 (by decide) rfl (fun h39 o39 f39 => ?_)
  have s39 := s38.put f39
  refine q_aload_n rfl rfl ?_
  refine q_dup rfl rfl ?_
  have e191_39 := (o38.ne f39 rfl)
  refine s_get (v := .int 17) rfl e191_39 rfl rfl ?_
  refine q_iconst rfl ?_
  refine s_iadd (k := 18) rfl (by decide) ?_
  refine s_put (vs' := [.int 0, .ref 192, .ref 193, .int 18, .ref 194, .ref 195, .ref 196, .ref 197, .ref 198, .ref 199, .ref 200, .ref 201, .ref 202, .ref 203, .ref 204, .ref 205, .int (-1), .int 0, .ref 206, .ref 207, .ref 208, .ref 209, .ref 210, .ref 211, .ref 212, .ref 213, .ref 214, .ref 215, .int 0, .int 0, .int 0, .int 0, .ref 216, .ref 217, .ref 218, .ref 219, .ref 220, .int (-1), .int 0, .int 0, .int 0, .int 0, .int 0, .int 0, .ref 221, .ref 222, .ref 223, .ref 224, .int 0, .ref 225, .int 0, .ref 226, .ref 227, .int 0, .ref 228, .ref 229, .ref 230, .ref 231, .ref 232]) rfl e191_39 rfl rfl rfl rfl (fun h40 o40 f40 => ?_)
  have s40 := s39.put f40
  refine s_iinc (y := 18) (lv' := [(2, .int 18), (0, .ref 191), (1, .int 19)]) rfl rfl (by decide) (by decide) rfl ?_
  refine q_goto rfl ?_
  refine q_iload_n rfl rfl ?_
  refine q_iload_n rfl rfl ?_
  refine q_icmp_ge rfl (fun c => absurd c (by decide)) (fun _ => ?_)
  refine q_aload_n rfl rfl ?_
  refine s_get (v := .ref 193) rfl o40 rfl rfl ?_
  refine q_aload_n rfl rfl ?_
  refine s_get (v := .int 18) rfl o40 rfl rfl ?_
  refine q_aload_n rfl rfl ?_
  refine s_get (v := .ref 192) rfl o40 rfl rfl ?_
  refine q_iload_n rfl rfl ?_
  have e192_40 := (f40.ne rfl (f39.ne rfl e192_38))
  refine s_iaload (j := 18) (v := .int 0) rfl e192_40 (by decide) rfl (by first | rfl | decide) ?_
  have e193_40 := (f40.ne rfl o39)
  refine s_iastore (j := 18) rfl e193_40 (by decide) rfl (fun h41 o41 f41 => ?_)
  have s41 := s40.put f41
  refine q_aload_n rfl rfl ?_
  refine q_dup rfl rfl ?_
  have e191_41 := (o40.ne f41 rfl)
  refine s_get (v := .int 18) rfl e191_41 rfl rfl ?_
  refine q_iconst rfl ?_
  refine s_iadd (k := 19) rfl (by decide) ?_
  refine s_put (vs' := [.int 0, .ref 192, .ref 193, .int 19, .ref 194, .ref 195, .ref 196, .ref 197, .ref 198, .ref 199, .ref 200, .ref 201, .ref 202, .ref 203, .ref 204, .ref 205, .int (-1), .int 0, .ref 206, .ref 207, .ref 208, .ref 209, .ref 210, .ref 211, .ref 212, .ref 213, .ref 214, .ref 215, .int 0, .int 0, .int 0, .int 0, .ref 216, .ref 217, .ref 218, .ref 219, .ref 220, .int (-1), .int 0, .int 0, .int 0, .int 0, .int 0, .int 0, .ref 221, .ref 222, .ref 223, .ref 224, .int 0, .ref 225, .int 0, .ref 226, .ref 227, .int 0, .ref 228, .ref 229, .ref 230, .ref 231, .ref 232]) rfl e191_41 rfl rfl rfl rfl (fun h42 o42 f42 => ?_)
  have s42 := s41.put f42
  refine s_iinc (y := 19) (lv' := [(2, .int 19), (0, .ref 191), (1, .int 19)]) rfl rfl (by decide) (by decide) rfl ?_
  refine q_goto rfl ?_
  refine q_iload_n rfl rfl ?_
  refine q_iload_n rfl rfl ?_
  refine q_icmp_ge rfl (fun _ => ?_) (fun c => absurd (by decide) c)
  refine q_iconst rfl ?_
  refine s_istore_n (lv' := [(2, .int 0), (0, .ref 191), (1, .int 19)]) rfl (by decide) rfl ?_
  have e192_42 := (f42.ne rfl (f41.ne rfl e192_40))
  refine en_loop (m := 191) (a := 192) rfl rfl (by decide) (by decide) 20 0 h42 _ rfl o42 e192_42 (fun h43 f43 => ?_)
  have s43 := s42.put f43
  show aW aiP 217 16 636 88 [(2, .int 20), (0, .ref 191), (1, .int 19)] [] h43 _
  refine q_aload_n rfl rfl ?_
  have e191_43 := (o42.ne f43 rfl)
  refine s_get (v := .int 19) rfl e191_43 rfl rfl ?_
  refine q_ireturn rfl rfl ?_
  show aW aiP 0 17 658 243 [(4, .int 0), (3, .ref 233), (2, .ref 191), (1, .ref 6), (0, .ref 0)] [.int 19, .int 19] h43 _
  refine q_icmp_eq rfl (fun _ => ?_) (fun c => absurd (by decide) c)
  refine s_iinc (y := 6) (lv' := [(4, .int 6), (3, .ref 233), (2, .ref 191), (1, .ref 6), (0, .ref 0)]) rfl rfl (by decide) (by decide) rfl ?_
  refine q_goto rfl ?_
  refine q_iload rfl rfl ?_
  refine q_aload_n rfl rfl ?_
  have e0_43 := (f43.ne rfl (f42.ne rfl (f41.ne rfl (f40.ne rfl (f39.ne rfl (f38.ne rfl (f37.ne rfl (f36.ne rfl (f35.ne rfl (f34.ne rfl (f33.ne rfl (f32.ne rfl (f31.ne rfl (f30.ne rfl (f29.ne rfl (f28.ne rfl (f27.ne rfl (f26.ne rfl (f25.ne rfl (f24.ne rfl (f23.ne rfl (f22.ne rfl (f21.ne rfl (f20.ne rfl (f19.ne rfl (f18.ne rfl (f17.ne rfl (f16.ne rfl (f15.ne rfl (f14.ne rfl (f13.ne rfl (f12.ne rfl (f11.ne rfl (f10.ne rfl (f9.ne rfl (f8.ne rfl (f7.ne rfl (f6.ne rfl (f5.ne rfl (f4.ne rfl e0_3))))))))))))))))))))))))))))))))))))))))
  refine s_alen (x := 6) rfl e0_43 rfl (by decide) ?_
  refine q_bipush rfl ?_
  refine s_isub (k := 0) rfl (by decide) ?_
  refine q_icmp_gt rfl (fun _ => ?_) (fun c => absurd (by decide) c)
  refine q_iconst rfl ?_
  refine q_ireturn rfl rfl ?_
  exact ⟨rfl, s43.bd rfl⟩
set_option maxRecDepth 20000 in
set_option maxHeartbeats 4000000 in
theorem p_case1_20 {xs : Nat → Int32} {h : ai_H} (F : Fresh 6 xs h) (hk : xs 0 &&& 31 = 1) (hw : xs 1 = 20) : aW aiP 0 17 658 33 [(4, .int 0), (3, .ref 233), (2, .ref 191), (1, .ref 6), (0, .ref 0)] [] h p_Q := by
  have s0 := F.2.2.2.2.2.2.2.2.2.2.2.2.2.2.2.2.2.2.2.2.2.2.2.2.2.2.2.2.2.2.2.2.2.2.2.2.2.2.2.2.2.2.2.2.2.2.2.2.2.2.2.2.2.2.2.2.2.2.2.2.2.2.2.2.2.2.2.2.2.2
  refine q_aload_n rfl rfl ?_
  refine q_iload rfl rfl ?_
  have e0 := F.1
  refine s_iaload (j := 0) (v := .int (xs 0)) rfl e0 (by decide) rfl (by first | rfl | decide) ?_
  refine q_bipush rfl ?_
  refine s_iand (k := ((xs 0) &&& (31 : Int32))) rfl rfl ?_
  rw [hk]
  show aW aiP 0 17 658 40 [(4, .int 0), (3, .ref 233), (2, .ref 191), (1, .ref 6), (0, .ref 0)] [.int 1] h _
  refine s_sw (tg := 223) rfl rfl ?_
  refine q_aload_n rfl rfl ?_
  refine q_aload_n rfl rfl ?_
  refine q_iload rfl rfl ?_
  refine q_iconst rfl ?_
  refine s_iadd (k := 1) rfl (by decide) ?_
  refine s_iaload (j := 1) (v := .int (xs 1)) rfl e0 (by decide) rfl (by first | rfl | decide) ?_
  rw [hw]
  have e6 := F.2.2.2.2.2.2.1
  refine s_callV (as := [.int 20]) (rest := []) (d' := 16) (w' := 637) (lv' := [(0, .ref 6), (1, .int 20)]) rfl e6 rfl rfl rfl rfl rfl rfl ?_
  refine q_iload_n rfl rfl ?_
  refine q_if_lt rfl (fun c => absurd c (by decide)) (fun _ => ?_)
  refine q_iload_n rfl rfl ?_
  refine q_bipush rfl ?_
  refine q_icmp_gt rfl (fun c => absurd c (by decide)) (fun _ => ?_)
  refine q_aload_n rfl rfl ?_
  refine s_get (v := .int 0) rfl e6 rfl rfl ?_
  refine q_iload_n rfl rfl ?_
  refine s_iadd (k := 20) rfl (by decide) ?_
  refine q_sipush rfl ?_
  refine q_icmp_le rfl (fun _ => ?_) (fun c => absurd (by decide) c)
  refine q_aload_n rfl rfl ?_
  refine s_get (v := .ref 7) rfl e6 rfl rfl ?_
  refine q_iconst rfl ?_
  refine q_aload_n rfl rfl ?_
  refine s_get (v := .ref 8) rfl e6 rfl rfl ?_
  refine q_aload_n rfl rfl ?_
  refine s_get (v := .int 0) rfl e6 rfl rfl ?_
  refine q_iload_n rfl rfl ?_
  have e7 := F.2.2.2.2.2.2.2.1
  have e8 := F.2.2.2.2.2.2.2.2.1
  refine s_copy (sp := 0) (dp := 0) (k := 20) rfl e7 e8 (by decide) (by decide) (by decide) rfl (by decide) (by decide) (by decide) (fun i _ => rfl) (fun h1 o1 f1 => ?_)
  have s1 := s0.put f1
  refine q_aload_n rfl rfl ?_
  refine q_dup rfl rfl ?_
  have e6_1 := (e6.ne f1 rfl)
  refine s_get (v := .int 0) rfl e6_1 rfl rfl ?_
  refine q_iload_n rfl rfl ?_
  refine s_iadd (k := 20) rfl (by decide) ?_
  refine s_put (vs' := [.ref 7, .ref 8, .int 20, .ref 9, .int (-1), .ref 51, .ref 93, .ref 135, .ref 177, .ref 180, .int 0, .ref 183, .ref 186, .ref 189]) rfl e6_1 rfl rfl rfl rfl (fun h2 o2 f2 => ?_)
  have s2 := s1.put f2
  refine q_aload_n rfl rfl ?_
  refine s_get (v := .ref 7) rfl o2 rfl rfl ?_
  refine q_iconst rfl ?_
  refine s_callS (as := [.ref 7, .int 0]) (rest := []) (d' := 15) (w' := 614) (lv' := [(0, .ref 7), (1, .int 0)]) rfl rfl rfl rfl rfl rfl rfl rfl ?_
  refine q_iconst rfl ?_
  refine s_istore_n (lv' := [(2, .int 0), (0, .ref 7), (1, .int 0)]) rfl (by decide) rfl ?_
  refine q_aload_n rfl rfl ?_
  have e7_2 := (f2.ne rfl (f1.ne rfl e7))
  refine s_alen (x := 20) rfl e7_2 rfl (by decide) ?_
  refine s_istore_n (lv' := [(3, .int 20), (2, .int 0), (0, .ref 7), (1, .int 0)]) rfl (by decide) rfl ?_
  refine aW_lv (l := [(2, .int (nI 0)), (3, .int 20), (0, .ref 7), (1, .int 0)]) ?_ rfl rfl (by repeat' (first | exact inL_n | refine inL_c rfl ?_))
  refine fi_loop (a := 7) (by decide) 20 0 h2 _ rfl e7_2 (fun h3 f3 => ?_)
  have s3 := s2.put f3
  show aW aiP 15 16 637 59 [(0, .ref 6), (1, .int 20)] [] h3 _
  refine q_aload_n rfl rfl ?_
  have e6_3 := (o2.ne f3 rfl)
  refine s_get (v := .int 20) rfl e6_3 rfl rfl ?_
  refine q_ireturn rfl rfl ?_
  show aW aiP 0 17 658 233 [(4, .int 0), (3, .ref 233), (2, .ref 191), (1, .ref 6), (0, .ref 0)] [.int 20] h3 _
  refine q_aload_n rfl rfl ?_
  refine q_aload_n rfl rfl ?_
  refine q_iload rfl rfl ?_
  refine q_iconst rfl ?_
  refine s_iadd (k := 1) rfl (by decide) ?_
  have e0_3 := (f3.ne rfl (f2.ne rfl (f1.ne rfl e0)))
  refine s_iaload (j := 1) (v := .int (xs 1)) rfl e0_3 (by decide) rfl (by first | rfl | decide) ?_
  rw [hw]
  have e191 := F.2.2.2.2.2.2.2.2.2.2.2.2.2.2.2.2.2.2.2.2.2.2.2.2.2.2.2.1
  have e191_3 := (((e191.ne f1 rfl).ne f2 rfl).ne f3 rfl)
  refine s_callV (as := [.int 20]) (rest := [.int 20]) (d' := 16) (w' := 636) (lv' := [(0, .ref 191), (1, .int 20)]) rfl e191_3 rfl rfl rfl rfl rfl rfl ?_
  refine q_aload_n rfl rfl ?_
  refine q_iconst rfl ?_
  refine s_put (vs' := [.int 0, .ref 192, .ref 193, .int 0, .ref 194, .ref 195, .ref 196, .ref 197, .ref 198, .ref 199, .ref 200, .ref 201, .ref 202, .ref 203, .ref 204, .ref 205, .int (-1), .int 0, .ref 206, .ref 207, .ref 208, .ref 209, .ref 210, .ref 211, .ref 212, .ref 213, .ref 214, .ref 215, .int 0, .int 0, .int 0, .int 0, .ref 216, .ref 217, .ref 218, .ref 219, .ref 220, .int (-1), .int 0, .int 0, .int 0, .int 0, .int 0, .int 0, .ref 221, .ref 222, .ref 223, .ref 224, .int 0, .ref 225, .int 0, .ref 226, .ref 227, .int 0, .ref 228, .ref 229, .ref 230, .ref 231, .ref 232]) rfl e191_3 rfl rfl rfl rfl (fun h4 o4 f4 => ?_)
  have s4 := s3.put f4
  refine q_iload_n rfl rfl ?_
  refine q_if_lt rfl (fun c => absurd c (by decide)) (fun _ => ?_)
  refine q_iload_n rfl rfl ?_
  refine q_bipush rfl ?_
  refine q_icmp_gt rfl (fun c => absurd c (by decide)) (fun _ => ?_)
  refine q_aload_n rfl rfl ?_
  refine s_get (v := .int 0) rfl o4 rfl rfl ?_
  refine q_iload_n rfl rfl ?_
  refine s_iadd (k := 20) rfl (by decide) ?_
  refine q_sipush rfl ?_
  refine q_icmp_le rfl (fun _ => ?_) (fun c => absurd (by decide) c)
  refine q_iconst rfl ?_
  refine s_istore_n (lv' := [(2, .int 0), (0, .ref 191), (1, .int 20)]) rfl (by decide) rfl ?_
  refine q_iload_n rfl rfl ?_
  refine q_iload_n rfl rfl ?_
  refine q_icmp_ge rfl (fun c => absurd c (by decide)) (fun _ => ?_)
  refine q_aload_n rfl rfl ?_
  refine s_get (v := .ref 193) rfl o4 rfl rfl ?_
  refine q_aload_n rfl rfl ?_
  refine s_get (v := .int 0) rfl o4 rfl rfl ?_
  refine q_aload_n rfl rfl ?_
  refine s_get (v := .ref 192) rfl o4 rfl rfl ?_
  refine q_iload_n rfl rfl ?_
  have e192 := F.2.2.2.2.2.2.2.2.2.2.2.2.2.2.2.2.2.2.2.2.2.2.2.2.2.2.2.2.1
  have e192_4 := (f4.ne rfl (f3.ne rfl (f2.ne rfl (f1.ne rfl e192))))
  refine s_iaload (j := 0) (v := .int 0) rfl e192_4 (by decide) rfl (by first | rfl | decide) ?_
  have e193 := F.2.2.2.2.2.2.2.2.2.2.2.2.2.2.2.2.2.2.2.2.2.2.2.2.2.2.2.2.2.1
  have e193_4 := (f4.ne rfl (f3.ne rfl (f2.ne rfl (f1.ne rfl e193))))
  refine s_iastore (j := 0) rfl e193_4 (by decide) rfl (fun h5 o5 f5 => ?_)
  have s5 := s4.put f5
  refine q_aload_n rfl rfl ?_
  refine q_dup rfl rfl ?_
  have e191_5 := (o4.ne f5 rfl)
  refine s_get (v := .int 0) rfl e191_5 rfl rfl ?_
  refine q_iconst rfl ?_
  refine s_iadd (k := 1) rfl (by decide) ?_
  refine s_put (vs' := [.int 0, .ref 192, .ref 193, .int 1, .ref 194, .ref 195, .ref 196, .ref 197, .ref 198, .ref 199, .ref 200, .ref 201, .ref 202, .ref 203, .ref 204, .ref 205, .int (-1), .int 0, .ref 206, .ref 207, .ref 208, .ref 209, .ref 210, .ref 211, .ref 212, .ref 213, .ref 214, .ref 215, .int 0, .int 0, .int 0, .int 0, .ref 216, .ref 217, .ref 218, .ref 219, .ref 220, .int (-1), .int 0, .int 0, .int 0, .int 0, .int 0, .int 0, .ref 221, .ref 222, .ref 223, .ref 224, .int 0, .ref 225, .int 0, .ref 226, .ref 227, .int 0, .ref 228, .ref 229, .ref 230, .ref 231, .ref 232]) rfl e191_5 rfl rfl rfl rfl (fun h6 o6 f6 => ?_)
  have s6 := s5.put f6
  refine s_iinc (y := 1) (lv' := [(2, .int 1), (0, .ref 191), (1, .int 20)]) rfl rfl (by decide) (by decide) rfl ?_
  refine q_goto rfl ?_
  refine q_iload_n rfl rfl ?_
  refine q_iload_n rfl rfl ?_
  refine q_icmp_ge rfl (fun c => absurd c (by decide)) (fun _ => ?_)
  refine q_aload_n rfl rfl ?_
  refine s_get (v := .ref 193) rfl o6 rfl rfl ?_
  refine q_aload_n rfl rfl ?_
  refine s_get (v := .int 1) rfl o6 rfl rfl ?_
  refine q_aload_n rfl rfl ?_
  refine s_get (v := .ref 192) rfl o6 rfl rfl ?_
  refine q_iload_n rfl rfl ?_
  have e192_6 := (f6.ne rfl (f5.ne rfl e192_4))
  refine s_iaload (j := 1) (v := .int 0) rfl e192_6 (by decide) rfl (by first | rfl | decide) ?_
  have e193_6 := (f6.ne rfl o5)
  refine s_iastore (j := 1) rfl e193_6 (by decide) rfl (fun h7 o7 f7 => ?_)
  have s7 := s6.put f7
  refine q_aload_n rfl rfl ?_
  refine q_dup rfl rfl ?_
  have e191_7 := (o6.ne f7 rfl)
  refine s_get (v := .int 1) rfl e191_7 rfl rfl ?_
  refine q_iconst rfl ?_
  refine s_iadd (k := 2) rfl (by decide) ?_
  refine s_put (vs' := [.int 0, .ref 192, .ref 193, .int 2, .ref 194, .ref 195, .ref 196, .ref 197, .ref 198, .ref 199, .ref 200, .ref 201, .ref 202, .ref 203, .ref 204, .ref 205, .int (-1), .int 0, .ref 206, .ref 207, .ref 208, .ref 209, .ref 210, .ref 211, .ref 212, .ref 213, .ref 214, .ref 215, .int 0, .int 0, .int 0, .int 0, .ref 216, .ref 217, .ref 218, .ref 219, .ref 220, .int (-1), .int 0, .int 0, .int 0, .int 0, .int 0, .int 0, .ref 221, .ref 222, .ref 223, .ref 224, .int 0, .ref 225, .int 0, .ref 226, .ref 227, .int 0, .ref 228, .ref 229, .ref 230, .ref 231, .ref 232]) rfl e191_7 rfl rfl rfl rfl (fun h8 o8 f8 => ?_)
  have s8 := s7.put f8
  refine s_iinc (y := 2) (lv' := [(2, .int 2), (0, .ref 191), (1, .int 20)]) rfl rfl (by decide) (by decide) rfl ?_
  refine q_goto rfl ?_
  refine q_iload_n rfl rfl ?_
  refine q_iload_n rfl rfl ?_
  refine q_icmp_ge rfl (fun c => absurd c (by decide)) (fun _ => ?_)
  refine q_aload_n rfl rfl ?_
  refine s_get (v := .ref 193) rfl o8 rfl rfl ?_
  refine q_aload_n rfl rfl ?_
  refine s_get (v := .int 2) rfl o8 rfl rfl ?_
  refine q_aload_n rfl rfl ?_
  refine s_get (v := .ref 192) rfl o8 rfl rfl ?_
  refine q_iload_n rfl rfl ?_
  have e192_8 := (f8.ne rfl (f7.ne rfl e192_6))
  refine s_iaload (j := 2) (v := .int 0) rfl e192_8 (by decide) rfl (by first | rfl | decide) ?_
  have e193_8 := (f8.ne rfl o7)
  refine s_iastore (j := 2) rfl e193_8 (by decide) rfl (fun h9 o9 f9 => ?_)
  have s9 := s8.put f9
  refine q_aload_n rfl rfl ?_
  refine q_dup rfl rfl ?_
  have e191_9 := (o8.ne f9 rfl)
  refine s_get (v := .int 2) rfl e191_9 rfl rfl ?_
  refine q_iconst rfl ?_
  refine s_iadd (k := 3) rfl (by decide) ?_
  refine s_put (vs' := [.int 0, .ref 192, .ref 193, .int 3, .ref 194, .ref 195, .ref 196, .ref 197, .ref 198, .ref 199, .ref 200, .ref 201, .ref 202, .ref 203, .ref 204, .ref 205, .int (-1), .int 0, .ref 206, .ref 207, .ref 208, .ref 209, .ref 210, .ref 211, .ref 212, .ref 213, .ref 214, .ref 215, .int 0, .int 0, .int 0, .int 0, .ref 216, .ref 217, .ref 218, .ref 219, .ref 220, .int (-1), .int 0, .int 0, .int 0, .int 0, .int 0, .int 0, .ref 221, .ref 222, .ref 223, .ref 224, .int 0, .ref 225, .int 0, .ref 226, .ref 227, .int 0, .ref 228, .ref 229, .ref 230, .ref 231, .ref 232]) rfl e191_9 rfl rfl rfl rfl (fun h10 o10 f10 => ?_)
  have s10 := s9.put f10
  refine s_iinc (y := 3) (lv' := [(2, .int 3), (0, .ref 191), (1, .int 20)]) rfl rfl (by decide) (by decide) rfl ?_
  refine q_goto rfl ?_
  refine q_iload_n rfl rfl ?_
  refine q_iload_n rfl rfl ?_
  refine q_icmp_ge rfl (fun c => absurd c (by decide)) (fun _ => ?_)
  refine q_aload_n rfl rfl ?_
  refine s_get (v := .ref 193) rfl o10 rfl rfl ?_
  refine q_aload_n rfl rfl ?_
  refine s_get (v := .int 3) rfl o10 rfl rfl ?_
  refine q_aload_n rfl rfl ?_
  refine s_get (v := .ref 192) rfl o10 rfl rfl ?_
  refine q_iload_n rfl rfl ?_
  have e192_10 := (f10.ne rfl (f9.ne rfl e192_8))
  refine s_iaload (j := 3) (v := .int 0) rfl e192_10 (by decide) rfl (by first | rfl | decide) ?_
  have e193_10 := (f10.ne rfl o9)
  refine s_iastore (j := 3) rfl e193_10 (by decide) rfl (fun h11 o11 f11 => ?_)
  have s11 := s10.put f11
  refine q_aload_n rfl rfl ?_
  refine q_dup rfl rfl ?_
  have e191_11 := (o10.ne f11 rfl)
  refine s_get (v := .int 3) rfl e191_11 rfl rfl ?_
  refine q_iconst rfl ?_
  refine s_iadd (k := 4) rfl (by decide) ?_
  refine s_put (vs' := [.int 0, .ref 192, .ref 193, .int 4, .ref 194, .ref 195, .ref 196, .ref 197, .ref 198, .ref 199, .ref 200, .ref 201, .ref 202, .ref 203, .ref 204, .ref 205, .int (-1), .int 0, .ref 206, .ref 207, .ref 208, .ref 209, .ref 210, .ref 211, .ref 212, .ref 213, .ref 214, .ref 215, .int 0, .int 0, .int 0, .int 0, .ref 216, .ref 217, .ref 218, .ref 219, .ref 220, .int (-1), .int 0, .int 0, .int 0, .int 0, .int 0, .int 0, .ref 221, .ref 222, .ref 223, .ref 224, .int 0, .ref 225, .int 0, .ref 226, .ref 227, .int 0, .ref 228, .ref 229, .ref 230, .ref 231, .ref 232]) rfl e191_11 rfl rfl rfl rfl (fun h12 o12 f12 => ?_)
  have s12 := s11.put f12
  refine s_iinc (y := 4) (lv' := [(2, .int 4), (0, .ref 191), (1, .int 20)]) rfl rfl (by decide) (by decide) rfl ?_
  refine q_goto rfl ?_
  refine q_iload_n rfl rfl ?_
  refine q_iload_n rfl rfl ?_
  refine q_icmp_ge rfl (fun c => absurd c (by decide)) (fun _ => ?_)
  refine q_aload_n rfl rfl ?_
  refine s_get (v := .ref 193) rfl o12 rfl rfl ?_
  refine q_aload_n rfl rfl ?_
  refine s_get (v := .int 4) rfl o12 rfl rfl ?_
  refine q_aload_n rfl rfl ?_
  refine s_get (v := .ref 192) rfl o12 rfl rfl ?_
  refine q_iload_n rfl rfl ?_
  have e192_12 := (f12.ne rfl (f11.ne rfl e192_10))
  refine s_iaload (j := 4) (v := .int 0) rfl e192_12 (by decide) rfl (by first | rfl | decide) ?_
  have e193_12 := (f12.ne rfl o11)
  refine s_iastore (j := 4) rfl e193_12 (by decide) rfl (fun h13 o13 f13 => ?_)
  have s13 := s12.put f13
  refine q_aload_n rfl rfl ?_
  refine q_dup rfl rfl ?_
  have e191_13 := (o12.ne f13 rfl)
  refine s_get (v := .int 4) rfl e191_13 rfl rfl ?_
  refine q_iconst rfl ?_
  refine s_iadd (k := 5) rfl (by decide) ?_
  refine s_put (vs' := [.int 0, .ref 192, .ref 193, .int 5, .ref 194, .ref 195, .ref 196, .ref 197, .ref 198, .ref 199, .ref 200, .ref 201, .ref 202, .ref 203, .ref 204, .ref 205, .int (-1), .int 0, .ref 206, .ref 207, .ref 208, .ref 209, .ref 210, .ref 211, .ref 212, .ref 213, .ref 214, .ref 215, .int 0, .int 0, .int 0, .int 0, .ref 216, .ref 217, .ref 218, .ref 219, .ref 220, .int (-1), .int 0, .int 0, .int 0, .int 0, .int 0, .int 0, .ref 221, .ref 222, .ref 223, .ref 224, .int 0, .ref 225, .int 0, .ref 226, .ref 227, .int 0, .ref 228, .ref 229, .ref 230, .ref 231, .ref 232]) rfl e191_13 rfl rfl rfl rfl (fun h14 o14 f14 => ?_)
  have s14 := s13.put f14
  refine s_iinc (y := 5) (lv' := [(2, .int 5), (0, .ref 191), (1, .int 20)]) rfl rfl (by decide) (by decide) rfl ?_
  refine q_goto rfl ?_
  refine q_iload_n rfl rfl ?_
  refine q_iload_n rfl rfl ?_
  refine q_icmp_ge rfl (fun c => absurd c (by decide)) (fun _ => ?_)
  refine q_aload_n rfl rfl ?_
  refine s_get (v := .ref 193) rfl o14 rfl rfl ?_
  refine q_aload_n rfl rfl ?_
  refine s_get (v := .int 5) rfl o14 rfl rfl ?_
  refine q_aload_n rfl rfl ?_
  refine s_get (v := .ref 192) rfl o14 rfl rfl ?_
  refine q_iload_n rfl rfl ?_
  have e192_14 := (f14.ne rfl (f13.ne rfl e192_12))
  refine s_iaload (j := 5) (v := .int 0) rfl e192_14 (by decide) rfl (by first | rfl | decide) ?_
  have e193_14 := (f14.ne rfl o13)
  refine s_iastore (j := 5) rfl e193_14 (by decide) rfl (fun h15 o15 f15 => ?_)
  have s15 := s14.put f15
  refine q_aload_n rfl rfl ?_
  refine q_dup rfl rfl ?_
  have e191_15 := (o14.ne f15 rfl)
  refine s_get (v := .int 5) rfl e191_15 rfl rfl ?_
  refine q_iconst rfl ?_
  refine s_iadd (k := 6) rfl (by decide) ?_
  refine s_put (vs' := [.int 0, .ref 192, .ref 193, .int 6, .ref 194, .ref 195, .ref 196, .ref 197, .ref 198, .ref 199, .ref 200, .ref 201, .ref 202, .ref 203, .ref 204, .ref 205, .int (-1), .int 0, .ref 206, .ref 207, .ref 208, .ref 209, .ref 210, .ref 211, .ref 212, .ref 213, .ref 214, .ref 215, .int 0, .int 0, .int 0, .int 0, .ref 216, .ref 217, .ref 218, .ref 219, .ref 220, .int (-1), .int 0, .int 0, .int 0, .int 0, .int 0, .int 0, .ref 221, .ref 222, .ref 223, .ref 224, .int 0, .ref 225, .int 0, .ref 226, .ref 227, .int 0, .ref 228, .ref 229, .ref 230, .ref 231, .ref 232]) rfl e191_15 rfl rfl rfl rfl (fun h16 o16 f16 => ?_)
  have s16 := s15.put f16
  refine s_iinc (y := 6) (lv' := [(2, .int 6), (0, .ref 191), (1, .int 20)]) rfl rfl (by decide) (by decide) rfl ?_
  refine q_goto rfl ?_
  refine q_iload_n rfl rfl ?_
  refine q_iload_n rfl rfl ?_
  refine q_icmp_ge rfl (fun c => absurd c (by decide)) (fun _ => ?_)
  refine q_aload_n rfl rfl ?_
  refine s_get (v := .ref 193) rfl o16 rfl rfl ?_
  refine q_aload_n rfl rfl ?_
  refine s_get (v := .int 6) rfl o16 rfl rfl ?_
  refine q_aload_n rfl rfl ?_
  refine s_get (v := .ref 192) rfl o16 rfl rfl ?_
  refine q_iload_n rfl rfl ?_
  have e192_16 := (f16.ne rfl (f15.ne rfl e192_14))
  refine s_iaload (j := 6) (v := .int 0) rfl e192_16 (by decide) rfl (by first | rfl | decide) ?_
  have e193_16 := (f16.ne rfl o15)
  refine s_iastore (j := 6) rfl e193_16 (by decide) rfl (fun h17 o17 f17 => ?_)
  have s17 := s16.put f17
  refine q_aload_n rfl rfl ?_
  refine q_dup rfl rfl ?_
  have e191_17 := (o16.ne f17 rfl)
  refine s_get (v := .int 6) rfl e191_17 rfl rfl ?_
  refine q_iconst rfl ?_
  refine s_iadd (k := 7) rfl (by decide) ?_
  refine s_put (vs' := [.int 0, .ref 192, .ref 193, .int 7, .ref 194, .ref 195, .ref 196, .ref 197, .ref 198, .ref 199, .ref 200, .ref 201, .ref 202, .ref 203, .ref 204, .ref 205, .int (-1), .int 0, .ref 206, .ref 207, .ref 208, .ref 209, .ref 210, .ref 211, .ref 212, .ref 213, .ref 214, .ref 215, .int 0, .int 0, .int 0, .int 0, .ref 216, .ref 217, .ref 218, .ref 219, .ref 220, .int (-1), .int 0, .int 0, .int 0, .int 0, .int 0, .int 0, .ref 221, .ref 222, .ref 223, .ref 224, .int 0, .ref 225, .int 0, .ref 226, .ref 227, .int 0, .ref 228, .ref 229, .ref 230, .ref 231, .ref 232]) rfl e191_17 rfl rfl rfl rfl (fun h18 o18 f18 => ?_)
  have s18 := s17.put f18
  refine s_iinc (y := 7) (lv' := [(2, .int 7), (0, .ref 191), (1, .int 20)]) rfl rfl (by decide) (by decide) rfl ?_
  refine q_goto rfl ?_
  refine q_iload_n rfl rfl ?_
  refine q_iload_n rfl rfl ?_
  refine q_icmp_ge rfl (fun c => absurd c (by decide)) (fun _ => ?_)
  refine q_aload_n rfl rfl ?_
  refine s_get (v := .ref 193) rfl o18 rfl rfl ?_
  refine q_aload_n rfl rfl ?_
  refine s_get (v := .int 7) rfl o18 rfl rfl ?_
  refine q_aload_n rfl rfl ?_
  refine s_get (v := .ref 192) rfl o18 rfl rfl ?_
  refine q_iload_n rfl rfl ?_
  have e192_18 := (f18.ne rfl (f17.ne rfl e192_16))
  refine s_iaload (j := 7) (v := .int 0) rfl e192_18 (by decide) rfl (by first | rfl | decide) ?_
  have e193_18 := (f18.ne rfl o17)
  refine s_iastore (j := 7) rfl e193_18 (by decide) rfl (fun h19 o19 f19 => ?_)
  have s19 := s18.put f19
  refine q_aload_n rfl rfl ?_
  refine q_dup rfl rfl ?_
  have e191_19 := (o18.ne f19 rfl)
  refine s_get (v := .int 7) rfl e191_19 rfl rfl ?_
  refine q_iconst rfl ?_
  refine s_iadd (k := 8) rfl (by decide) ?_
  refine s_put (vs' := [.int 0, .ref 192, .ref 193, .int 8, .ref 194, .ref 195, .ref 196, .ref 197, .ref 198, .ref 199, .ref 200, .ref 201, .ref 202, .ref 203, .ref 204, .ref 205, .int (-1), .int 0, .ref 206, .ref 207, .ref 208, .ref 209, .ref 210, .ref 211, .ref 212, .ref 213, .ref 214, .ref 215, .int 0, .int 0, .int 0, .int 0, .ref 216, .ref 217, .ref 218, .ref 219, .ref 220, .int (-1), .int 0, .int 0, .int 0, .int 0, .int 0, .int 0, .ref 221, .ref 222, .ref 223, .ref 224, .int 0, .ref 225, .int 0, .ref 226, .ref 227, .int 0, .ref 228, .ref 229, .ref 230, .ref 231, .ref 232]) rfl e191_19 rfl rfl rfl rfl (fun h20 o20 f20 => ?_)
  have s20 := s19.put f20
  refine s_iinc (y := 8) (lv' := [(2, .int 8), (0, .ref 191), (1, .int 20)]) rfl rfl (by decide) (by decide) rfl ?_
  refine q_goto rfl ?_
  refine q_iload_n rfl rfl ?_
  refine q_iload_n rfl rfl ?_
  refine q_icmp_ge rfl (fun c => absurd c (by decide)) (fun _ => ?_)
  refine q_aload_n rfl rfl ?_
  refine s_get (v := .ref 193) rfl o20 rfl rfl ?_
  refine q_aload_n rfl rfl ?_
  refine s_get (v := .int 8) rfl o20 rfl rfl ?_
  refine q_aload_n rfl rfl ?_
  refine s_get (v := .ref 192) rfl o20 rfl rfl ?_
  refine q_iload_n rfl rfl ?_
  have e192_20 := (f20.ne rfl (f19.ne rfl e192_18))
  refine s_iaload (j := 8) (v := .int 0) rfl e192_20 (by decide) rfl (by first | rfl | decide) ?_
  have e193_20 := (f20.ne rfl o19)
  refine s_iastore (j := 8) rfl e193_20 (by decide) rfl (fun h21 o21 f21 => ?_)
  have s21 := s20.put f21
  refine q_aload_n rfl rfl ?_
  refine q_dup rfl rfl ?_
  have e191_21 := (o20.ne f21 rfl)
  refine s_get (v := .int 8) rfl e191_21 rfl rfl ?_
  refine q_iconst rfl ?_
  refine s_iadd (k := 9) rfl (by decide) ?_
  refine s_put (vs' := [.int 0, .ref 192, .ref 193, .int 9, .ref 194, .ref 195, .ref 196, .ref 197, .ref 198, .ref 199, .ref 200, .ref 201, .ref 202, .ref 203, .ref 204, .ref 205, .int (-1), .int 0, .ref 206, .ref 207, .ref 208, .ref 209, .ref 210, .ref 211, .ref 212, .ref 213, .ref 214, .ref 215, .int 0, .int 0, .int 0, .int 0, .ref 216, .ref 217, .ref 218, .ref 219, .ref 220, .int (-1), .int 0, .int 0, .int 0, .int 0, .int 0, .int 0, .ref 221, .ref 222, .ref 223, .ref 224, .int 0, .ref 225, .int 0, .ref 226, .ref 227, .int 0, .ref 228, .ref 229, .ref 230, .ref 231, .ref 232]) rfl e191_21 rfl rfl rfl rfl (fun h22 o22 f22 => ?_)
  have s22 := s21.put f22
  refine s_iinc (y := 9) (lv' := [(2, .int 9), (0, .ref 191), (1, .int 20)]) rfl rfl (by decide) (by decide) rfl ?_
  refine q_goto rfl ?_
  refine q_iload_n rfl rfl ?_
  refine q_iload_n rfl rfl ?_
  refine q_icmp_ge rfl (fun c => absurd c (by decide)) (fun _ => ?_)
  refine q_aload_n rfl rfl ?_
  refine s_get (v := .ref 193) rfl o22 rfl rfl ?_
  refine q_aload_n rfl rfl ?_
  refine s_get (v := .int 9) rfl o22 rfl rfl ?_
  refine q_aload_n rfl rfl ?_
  refine s_get (v := .ref 192) rfl o22 rfl rfl ?_
  refine q_iload_n rfl rfl ?_
  have e192_22 := (f22.ne rfl (f21.ne rfl e192_20))
  refine s_iaload (j := 9) (v := .int 0) rfl e192_22 (by decide) rfl (by first | rfl | decide) ?_
  have e193_22 := (f22.ne rfl o21)
  refine s_iastore (j := 9) rfl e193_22 (by decide) rfl (fun h23 o23 f23 => ?_)
  have s23 := s22.put f23
  refine q_aload_n rfl rfl ?_
  refine q_dup rfl rfl ?_
  have e191_23 := (o22.ne f23 rfl)
  refine s_get (v := .int 9) rfl e191_23 rfl rfl ?_
  refine q_iconst rfl ?_
  refine s_iadd (k := 10) rfl (by decide) ?_
  refine s_put (vs' := [.int 0, .ref 192, .ref 193, .int 10, .ref 194, .ref 195, .ref 196, .ref 197, .ref 198, .ref 199, .ref 200, .ref 201, .ref 202, .ref 203, .ref 204, .ref 205, .int (-1), .int 0, .ref 206, .ref 207, .ref 208, .ref 209, .ref 210, .ref 211, .ref 212, .ref 213, .ref 214, .ref 215, .int 0, .int 0, .int 0, .int 0, .ref 216, .ref 217, .ref 218, .ref 219, .ref 220, .int (-1), .int 0, .int 0, .int 0, .int 0, .int 0, .int 0, .ref 221, .ref 222, .ref 223, .ref 224, .int 0, .ref 225, .int 0, .ref 226, .ref 227, .int 0, .ref 228, .ref 229, .ref 230, .ref 231, .ref 232]) rfl e191_23 rfl rfl rfl rfl (fun h24 o24 f24 => ?_)
  have s24 := s23.put f24
  refine s_iinc (y := 10) (lv' := [(2, .int 10), (0, .ref 191), (1, .int 20)]) rfl rfl (by decide) (by decide) rfl ?_
  refine q_goto rfl ?_
  refine q_iload_n rfl rfl ?_
  refine q_iload_n rfl rfl ?_
  refine q_icmp_ge rfl (fun c => absurd c (by decide)) (fun _ => ?_)
  refine q_aload_n rfl rfl ?_
  refine s_get (v := .ref 193) rfl o24 rfl rfl ?_
  refine q_aload_n rfl rfl ?_
  refine s_get (v := .int 10) rfl o24 rfl rfl ?_
  refine q_aload_n rfl rfl ?_
  refine s_get (v := .ref 192) rfl o24 rfl rfl ?_
  refine q_iload_n rfl rfl ?_
  have e192_24 := (f24.ne rfl (f23.ne rfl e192_22))
  refine s_iaload (j := 10) (v := .int 0) rfl e192_24 (by decide) rfl (by first | rfl | decide) ?_
  have e193_24 := (f24.ne rfl o23)
  refine s_iastore (j := 10) rfl e193_24 (by decide) rfl (fun h25 o25 f25 => ?_)
  have s25 := s24.put f25
  refine q_aload_n rfl rfl ?_
  refine q_dup rfl rfl ?_
  have e191_25 := (o24.ne f25 rfl)
  refine s_get (v := .int 10) rfl e191_25 rfl rfl ?_
  refine q_iconst rfl ?_
  refine s_iadd (k := 11) rfl (by decide) ?_
  refine s_put (vs' := [.int 0, .ref 192, .ref 193, .int 11, .ref 194, .ref 195, .ref 196, .ref 197, .ref 198, .ref 199, .ref 200, .ref 201, .ref 202, .ref 203, .ref 204, .ref 205, .int (-1), .int 0, .ref 206, .ref 207, .ref 208, .ref 209, .ref 210, .ref 211, .ref 212, .ref 213, .ref 214, .ref 215, .int 0, .int 0, .int 0, .int 0, .ref 216, .ref 217, .ref 218, .ref 219, .ref 220, .int (-1), .int 0, .int 0, .int 0, .int 0, .int 0, .int 0, .ref 221, .ref 222, .ref 223, .ref 224, .int 0, .ref 225, .int 0, .ref 226, .ref 227, .int 0, .ref 228, .ref 229, .ref 230, .ref 231, .ref 232]) rfl e191_25 rfl rfl rfl rfl (fun h26 o26 f26 => ?_)
  have s26 := s25.put f26
  refine s_iinc (y := 11) (lv' := [(2, .int 11), (0, .ref 191), (1, .int 20)]) rfl rfl (by decide) (by decide) rfl ?_
  refine q_goto rfl ?_
  refine q_iload_n rfl rfl ?_
  refine q_iload_n rfl rfl ?_
  refine q_icmp_ge rfl (fun c => absurd c (by decide)) (fun _ => ?_)
  refine q_aload_n rfl rfl ?_
  refine s_get (v := .ref 193) rfl o26 rfl rfl ?_
  refine q_aload_n rfl rfl ?_
  refine s_get (v := .int 11) rfl o26 rfl rfl ?_
  refine q_aload_n rfl rfl ?_
  refine s_get (v := .ref 192) rfl o26 rfl rfl ?_
  refine q_iload_n rfl rfl ?_
  have e192_26 := (f26.ne rfl (f25.ne rfl e192_24))
  refine s_iaload (j := 11) (v := .int 0) rfl e192_26 (by decide) rfl (by first | rfl | decide) ?_
  have e193_26 := (f26.ne rfl o25)
  refine s_iastore (j := 11) rfl e193_26 (by decide) rfl (fun h27 o27 f27 => ?_)
  have s27 := s26.put f27
  refine q_aload_n rfl rfl ?_
  refine q_dup rfl rfl ?_
  have e191_27 := (o26.ne f27 rfl)
  refine s_get (v := .int 11) rfl e191_27 rfl rfl ?_
  refine q_iconst rfl ?_
  refine s_iadd (k := 12) rfl (by decide) ?_
  refine s_put (vs' := [.int 0, .ref 192, .ref 193, .int 12, .ref 194, .ref 195, .ref 196, .ref 197, .ref 198, .ref 199, .ref 200, .ref 201, .ref 202, .ref 203, .ref 204, .ref 205, .int (-1), .int 0, .ref 206, .ref 207, .ref 208, .ref 209, .ref 210, .ref 211, .ref 212, .ref 213, .ref 214, .ref 215, .int 0, .int 0, .int 0, .int 0, .ref 216, .ref 217, .ref 218, .ref 219, .ref 220, .int (-1), .int 0, .int 0, .int 0, .int 0, .int 0, .int 0, .ref 221, .ref 222, .ref 223, .ref 224, .int 0, .ref 225, .int 0, .ref 226, .ref 227, .int 0, .ref 228, .ref 229, .ref 230, .ref 231, .ref 232]) rfl e191_27 rfl rfl rfl rfl (fun h28 o28 f28 => ?_)
  have s28 := s27.put f28
  refine s_iinc (y := 12) (lv' := [(2, .int 12), (0, .ref 191), (1, .int 20)]) rfl rfl (by decide) (by decide) rfl ?_
  refine q_goto rfl ?_
  refine q_iload_n rfl rfl ?_
  refine q_iload_n rfl rfl ?_
  refine q_icmp_ge rfl (fun c => absurd c (by decide)) (fun _ => ?_)
  refine q_aload_n rfl rfl ?_
  refine s_get (v := .ref 193) rfl o28 rfl rfl ?_
  refine q_aload_n rfl rfl ?_
  refine s_get (v := .int 12) rfl o28 rfl rfl ?_
  refine q_aload_n rfl rfl ?_
  refine s_get (v := .ref 192) rfl o28 rfl rfl ?_
  refine q_iload_n rfl rfl ?_
  have e192_28 := (f28.ne rfl (f27.ne rfl e192_26))
  refine s_iaload (j := 12) (v := .int 0) rfl e192_28 (by decide) rfl (by first | rfl | decide) ?_
  have e193_28 := (f28.ne rfl o27)
  refine s_iastore (j := 12) rfl e193_28 (by decide) rfl (fun h29 o29 f29 => ?_)
  have s29 := s28.put f29
  refine q_aload_n rfl rfl ?_
  refine q_dup rfl rfl ?_
  have e191_29 := (o28.ne f29 rfl)
  refine s_get (v := .int 12) rfl e191_29 rfl rfl ?_
  refine q_iconst rfl ?_
  refine s_iadd (k := 13) rfl (by decide) ?_
  refine s_put (vs' := [.int 0, .ref 192, .ref 193, .int 13, .ref 194, .ref 195, .ref 196, .ref 197, .ref 198, .ref 199, .ref 200, .ref 201, .ref 202, .ref 203, .ref 204, .ref 205, .int (-1), .int 0, .ref 206, .ref 207, .ref 208, .ref 209, .ref 210, .ref 211, .ref 212, .ref 213, .ref 214, .ref 215, .int 0, .int 0, .int 0, .int 0, .ref 216, .ref 217, .ref 218, .ref 219, .ref 220, .int (-1), .int 0, .int 0, .int 0, .int 0, .int 0, .int 0, .ref 221, .ref 222, .ref 223, .ref 224, .int 0, .ref 225, .int 0, .ref 226, .ref 227, .int 0, .ref 228, .ref 229, .ref 230, .ref 231, .ref 232]) rfl e191_29 rfl rfl rfl rfl (fun h30 o30 f30 => ?_)
  have s30 := s29.put f30
  refine s_iinc (y := 13) (lv' := [(2, .int 13), (0, .ref 191), (1, .int 20)]) rfl rfl (by decide) (by decide) rfl ?_
  refine q_goto rfl ?_
  refine q_iload_n rfl rfl ?_
  refine q_iload_n rfl rfl ?_
  refine q_icmp_ge rfl (fun c => absurd c (by decide)) (fun _ => ?_)
  refine q_aload_n rfl rfl ?_
  refine s_get (v := .ref 193) rfl o30 rfl rfl ?_
  refine q_aload_n rfl rfl ?_
  refine s_get (v := .int 13) rfl o30 rfl rfl ?_
  refine q_aload_n rfl rfl ?_
  refine s_get (v := .ref 192) rfl o30 rfl rfl ?_
  refine q_iload_n rfl rfl ?_
  have e192_30 := (f30.ne rfl (f29.ne rfl e192_28))
  refine s_iaload (j := 13) (v := .int 0) rfl e192_30 (by decide) rfl (by first | rfl | decide) ?_
  have e193_30 := (f30.ne rfl o29)
  refine s_iastore (j := 13) rfl e193_30 (by decide) rfl (fun h31 o31 f31 => ?_)
  have s31 := s30.put f31
  refine q_aload_n rfl rfl ?_
  refine q_dup rfl rfl ?_
  have e191_31 := (o30.ne f31 rfl)
  refine s_get (v := .int 13) rfl e191_31 rfl rfl ?_
  refine q_iconst rfl ?_
  refine s_iadd (k := 14) rfl (by decide) ?_
  refine s_put (vs' := [.int 0, .ref 192, .ref 193, .int 14, .ref 194, .ref 195, .ref 196, .ref 197, .ref 198, .ref 199, .ref 200, .ref 201, .ref 202, .ref 203, .ref 204, .ref 205, .int (-1), .int 0, .ref 206, .ref 207, .ref 208, .ref 209, .ref 210, .ref 211, .ref 212, .ref 213, .ref 214, .ref 215, .int 0, .int 0, .int 0, .int 0, .ref 216, .ref 217, .ref 218, .ref 219, .ref 220, .int (-1), .int 0, .int 0, .int 0, .int 0, .int 0, .int 0, .ref 221, .ref 222, .ref 223, .ref 224, .int 0, .ref 225, .int 0, .ref 226, .ref 227, .int 0, .ref 228, .ref 229, .ref 230, .ref 231, .ref 232]) rfl e191_31 rfl rfl rfl rfl (fun h32 o32 f32 => ?_)
  have s32 := s31.put f32
  refine s_iinc (y := 14) (lv' := [(2, .int 14), (0, .ref 191), (1, .int 20)]) rfl rfl (by decide) (by decide) rfl ?_
  refine q_goto rfl ?_
  refine q_iload_n rfl rfl ?_
  refine q_iload_n rfl rfl ?_
  refine q_icmp_ge rfl (fun c => absurd c (by decide)) (fun _ => ?_)
  refine q_aload_n rfl rfl ?_
  refine s_get (v := .ref 193) rfl o32 rfl rfl ?_
  refine q_aload_n rfl rfl ?_
  refine s_get (v := .int 14) rfl o32 rfl rfl ?_
  refine q_aload_n rfl rfl ?_
  refine s_get (v := .ref 192) rfl o32 rfl rfl ?_
  refine q_iload_n rfl rfl ?_
  have e192_32 := (f32.ne rfl (f31.ne rfl e192_30))
  refine s_iaload (j := 14) (v := .int 0) rfl e192_32 (by decide) rfl (by first | rfl | decide) ?_
  have e193_32 := (f32.ne rfl o31)
  refine s_iastore (j := 14) rfl e193_32 (by decide) rfl (fun h33 o33 f33 => ?_)
  have s33 := s32.put f33
  refine q_aload_n rfl rfl ?_
  refine q_dup rfl rfl ?_
  have e191_33 := (o32.ne f33 rfl)
  refine s_get (v := .int 14) rfl e191_33 rfl rfl ?_
  refine q_iconst rfl ?_
  refine s_iadd (k := 15) rfl (by decide) ?_
  refine s_put (vs' := [.int 0, .ref 192, .ref 193, .int 15, .ref 194, .ref 195, .ref 196, .ref 197, .ref 198, .ref 199, .ref 200, .ref 201, .ref 202, .ref 203, .ref 204, .ref 205, .int (-1), .int 0, .ref 206, .ref 207, .ref 208, .ref 209, .ref 210, .ref 211, .ref 212, .ref 213, .ref 214, .ref 215, .int 0, .int 0, .int 0, .int 0, .ref 216, .ref 217, .ref 218, .ref 219, .ref 220, .int (-1), .int 0, .int 0, .int 0, .int 0, .int 0, .int 0, .ref 221, .ref 222, .ref 223, .ref 224, .int 0, .ref 225, .int 0, .ref 226, .ref 227, .int 0, .ref 228, .ref 229, .ref 230, .ref 231, .ref 232]) rfl e191_33 rfl rfl rfl rfl (fun h34 o34 f34 => ?_)
  have s34 := s33.put f34
  refine s_iinc (y := 15) (lv' := [(2, .int 15), (0, .ref 191), (1, .int 20)]) rfl rfl (by decide) (by decide) rfl ?_
  refine q_goto rfl ?_
  refine q_iload_n rfl rfl ?_
  refine q_iload_n rfl rfl ?_
  refine q_icmp_ge rfl (fun c => absurd c (by decide)) (fun _ => ?_)
  refine q_aload_n rfl rfl ?_
  refine s_get (v := .ref 193) rfl o34 rfl rfl ?_
  refine q_aload_n rfl rfl ?_
  refine s_get (v := .int 15) rfl o34 rfl rfl ?_
  refine q_aload_n rfl rfl ?_
  refine s_get (v := .ref 192) rfl o34 rfl rfl ?_
  refine q_iload_n rfl rfl ?_
  have e192_34 := (f34.ne rfl (f33.ne rfl e192_32))
  refine s_iaload (j := 15) (v := .int 0) rfl e192_34 (by decide) rfl (by first | rfl | decide) ?_
  have e193_34 := (f34.ne rfl o33)
  refine s_iastore (j := 15) rfl e193_34 (by decide) rfl (fun h35 o35 f35 => ?_)
  have s35 := s34.put f35
  refine q_aload_n rfl rfl ?_
  refine q_dup rfl rfl ?_
  have e191_35 := (o34.ne f35 rfl)
  refine s_get (v := .int 15) rfl e191_35 rfl rfl ?_
  refine q_iconst rfl ?_
  refine s_iadd (k := 16) rfl (by decide) ?_
  refine s_put (vs' := [.int 0, .ref 192, .ref 193, .int 16, .ref 194, .ref 195, .ref 196, .ref 197, .ref 198, .ref 199, .ref 200, .ref 201, .ref 202, .ref 203, .ref 204, .ref 205, .int (-1), .int 0, .ref 206, .ref 207, .ref 208, .ref 209, .ref 210, .ref 211, .ref 212, .ref 213, .ref 214, .ref 215, .int 0, .int 0, .int 0, .int 0, .ref 216, .ref 217, .ref 218, .ref 219, .ref 220, .int (-1), .int 0, .int 0, .int 0, .int 0, .int 0, .int 0, .ref 221, .ref 222, .ref 223, .ref 224, .int 0, .ref 225, .int 0, .ref 226, .ref 227, .int 0, .ref 228, .ref 229, .ref 230, .ref 231, .ref 232]) rfl e191_35 rfl rfl rfl rfl (fun h36 o36 f36 => ?_)
  have s36 := s35.put f36
  refine s_iinc (y := 16) (lv' := [(2, .int 16), (0, .ref 191), (1, .int 20)]) rfl rfl (by decide) (by decide) rfl ?_
  refine q_goto rfl ?_
  refine q_iload_n rfl rfl ?_
  refine q_iload_n rfl rfl ?_
  refine q_icmp_ge rfl (fun c => absurd c (by decide)) (fun _ => ?_)
  refine q_aload_n rfl rfl ?_
  refine s_get (v := .ref 193) rfl o36 rfl rfl ?_
  refine q_aload_n rfl rfl ?_
  refine s_get (v := .int 16) rfl o36 rfl rfl ?_
  refine q_aload_n rfl rfl ?_
  refine s_get (v := .ref 192) rfl o36 rfl rfl ?_
  refine q_iload_n rfl rfl ?_
  have e192_36 := (f36.ne rfl (f35.ne rfl e192_34))
  refine s_iaload (j := 16) (v := .int 0) rfl e192_36 (by decide) rfl (by first | rfl | decide) ?_
  have e193_36 := (f36.ne rfl o35)
  refine s_iastore (j := 16) rfl e193_36 (by decide) rfl (fun h37 o37 f37 => ?_)
  have s37 := s36.put f37
  refine q_aload_n rfl rfl ?_
  refine q_dup rfl rfl ?_
  have e191_37 := (o36.ne f37 rfl)
  refine s_get (v := .int 16) rfl e191_37 rfl rfl ?_
  refine q_iconst rfl ?_
  refine s_iadd (k := 17) rfl (by decide) ?_
  refine s_put (vs' := [.int 0, .ref 192, .ref 193, .int 17, .ref 194, .ref 195, .ref 196, .ref 197, .ref 198, .ref 199, .ref 200, .ref 201, .ref 202, .ref 203, .ref 204, .ref 205, .int (-1), .int 0, .ref 206, .ref 207, .ref 208, .ref 209, .ref 210, .ref 211, .ref 212, .ref 213, .ref 214, .ref 215, .int 0, .int 0, .int 0, .int 0, .ref 216, .ref 217, .ref 218, .ref 219, .ref 220, .int (-1), .int 0, .int 0, .int 0, .int 0, .int 0, .int 0, .ref 221, .ref 222, .ref 223, .ref 224, .int 0, .ref 225, .int 0, .ref 226, .ref 227, .int 0, .ref 228, .ref 229, .ref 230, .ref 231, .ref 232]) rfl e191_37 rfl rfl rfl rfl (fun h38 o38 f38 => ?_)
  have s38 := s37.put f38
  refine s_iinc (y := 17) (lv' := [(2, .int 17), (0, .ref 191), (1, .int 20)]) rfl rfl (by decide) (by decide) rfl ?_
  refine q_goto rfl ?_
  refine q_iload_n rfl rfl ?_
  refine q_iload_n rfl rfl ?_
  refine q_icmp_ge rfl (fun c => absurd c (by decide)) (fun _ => ?_)
  refine q_aload_n rfl rfl ?_
  refine s_get (v := .ref 193) rfl o38 rfl rfl ?_
  refine q_aload_n rfl rfl ?_
  refine s_get (v := .int 17) rfl o38 rfl rfl ?_
  refine q_aload_n rfl rfl ?_
  refine s_get (v := .ref 192) rfl o38 rfl rfl ?_
  refine q_iload_n rfl rfl ?_
  have e192_38 := (f38.ne rfl (f37.ne rfl e192_36))
  refine s_iaload (j := 17) (v := .int 0) rfl e192_38 (by decide) rfl (by first | rfl | decide) ?_
  have e193_38 := (f38.ne rfl o37)
  refine s_iastore (j := 17) rfl e193_38 (by decide) rfl (fun h39 o39 f39 => ?_)
  have s39 := s38.put f39
  refine q_aload_n rfl rfl ?_
  refine q_dup rfl rfl ?_
  have e191_39 := (o38.ne f39 rfl)
  refine s_get (v := .int 17) rfl e191_39 rfl rfl ?_
  refine q_iconst rfl ?_
  refine s_iadd (k := 18) rfl (by decide) ?_
  refine s_put (vs' := [.int 0, .ref 192, .ref 193, .int 18, .ref 194, .ref 195, .ref 196, .ref 197, .ref 198, .ref 199, .ref 200, .ref 201, .ref 202, .ref 203, .ref 204, .ref 205, .int (-1), .int 0, .ref 206, .ref 207, .ref 208, .ref 209, .ref 210, .ref 211, .ref 212, .ref 213, .ref 214, .ref 215, .int 0, .int 0, .int 0, .int 0, .ref 216, .ref 217, .ref 218, .ref 219, .ref 220, .int (-1), .int 0, .int 0, .int 0, .int 0, .int 0, .int 0, .ref 221, .ref 222, .ref 223, .ref 224, .int 0, .ref 225, .int 0, .ref 226, .ref 227, .int 0, .ref 228, .ref 229, .ref 230, .ref 231, .ref 232]) rfl e191_39 rfl rfl rfl rfl (fun h40 o40 f40 => ?_)
  have s40 := s39.put f40
  refine s_iinc (y := 18) (lv' := [(2, .int 18), (0, .ref 191), (1, .int 20)]) rfl rfl (by decide) (by decide) rfl ?_
  refine q_goto rfl ?_
  refine q_iload_n rfl rfl ?_
  refine q_iload_n rfl rfl ?_
  refine q_icmp_ge rfl (fun c => absurd c (by decide)) (fun _ => ?_)
  refine q_aload_n rfl rfl ?_
  refine s_get (v := .ref 193) rfl o40 rfl rfl ?_
  refine q_aload_n rfl rfl ?_
  refine s_get (v := .int 18) rfl o40 rfl rfl ?_
  refine q_aload_n rfl rfl ?_
  refine s_get (v := .ref 192) rfl o40 rfl rfl ?_
  refine q_iload_n rfl rfl ?_
  have e192_40 := (f40.ne rfl (f39.ne rfl e192_38))
  refine s_iaload (j := 18) (v := .int 0) rfl e192_40 (by decide) rfl (by first | rfl | decide) ?_
  have e193_40 := (f40.ne rfl o39)
  refine s_iastore (j := 18) rfl e193_40 (by decide) rfl (fun h41 o41 f41 => ?_)
  have s41 := s40.put f41
  refine q_aload_n rfl rfl ?_
  refine q_dup rfl rfl ?_
  have e191_41 := (o40.ne f41 rfl)
  refine s_get (v := .int 18) rfl e191_41 rfl rfl ?_
  refine q_iconst rfl ?_
  refine s_iadd (k := 19) rfl (by decide) ?_
  refine s_put (vs' := [.int 0, .ref 192, .ref 193, .int 19, .ref 194, .ref 195, .ref 196, .ref 197, .ref 198, .ref 199, .ref 200, .ref 201, .ref 202, .ref 203, .ref 204, .ref 205, .int (-1), .int 0, .ref 206, .ref 207, .ref 208, .ref 209, .ref 210, .ref 211, .ref 212, .ref 213, .ref 214, .ref 215, .int 0, .int 0, .int 0, .int 0, .ref 216, .ref 217, .ref 218, .ref 219, .ref 220, .int (-1), .int 0, .int 0, .int 0, .int 0, .int 0, .int 0, .ref 221, .ref 222, .ref 223, .ref 224, .int 0, .ref 225, .int 0, .ref 226, .ref 227, .int 0, .ref 228, .ref 229, .ref 230, .ref 231, .ref 232]) rfl e191_41 rfl rfl rfl rfl (fun h42 o42 f42 => ?_)
  have s42 := s41.put f42
  refine s_iinc (y := 19) (lv' := [(2, .int 19), (0, .ref 191), (1, .int 20)]) rfl rfl (by decide) (by decide) rfl ?_
  refine q_goto rfl ?_
  refine q_iload_n rfl rfl ?_
  refine q_iload_n rfl rfl ?_
  refine q_icmp_ge rfl (fun c => absurd c (by decide)) (fun _ => ?_)
  refine q_aload_n rfl rfl ?_
  refine s_get (v := .ref 193) rfl o42 rfl rfl ?_
  refine q_aload_n rfl rfl ?_
  refine s_get (v := .int 19) rfl o42 rfl rfl ?_
  refine q_aload_n rfl rfl ?_
  refine s_get (v := .ref 192) rfl o42 rfl rfl ?_
  refine q_iload_n rfl rfl ?_
  have e192_42 := (f42.ne rfl (f41.ne rfl e192_40))
  refine s_iaload (j := 19) (v := .int 0) rfl e192_42 (by decide) rfl (by first | rfl | decide) ?_
  have e193_42 := (f42.ne rfl o41)
  refine s_iastore (j := 19) rfl e193_42 (by decide) rfl (fun h43 o43 f43 => ?_)
  have s43 := s42.put f43
  refine q_aload_n rfl rfl ?_
  refine q_dup rfl rfl ?_
  have e191_43 := (o42.ne f43 rfl)
  refine s_get (v := .int 19) rfl e191_43 rfl rfl ?_
  refine q_iconst rfl ?_
  refine s_iadd (k := 20) rfl (by decide) ?_
  refine s_put (vs' := [.int 0, .ref 192, .ref 193, .int 20, .ref 194, .ref 195, .ref 196, .ref 197, .ref 198, .ref 199, .ref 200, .ref 201, .ref 202, .ref 203, .ref 204, .ref 205, .int (-1), .int 0, .ref 206, .ref 207, .ref 208, .ref 209, .ref 210, .ref 211, .ref 212, .ref 213, .ref 214, .ref 215, .int 0, .int 0, .int 0, .int 0, .ref 216, .ref 217, .ref 218, .ref 219, .ref 220, .int (-1), .int 0, .int 0, .int 0, .int 0, .int 0, .int 0, .ref 221, .ref 222, .ref 223, .ref 224, .int 0, .ref 225, .int 0, .ref 226, .ref 227, .int 0, .ref 228, .ref 229, .ref 230, .ref 231, .ref 232]) rfl e191_43 rfl rfl rfl rfl (fun h44 o44 f44 => ?_)
  have s44 := s43.put f44
  refine s_iinc (y := 20) (lv' := [(2, .int 20), (0, .ref 191), (1, .int 20)]) rfl rfl (by decide) (by decide) rfl ?_
  refine q_goto rfl ?_
  refine q_iload_n rfl rfl ?_
  refine q_iload_n rfl rfl ?_
  refine q_icmp_ge rfl (fun _ => ?_) (fun c => absurd (by decide) c)
  refine q_iconst rfl ?_
  refine s_istore_n (lv' := [(2, .int 0), (0, .ref 191), (1, .int 20)]) rfl (by decide) rfl ?_
  have e192_44 := (f44.ne rfl (f43.ne rfl e192_42))
  refine en_loop (m := 191) (a := 192) rfl rfl (by decide) (by decide) 20 0 h44 _ rfl o44 e192_44 (fun h45 f45 => ?_)
  have s45 := s44.put f45
  show aW aiP 217 16 636 88 [(2, .int 20), (0, .ref 191), (1, .int 20)] [] h45 _
  refine q_aload_n rfl rfl ?_
  have e191_45 := (o44.ne f45 rfl)
  refine s_get (v := .int 20) rfl e191_45 rfl rfl ?_
  refine q_ireturn rfl rfl ?_
  show aW aiP 0 17 658 243 [(4, .int 0), (3, .ref 233), (2, .ref 191), (1, .ref 6), (0, .ref 0)] [.int 20, .int 20] h45 _
  refine q_icmp_eq rfl (fun _ => ?_) (fun c => absurd (by decide) c)
  refine s_iinc (y := 6) (lv' := [(4, .int 6), (3, .ref 233), (2, .ref 191), (1, .ref 6), (0, .ref 0)]) rfl rfl (by decide) (by decide) rfl ?_
  refine q_goto rfl ?_
  refine q_iload rfl rfl ?_
  refine q_aload_n rfl rfl ?_
  have e0_45 := (f45.ne rfl (f44.ne rfl (f43.ne rfl (f42.ne rfl (f41.ne rfl (f40.ne rfl (f39.ne rfl (f38.ne rfl (f37.ne rfl (f36.ne rfl (f35.ne rfl (f34.ne rfl (f33.ne rfl (f32.ne rfl (f31.ne rfl (f30.ne rfl (f29.ne rfl (f28.ne rfl (f27.ne rfl (f26.ne rfl (f25.ne rfl (f24.ne rfl (f23.ne rfl (f22.ne rfl (f21.ne rfl (f20.ne rfl (f19.ne rfl (f18.ne rfl (f17.ne rfl (f16.ne rfl (f15.ne rfl (f14.ne rfl (f13.ne rfl (f12.ne rfl (f11.ne rfl (f10.ne rfl (f9.ne rfl (f8.ne rfl (f7.ne rfl (f6.ne rfl (f5.ne rfl (f4.ne rfl e0_3))))))))))))))))))))))))))))))))))))))))))
  refine s_alen (x := 6) rfl e0_45 rfl (by decide) ?_
  refine q_bipush rfl ?_
  refine s_isub (k := 0) rfl (by decide) ?_
  refine q_icmp_gt rfl (fun _ => ?_) (fun c => absurd (by decide) c)
  refine q_iconst rfl ?_
  refine q_ireturn rfl rfl ?_
  exact ⟨rfl, s45.bd rfl⟩
