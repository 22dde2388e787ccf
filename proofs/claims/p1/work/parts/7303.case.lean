/-! case 3 of the law; made by wip/tools/p1.py -/
set_option maxRecDepth 20000 in
set_option maxHeartbeats 4000000 in
theorem p_case3 {xs : Nat → Int32} {h : ai_H} (F : Fresh 6 xs h) (hk : xs 0 &&& 31 = 3) : aW aiP 0 17 658 33 [(4, .int 0), (3, .ref 233), (2, .ref 191), (1, .ref 6), (0, .ref 0)] [] h p_Q := by
  have s0 := F.2.2.2.2.2.2.2.2.2.2.2.2.2.2.2.2.2.2.2.2.2.2.2.2.2.2.2.2.2.2.2.2.2.2.2.2.2.2.2.2.2.2.2.2.2.2.2.2.2.2.2.2.2.2.2.2.2.2.2.2.2.2.2.2.2.2.2.2.2.2
  refine q_aload_n rfl rfl ?_
  refine q_iload rfl rfl ?_
  have e0 := F.1
  refine s_iaload (j := 0) (v := .int (xs 0)) rfl e0 (by decide) rfl (by first | rfl | decide) ?_
  refine q_bipush rfl ?_
  refine s_iand (k := ((xs 0) &&& (31 : Int32))) rfl rfl ?_
  rw [hk]
  show aW aiP 0 17 658 40 [(4, .int 0), (3, .ref 233), (2, .ref 191), (1, .ref 6), (0, .ref 0)] [.int 3] h _
  refine s_sw (tg := 328) rfl rfl ?_
  refine q_aload_n rfl rfl ?_
  have e6 := F.2.2.2.2.2.2.1
  refine s_callV (as := []) (rest := []) (d' := 16) (w' := 636) (lv' := [(0, .ref 6)]) rfl e6 rfl rfl rfl rfl rfl rfl ?_
  refine q_aload_n rfl rfl ?_
  refine s_callV (as := []) (rest := []) (d' := 15) (w' := 615) (lv' := [(0, .ref 6)]) rfl e6 rfl rfl rfl rfl rfl rfl ?_
  refine q_aload_n rfl rfl ?_
  refine s_get (v := .ref 8) rfl e6 rfl rfl ?_
  refine q_aload_n rfl rfl ?_
  refine s_get (v := .int 0) rfl e6 rfl rfl ?_
  refine s_callS (as := [.ref 8, .int 0]) (rest := []) (d' := 14) (w' := 593) (lv' := [(0, .ref 8), (1, .int 0)]) rfl rfl rfl rfl rfl rfl rfl rfl ?_
  refine q_iload_n rfl rfl ?_
  refine q_aload_n rfl rfl ?_
  have e8 := F.2.2.2.2.2.2.2.2.1
  refine s_alen (x := 400) rfl e8 rfl (by decide) ?_
  refine q_icmp_ne rfl (fun _ => ?_) (fun c => absurd (by decide) c)
  refine q_iload_n rfl rfl ?_
  refine s_newa (k := 0) (n' := 235) (q' := 511456) (v0 := .int 0) rfl (by decide) rfl s0 rfl rfl rfl (fun h1 o1 f1 s1 => ?_)
  refine s_astore_n (lv' := [(2, .ref 234), (0, .ref 8), (1, .int 0)]) rfl (by decide) rfl ?_
  refine q_aload_n rfl rfl ?_
  refine q_iconst rfl ?_
  refine q_aload_n rfl rfl ?_
  refine q_iconst rfl ?_
  refine q_aload_n rfl rfl ?_
  have e8_1 := (f1.nw e8)
  refine s_alen (x := 400) rfl e8_1 rfl (by decide) ?_
  refine q_iload_n rfl rfl ?_
  refine s_min (k := 0) rfl rfl (by decide) ?_
  refine s_copy (sp := 0) (dp := 0) (k := 0) rfl e8_1 o1 (by decide) (by decide) (by decide) rfl (by decide) (by decide) (by decide) (fun i hi => absurd hi (Nat.not_lt_zero i)) (fun h2 o2 f2 => ?_)
  have s2 := s1.put f2
  refine q_aload_n rfl rfl ?_
  refine q_areturn rfl rfl rfl ?_
  show aW aiP 18 15 615 11 [(0, .ref 6)] [.ref 234] h2 _
  refine s_astore_n (lv' := [(1, .ref 234), (0, .ref 6)]) rfl (by decide) rfl ?_
  refine q_aload_n rfl rfl ?_
  refine q_iconst rfl ?_
  have e6_2 := ((e6.nw f1).ne f2 rfl)
  refine s_put (vs' := [.ref 7, .ref 8, .int 0, .ref 9, .int (-1), .ref 51, .ref 93, .ref 135, .ref 177, .ref 180, .int 0, .ref 183, .ref 186, .ref 189]) rfl e6_2 rfl rfl rfl rfl (fun h3 o3 f3 => ?_)
  have s3 := s2.put f3
  refine q_aload_n rfl rfl ?_
  refine q_areturn rfl rfl rfl ?_
  show aW aiP 17 16 636 4 [(0, .ref 6)] [.ref 234] h3 _
  refine s_astore_n (lv' := [(1, .ref 234), (0, .ref 6)]) rfl (by decide) rfl ?_
  refine q_aload_n rfl rfl ?_
  refine q_aload_n rfl rfl ?_
  refine s_callS (as := [.ref 234]) (rest := [.ref 6]) (d' := 15) (w' := 613) (lv' := [(0, .ref 234)]) rfl rfl rfl rfl rfl rfl rfl rfl ?_
  refine q_iconst rfl ?_
  refine s_istore_n (lv' := [(1, .int 0), (0, .ref 234)]) rfl (by decide) rfl ?_
  refine q_iconst rfl ?_
  refine s_istore_n (lv' := [(2, .int 0), (1, .int 0), (0, .ref 234)]) rfl (by decide) rfl ?_
  refine q_iconst rfl ?_
  refine s_istore_n (lv' := [(3, .int 0), (2, .int 0), (1, .int 0), (0, .ref 234)]) rfl (by decide) rfl ?_
  refine q_iload_n rfl rfl ?_
  refine q_aload_n rfl rfl ?_
  have e234_3 := (f3.ne rfl o2)
  refine s_alen (x := 0) rfl e234_3 rfl (by decide) ?_
  refine q_icmp_gt rfl (fun c => absurd c (by decide)) (fun _ => ?_)
  refine q_iload_n rfl rfl ?_
  refine q_aload_n rfl rfl ?_
  refine s_alen (x := 0) rfl e234_3 rfl (by decide) ?_
  refine q_icmp_eq rfl (fun _ => ?_) (fun c => absurd (by decide) c)
  refine q_aload_n rfl rfl ?_
  refine q_iload_n rfl rfl ?_
  refine q_iload_n rfl rfl ?_
  refine s_callS (as := [.ref 234, .int 0, .int 0]) (rest := []) (d' := 14) (w' := 588) (lv' := [(0, .ref 234), (1, .int 0), (2, .int 0)]) rfl rfl rfl rfl rfl rfl rfl rfl ?_
  refine q_iload_n rfl rfl ?_
  refine q_iload_n rfl rfl ?_
  refine s_isub (k := 0) rfl (by decide) ?_
  refine s_istore_n (lv' := [(3, .int 0), (0, .ref 234), (1, .int 0), (2, .int 0)]) rfl (by decide) rfl ?_
  refine q_iload_n rfl rfl ?_
  refine q_iconst rfl ?_
  refine q_icmp_lt rfl (fun _ => ?_) (fun c => absurd (by decide) c)
  refine q_iconst rfl ?_
  refine q_ireturn rfl rfl ?_
  show aW aiP 21 15 613 32 [(3, .int 0), (2, .int 0), (1, .int 0), (0, .ref 234)] [.int 0] h3 _
  refine q_if_ne rfl (fun c => absurd c (by decide)) (fun _ => ?_)
  refine q_iconst rfl ?_
  refine q_ireturn rfl rfl ?_
  show aW aiP 17 16 636 10 [(1, .ref 234), (0, .ref 6)] [.int 0, .ref 6] h3 _
  refine q_if_eq rfl (fun _ => ?_) (fun c => absurd (by decide) c)
  refine q_iconst rfl ?_
  refine s_put (vs' := [.ref 7, .ref 8, .int 0, .ref 9, .int (-1), .ref 51, .ref 93, .ref 135, .ref 177, .ref 180, .int 0, .ref 183, .ref 186, .ref 189]) rfl o3 rfl rfl rfl rfl (fun h4 o4 f4 => ?_)
  have s4 := s3.put f4
  refine q_aload_n rfl rfl ?_
  refine s_get (v := .ref 9) rfl o4 rfl rfl ?_
  refine q_aload_n rfl rfl ?_
  refine s_get (v := .int (-1)) rfl o4 rfl rfl ?_
  have e9 := F.2.2.2.2.2.2.2.2.2.1
  have e9_4 := ((((e9.nw f1).ne f2 rfl).ne f3 rfl).ne f4 rfl)
  refine s_callV (as := [.int (-1)]) (rest := []) (d' := 15) (w' := 615) (lv' := [(0, .ref 9), (1, .int (-1))]) rfl e9_4 rfl rfl rfl rfl rfl rfl ?_
  refine q_iload_n rfl rfl ?_
  refine q_if_lt rfl (fun _ => ?_) (fun c => absurd (by decide) c)
  refine q_null rfl ?_
  refine q_goto rfl ?_
  refine q_areturn rfl rfl rfl ?_
  show aW aiP 17 16 636 39 [(1, .ref 234), (0, .ref 6)] [.null] h4 _
  refine s_astore_nN (lv' := [(2, .null), (1, .ref 234), (0, .ref 6)]) rfl (by decide) rfl ?_
  refine q_aload_nN rfl rfl ?_
  refine q_ifnonnullN rfl ?_
  refine q_iconst rfl ?_
  refine q_goto rfl ?_
  refine q_ireturn rfl rfl ?_
  show aW aiP 0 17 658 332 [(4, .int 0), (3, .ref 233), (2, .ref 191), (1, .ref 6), (0, .ref 0)] [.int (-1)] h4 _
  refine q_aload_n rfl rfl ?_
  have e191 := F.2.2.2.2.2.2.2.2.2.2.2.2.2.2.2.2.2.2.2.2.2.2.2.2.2.2.2.1
  have e191_4 := ((((e191.nw f1).ne f2 rfl).ne f3 rfl).ne f4 rfl)
  refine s_callV (as := []) (rest := [.int (-1)]) (d' := 16) (w' := 638) (lv' := [(0, .ref 191)]) rfl e191_4 rfl rfl rfl rfl rfl rfl ?_
  refine q_aload_n rfl rfl ?_
  refine q_iconst rfl ?_
  refine s_put (vs' := [.int 0, .ref 192, .ref 193, .int 0, .ref 194, .ref 195, .ref 196, .ref 197, .ref 198, .ref 199, .ref 200, .ref 201, .ref 202, .ref 203, .ref 204, .ref 205, .int (-1), .int 0, .ref 206, .ref 207, .ref 208, .ref 209, .ref 210, .ref 211, .ref 212, .ref 213, .ref 214, .ref 215, .int 0, .int 0, .int 0, .int 0, .ref 216, .ref 217, .ref 218, .ref 219, .ref 220, .int (-1), .int 0, .int 0, .int 0, .int 0, .int 0, .int 0, .ref 221, .ref 222, .ref 223, .ref 224, .int 0, .ref 225, .int 0, .ref 226, .ref 227, .int 0, .ref 228, .ref 229, .ref 230, .ref 231, .ref 232]) rfl e191_4 rfl rfl rfl rfl (fun h5 o5 f5 => ?_)
  have s5 := s4.put f5
  refine q_aload_n rfl rfl ?_
  refine s_callV (as := []) (rest := []) (d' := 15) (w' := 617) (lv' := [(0, .ref 191)]) rfl o5 rfl rfl rfl rfl rfl rfl ?_
  refine q_iconst rfl ?_
  refine s_istore_n (lv' := [(1, .int 0), (0, .ref 191)]) rfl (by decide) rfl ?_
  refine q_iload_n rfl rfl ?_
  refine q_aload_n rfl rfl ?_
  refine s_get (v := .int 0) rfl o5 rfl rfl ?_
  refine q_icmp_ge rfl (fun _ => ?_) (fun c => absurd (by decide) c)
  refine q_aload_n rfl rfl ?_
  refine q_aload_n rfl rfl ?_
  refine s_get (v := .int 0) rfl o5 rfl rfl ?_
  refine s_put (vs' := [.int 0, .ref 192, .ref 193, .int 0, .ref 194, .ref 195, .ref 196, .ref 197, .ref 198, .ref 199, .ref 200, .ref 201, .ref 202, .ref 203, .ref 204, .ref 205, .int (-1), .int 0, .ref 206, .ref 207, .ref 208, .ref 209, .ref 210, .ref 211, .ref 212, .ref 213, .ref 214, .ref 215, .int 0, .int 0, .int 0, .int 0, .ref 216, .ref 217, .ref 218, .ref 219, .ref 220, .int (-1), .int 0, .int 0, .int 0, .int 0, .int 0, .int 0, .ref 221, .ref 222, .ref 223, .ref 224, .int 0, .ref 225, .int 0, .ref 226, .ref 227, .int 0, .ref 228, .ref 229, .ref 230, .ref 231, .ref 232]) rfl o5 rfl rfl rfl rfl (fun h6 o6 f6 => ?_)
  have s6 := s5.put f6
  refine q_aload_n rfl rfl ?_
  refine q_iconst rfl ?_
  refine s_put (vs' := [.int 0, .ref 192, .ref 193, .int 0, .ref 194, .ref 195, .ref 196, .ref 197, .ref 198, .ref 199, .ref 200, .ref 201, .ref 202, .ref 203, .ref 204, .ref 205, .int (-1), .int 0, .ref 206, .ref 207, .ref 208, .ref 209, .ref 210, .ref 211, .ref 212, .ref 213, .ref 214, .ref 215, .int 0, .int 0, .int 0, .int 0, .ref 216, .ref 217, .ref 218, .ref 219, .ref 220, .int (-1), .int 0, .int 0, .int 0, .int 0, .int 0, .int 0, .ref 221, .ref 222, .ref 223, .ref 224, .int 0, .ref 225, .int 0, .ref 226, .ref 227, .int 0, .ref 228, .ref 229, .ref 230, .ref 231, .ref 232]) rfl o6 rfl rfl rfl rfl (fun h7 o7 f7 => ?_)
  have s7 := s6.put f7
  refine q_return rfl rfl ?_
  show aW aiP 231 16 638 9 [(0, .ref 191)] [] h7 _
  refine q_aload_n rfl rfl ?_
  refine q_aload_n rfl rfl ?_
  refine s_callV (as := []) (rest := [.ref 191]) (d' := 15) (w' := 613) (lv' := [(0, .ref 191)]) rfl o7 rfl rfl rfl rfl rfl rfl ?_
  refine q_iconst rfl ?_
  refine s_istore_n (lv' := [(1, .int 1), (0, .ref 191)]) rfl (by decide) rfl ?_
  refine q_iconst rfl ?_
  refine s_istore_n (lv' := [(2, .int 0), (1, .int 1), (0, .ref 191)]) rfl (by decide) rfl ?_
  refine q_iconst rfl ?_
  refine s_istore_n (lv' := [(3, .int 0), (2, .int 0), (1, .int 1), (0, .ref 191)]) rfl (by decide) rfl ?_
  refine q_iload_n rfl rfl ?_
  refine q_aload_n rfl rfl ?_
  refine s_get (v := .int 0) rfl o7 rfl rfl ?_
  refine q_icmp_gt rfl (fun c => absurd c (by decide)) (fun _ => ?_)
  refine q_iload_n rfl rfl ?_
  refine q_aload_n rfl rfl ?_
  refine s_get (v := .int 0) rfl o7 rfl rfl ?_
  refine q_icmp_ge rfl (fun _ => ?_) (fun c => absurd (by decide) c)
  refine q_iload_n rfl rfl ?_
  refine q_aload_n rfl rfl ?_
  refine s_get (v := .int 0) rfl o7 rfl rfl ?_
  refine q_icmp_ge rfl (fun _ => ?_) (fun c => absurd (by decide) c)
  refine q_iload_n rfl rfl ?_
  refine q_iload_n rfl rfl ?_
  refine s_isub (k := 0) rfl (by decide) ?_
  refine s_istore (lv' := [(4, .int 0), (3, .int 0), (2, .int 0), (1, .int 1), (0, .ref 191)]) rfl (by decide) rfl ?_
  refine q_iload rfl rfl ?_
  refine q_iconst rfl ?_
  refine q_icmp_ge rfl (fun c => absurd c (by decide)) (fun _ => ?_)
  refine q_iload rfl rfl ?_
  refine q_if_le rfl (fun _ => ?_) (fun c => absurd (by decide) c)
  refine q_iconst rfl ?_
  refine s_istore (lv' := [(5, .int 0), (4, .int 0), (3, .int 0), (2, .int 0), (1, .int 1), (0, .ref 191)]) rfl (by decide) rfl ?_
  refine q_iload rfl rfl ?_
  refine q_iconst rfl ?_
  refine q_icmp_lt rfl (fun _ => ?_) (fun c => absurd (by decide) c)
  refine q_iconst rfl ?_
  refine q_ireturn rfl rfl ?_
  show aW aiP 231 16 638 14 [(0, .ref 191)] [.int 0, .ref 191] h7 _
  refine q_if_eq rfl (fun _ => ?_) (fun c => absurd (by decide) c)
  refine q_iconst rfl ?_
  refine s_put (vs' := [.int 0, .ref 192, .ref 193, .int 0, .ref 194, .ref 195, .ref 196, .ref 197, .ref 198, .ref 199, .ref 200, .ref 201, .ref 202, .ref 203, .ref 204, .ref 205, .int (-1), .int 0, .ref 206, .ref 207, .ref 208, .ref 209, .ref 210, .ref 211, .ref 212, .ref 213, .ref 214, .ref 215, .int 0, .int 0, .int 0, .int 0, .ref 216, .ref 217, .ref 218, .ref 219, .ref 220, .int (-1), .int 0, .int 0, .int 0, .int 0, .int 0, .int 0, .ref 221, .ref 222, .ref 223, .ref 224, .int 0, .ref 225, .int 0, .ref 226, .ref 227, .int 0, .ref 228, .ref 229, .ref 230, .ref 231, .ref 232]) rfl o7 rfl rfl rfl rfl (fun h8 o8 f8 => ?_)
  have s8 := s7.put f8
  refine q_aload_n rfl rfl ?_
  refine s_get (v := .int (-1)) rfl o8 rfl rfl ?_
  refine q_if_ge rfl (fun c => absurd c (by decide)) (fun _ => ?_)
  refine q_iconst rfl ?_
  refine q_goto rfl ?_
  refine q_ireturn rfl rfl ?_
  show aW aiP 0 17 658 336 [(4, .int 0), (3, .ref 233), (2, .ref 191), (1, .ref 6), (0, .ref 0)] [.int (-1), .int (-1)] h8 _
  refine q_icmp_eq rfl (fun _ => ?_) (fun c => absurd (by decide) c)
  refine s_iinc (y := 6) (lv' := [(4, .int 6), (3, .ref 233), (2, .ref 191), (1, .ref 6), (0, .ref 0)]) rfl rfl (by decide) (by decide) rfl ?_
  refine q_goto rfl ?_
  refine q_iload rfl rfl ?_
  refine q_aload_n rfl rfl ?_
  have e0_8 := (f8.ne rfl (f7.ne rfl (f6.ne rfl (f5.ne rfl (f4.ne rfl (f3.ne rfl (f2.ne rfl (f1.nw e0))))))))
  refine s_alen (x := 6) rfl e0_8 rfl (by decide) ?_
  refine q_bipush rfl ?_
  refine s_isub (k := 0) rfl (by decide) ?_
  refine q_icmp_gt rfl (fun _ => ?_) (fun c => absurd (by decide) c)
  refine q_iconst rfl ?_
  refine q_ireturn rfl rfl ?_
  exact ⟨rfl, s8.bd rfl⟩
