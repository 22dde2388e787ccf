/-! case 8 of the law; made by wip/tools/p1.py -/
set_option maxRecDepth 20000 in
set_option maxHeartbeats 4000000 in
theorem p_case8n {xs : Nat → Int32} {h : ai_H} (F : Fresh 6 xs h) (hk : xs 0 &&& 31 = 8) (hw : xs 1 < 0) : aW aiP 0 17 658 33 [(4, .int 0), (3, .ref 233), (2, .ref 191), (1, .ref 6), (0, .ref 0)] [] h p_Q := by
  have s0 := F.2.2.2.2.2.2.2.2.2.2.2.2.2.2.2.2.2.2.2.2.2.2.2.2.2.2.2.2.2.2.2.2.2.2.2.2.2.2.2.2.2.2.2.2.2.2.2.2.2.2.2.2.2.2.2.2.2.2.2.2.2.2.2.2.2.2.2.2.2.2
  refine q_aload_n rfl rfl ?_
  refine q_iload rfl rfl ?_
  have e0 := F.1
  refine s_iaload (j := 0) (v := .int (xs 0)) rfl e0 (by decide) rfl (by first | rfl | decide) ?_
  refine q_bipush rfl ?_
  refine s_iand (k := ((xs 0) &&& (31 : Int32))) rfl rfl ?_
  rw [hk]
  show aW aiP 0 17 658 40 [(4, .int 0), (3, .ref 233), (2, .ref 191), (1, .ref 6), (0, .ref 0)] [.int 8] h _
  refine s_sw (tg := 553) rfl rfl ?_
  refine q_aload_n rfl rfl ?_
  refine q_aload_n rfl rfl ?_
  refine q_iload rfl rfl ?_
  refine q_iconst rfl ?_
  refine s_iadd (k := 1) rfl (by decide) ?_
  refine s_iaload (j := 1) (v := .int (xs 1)) rfl e0 (by decide) rfl (by first | rfl | decide) ?_
  refine q_aload_n rfl rfl ?_
  refine s_callS (as := [.ref 6, .int (xs 1), .ref 233]) (rest := []) (d' := 16) (w' := 635) (lv' := [(0, .ref 6), (1, .int (xs 1)), (2, .ref 233)]) rfl rfl rfl rfl rfl rfl rfl rfl ?_
  refine q_aload_n rfl rfl ?_
  refine q_iconst rfl ?_
  refine q_aload_n rfl rfl ?_
  refine q_iload_n rfl rfl ?_
  have e6 := F.2.2.2.2.2.2.1
  refine s_callV (as := [.int (xs 1)]) (rest := [.int 0, .ref 233]) (d' := 15) (w' := 614) (lv' := [(0, .ref 6), (1, .int (xs 1))]) rfl e6 rfl rfl rfl rfl rfl rfl ?_
  refine q_aload_n rfl rfl ?_
  refine s_get (v := .int 0) rfl e6 rfl rfl ?_
  refine q_if_ne rfl (fun c => absurd c (by decide)) (fun _ => ?_)
  refine q_aload_n rfl rfl ?_
  refine s_get (v := .ref 177) rfl e6 rfl rfl ?_
  have e177 := F.2.2.2.2.2.2.2.2.2.2.2.2.2.1
  refine s_callV (as := []) (rest := []) (d' := 14) (w' := 594) (lv' := [(0, .ref 177)]) rfl e177 rfl rfl rfl rfl rfl rfl ?_
  refine q_aload_n rfl rfl ?_
  refine s_get (v := .ref 179) rfl e177 rfl rfl ?_
  refine q_iconst rfl ?_
  have e179 := F.2.2.2.2.2.2.2.2.2.2.2.2.2.2.2.1
  refine s_iaload (j := 5) (v := .int 0) rfl e179 (by decide) rfl (by first | rfl | decide) ?_
  refine q_ireturn rfl rfl ?_
  show aW aiP 82 15 614 14 [(0, .ref 6), (1, .int (xs 1))] [.int 0] h _
  refine q_bipush rfl ?_
  refine q_icmp_lt rfl (fun _ => ?_) (fun c => absurd (by decide) c)
  refine q_iload_n rfl rfl ?_
  refine q_if_lt rfl (fun _ => ?_) (fun c => absurd hw c)
  refine s_thr rfl rfl rfl ?_
  refine ⟨rfl, Or.inl ⟨12, rfl, fun h1 f1 l1 => ?_⟩⟩
  have s1 := Hs.exc s0 f1 l1
  show aW aiP 81 16 635 12 [(0, .ref 6), (1, .int (xs 1)), (2, .ref 233)] [.ref (h.length)] h1 _
  refine s_astore_n (lv' := [(3, .ref (h.length)), (0, .ref 6), (1, .int (xs 1)), (2, .ref 233)]) rfl (by decide) rfl ?_
  refine q_iconst rfl ?_
  refine q_ireturn rfl rfl ?_
  show aW aiP 0 17 658 564 [(4, .int 0), (3, .ref 233), (2, .ref 191), (1, .ref 6), (0, .ref 0)] [.int 1] h1 _
  refine s_istore (lv' := [(5, .int 1), (4, .int 0), (3, .ref 233), (2, .ref 191), (1, .ref 6), (0, .ref 0)]) rfl (by decide) rfl ?_
  refine q_aload_n rfl rfl ?_
  refine q_aload_n rfl rfl ?_
  refine q_iload rfl rfl ?_
  refine q_iconst rfl ?_
  refine s_iadd (k := 1) rfl (by decide) ?_
  have e0_1 := (f1.nw e0)
  refine s_iaload (j := 1) (v := .int (xs 1)) rfl e0_1 (by decide) rfl (by first | rfl | decide) ?_
  have e191 := F.2.2.2.2.2.2.2.2.2.2.2.2.2.2.2.2.2.2.2.2.2.2.2.2.2.2.2.1
  have e191_1 := (e191.nw f1)
  refine s_callV (as := [.int (xs 1)]) (rest := []) (d' := 16) (w' := 636) (lv' := [(0, .ref 191), (1, .int (xs 1))]) rfl e191_1 rfl rfl rfl rfl rfl rfl ?_
  refine q_aload_n rfl rfl ?_
  refine s_get (v := .int 0) rfl e191_1 rfl rfl ?_
  refine q_if_ne rfl (fun c => absurd c (by decide)) (fun _ => ?_)
  refine q_aload_n rfl rfl ?_
  refine s_callV (as := []) (rest := []) (d' := 15) (w' := 614) (lv' := [(0, .ref 191)]) rfl e191_1 rfl rfl rfl rfl rfl rfl ?_
  refine q_iconst rfl ?_
  refine s_istore_n (lv' := [(1, .int 0), (0, .ref 191)]) rfl (by decide) rfl ?_
  refine q_iconst rfl ?_
  refine s_istore_n (lv' := [(2, .int 0), (1, .int 0), (0, .ref 191)]) rfl (by decide) rfl ?_
  refine q_iload_n rfl rfl ?_
  refine q_aload_n rfl rfl ?_
  refine s_get (v := .int 0) rfl e191_1 rfl rfl ?_
  refine q_icmp_ge rfl (fun _ => ?_) (fun c => absurd (by decide) c)
  refine q_iload_n rfl rfl ?_
  refine q_ireturn rfl rfl ?_
  show aW aiP 249 16 636 11 [(0, .ref 191), (1, .int (xs 1))] [.int 0] h1 _
  refine q_bipush rfl ?_
  refine q_icmp_ne rfl (fun _ => ?_) (fun c => absurd (by decide) c)
  refine q_iconst rfl ?_
  refine s_istore_n (lv' := [(2, .int 0), (0, .ref 191), (1, .int (xs 1))]) rfl (by decide) rfl ?_
  refine q_aload_n rfl rfl ?_
  refine q_iload_n rfl rfl ?_
  refine q_if_ne rfl (fun c => absurd c (by decide)) (fun _ => ?_)
  refine q_aload_n rfl rfl ?_
  refine q_iload_n rfl rfl ?_
  refine s_callV (as := [.int (xs 1)]) (rest := [.ref 191]) (d' := 15) (w' := 615) (lv' := [(0, .ref 191), (1, .int (xs 1))]) rfl e191_1 rfl rfl rfl rfl rfl rfl ?_
  refine q_iload_n rfl rfl ?_
  refine q_if_lt rfl (fun _ => ?_) (fun c => absurd hw c)
  refine q_iconst rfl ?_
  refine q_goto rfl ?_
  refine q_ireturn rfl rfl ?_
  show aW aiP 249 16 636 32 [(2, .int 0), (0, .ref 191), (1, .int (xs 1))] [.int 1, .ref 191] h1 _
  refine q_if_eq rfl (fun c => absurd c (by decide)) (fun _ => ?_)
  refine q_iconst rfl ?_
  refine q_goto rfl ?_
  refine q_iload_n rfl rfl ?_
  refine s_callV (as := [.int 1, .int 0]) (rest := []) (d' := 15) (w' := 614) (lv' := [(0, .ref 191), (1, .int 1), (2, .int 0)]) rfl e191_1 rfl rfl rfl rfl rfl rfl ?_
  refine q_aload_n rfl rfl ?_
  refine q_iload_n rfl rfl ?_
  refine q_if_eq rfl (fun c => absurd c (by decide)) (fun _ => ?_)
  refine q_iconst rfl ?_
  refine q_goto rfl ?_
  refine s_put (vs' := [.int 1, .ref 192, .ref 193, .int 0, .ref 194, .ref 195, .ref 196, .ref 197, .ref 198, .ref 199, .ref 200, .ref 201, .ref 202, .ref 203, .ref 204, .ref 205, .int (-1), .int 0, .ref 206, .ref 207, .ref 208, .ref 209, .ref 210, .ref 211, .ref 212, .ref 213, .ref 214, .ref 215, .int 0, .int 0, .int 0, .int 0, .ref 216, .ref 217, .ref 218, .ref 219, .ref 220, .int (-1), .int 0, .int 0, .int 0, .int 0, .int 0, .int 0, .ref 221, .ref 222, .ref 223, .ref 224, .int 0, .ref 225, .int 0, .ref 226, .ref 227, .int 0, .ref 228, .ref 229, .ref 230, .ref 231, .ref 232]) rfl e191_1 rfl rfl rfl rfl (fun h2 o2 f2 => ?_)
  have s2 := s1.put f2
  refine q_aload_n rfl rfl ?_
  refine s_get (v := .int 1) rfl o2 rfl rfl ?_
  refine q_if_le rfl (fun c => absurd c (by decide)) (fun _ => ?_)
  refine q_iconst rfl ?_
  refine q_goto rfl ?_
  refine q_ireturn rfl rfl ?_
  show aW aiP 249 16 636 44 [(2, .int 0), (0, .ref 191), (1, .int (xs 1))] [.int 1] h2 _
  refine q_if_eq rfl (fun c => absurd c (by decide)) (fun _ => ?_)
  refine q_iconst rfl ?_
  refine q_ireturn rfl rfl ?_
  show aW aiP 0 17 658 576 [(5, .int 1), (4, .int 0), (3, .ref 233), (2, .ref 191), (1, .ref 6), (0, .ref 0)] [.int 0] h2 _
  refine s_istore (lv' := [(6, .int 0), (5, .int 1), (4, .int 0), (3, .ref 233), (2, .ref 191), (1, .ref 6), (0, .ref 0)]) rfl (by decide) rfl ?_
  refine q_aload_n rfl rfl ?_
  refine s_callV (as := []) (rest := []) (d' := 16) (w' := 638) (lv' := [(0, .ref 191)]) rfl o2 rfl rfl rfl rfl rfl rfl ?_
  refine q_aload_n rfl rfl ?_
  refine s_get (v := .int 1) rfl o2 rfl rfl ?_
  refine q_ireturn rfl rfl ?_
  show aW aiP 0 17 658 582 [(6, .int 0), (5, .int 1), (4, .int 0), (3, .ref 233), (2, .ref 191), (1, .ref 6), (0, .ref 0)] [.int 1] h2 _
  refine q_iload rfl rfl ?_
  refine q_icmp_eq rfl (fun _ => ?_) (fun c => absurd (by decide) c)
  refine q_iload rfl rfl ?_
  refine q_if_ne rfl (fun _ => ?_) (fun c => absurd (by decide) c)
  refine q_goto rfl ?_
  refine s_iinc (y := 6) (lv' := [(4, .int 6), (6, .int 0), (5, .int 1), (3, .ref 233), (2, .ref 191), (1, .ref 6), (0, .ref 0)]) rfl rfl (by decide) (by decide) rfl ?_
  refine q_goto rfl ?_
  refine q_iload rfl rfl ?_
  refine q_aload_n rfl rfl ?_
  have e0_2 := (f2.ne rfl e0_1)
  refine s_alen (x := 6) rfl e0_2 rfl (by decide) ?_
  refine q_bipush rfl ?_
  refine s_isub (k := 0) rfl (by decide) ?_
  refine q_icmp_gt rfl (fun _ => ?_) (fun c => absurd (by decide) c)
  refine q_iconst rfl ?_
  refine q_ireturn rfl rfl ?_
  exact ⟨rfl, s2.bd rfl⟩
set_option maxRecDepth 20000 in
set_option maxHeartbeats 4000000 in
theorem p_case8p {xs : Nat → Int32} {h : ai_H} (F : Fresh 6 xs h) (hk : xs 0 &&& 31 = 8) (hw : ¬ xs 1 < 0) : aW aiP 0 17 658 33 [(4, .int 0), (3, .ref 233), (2, .ref 191), (1, .ref 6), (0, .ref 0)] [] h p_Q := by
  have s0 := F.2.2.2.2.2.2.2.2.2.2.2.2.2.2.2.2.2.2.2.2.2.2.2.2.2.2.2.2.2.2.2.2.2.2.2.2.2.2.2.2.2.2.2.2.2.2.2.2.2.2.2.2.2.2.2.2.2.2.2.2.2.2.2.2.2.2.2.2.2.2
  refine q_aload_n rfl rfl ?_
  refine q_iload rfl rfl ?_
  have e0 := F.1
  refine s_iaload (j := 0) (v := .int (xs 0)) rfl e0 (by decide) rfl (by first | rfl | decide) ?_
  refine q_bipush rfl ?_
  refine s_iand (k := ((xs 0) &&& (31 : Int32))) rfl rfl ?_
  rw [hk]
  show aW aiP 0 17 658 40 [(4, .int 0), (3, .ref 233), (2, .ref 191), (1, .ref 6), (0, .ref 0)] [.int 8] h _
  refine s_sw (tg := 553) rfl rfl ?_
  refine q_aload_n rfl rfl ?_
  refine q_aload_n rfl rfl ?_
  refine q_iload rfl rfl ?_
  refine q_iconst rfl ?_
  refine s_iadd (k := 1) rfl (by decide) ?_
  refine s_iaload (j := 1) (v := .int (xs 1)) rfl e0 (by decide) rfl (by first | rfl | decide) ?_
  refine q_aload_n rfl rfl ?_
  refine s_callS (as := [.ref 6, .int (xs 1), .ref 233]) (rest := []) (d' := 16) (w' := 635) (lv' := [(0, .ref 6), (1, .int (xs 1)), (2, .ref 233)]) rfl rfl rfl rfl rfl rfl rfl rfl ?_
  refine q_aload_n rfl rfl ?_
  refine q_iconst rfl ?_
  refine q_aload_n rfl rfl ?_
  refine q_iload_n rfl rfl ?_
  have e6 := F.2.2.2.2.2.2.1
  refine s_callV (as := [.int (xs 1)]) (rest := [.int 0, .ref 233]) (d' := 15) (w' := 614) (lv' := [(0, .ref 6), (1, .int (xs 1))]) rfl e6 rfl rfl rfl rfl rfl rfl ?_
  refine q_aload_n rfl rfl ?_
  refine s_get (v := .int 0) rfl e6 rfl rfl ?_
  refine q_if_ne rfl (fun c => absurd c (by decide)) (fun _ => ?_)
  refine q_aload_n rfl rfl ?_
  refine s_get (v := .ref 177) rfl e6 rfl rfl ?_
  have e177 := F.2.2.2.2.2.2.2.2.2.2.2.2.2.1
  refine s_callV (as := []) (rest := []) (d' := 14) (w' := 594) (lv' := [(0, .ref 177)]) rfl e177 rfl rfl rfl rfl rfl rfl ?_
  refine q_aload_n rfl rfl ?_
  refine s_get (v := .ref 179) rfl e177 rfl rfl ?_
  refine q_iconst rfl ?_
  have e179 := F.2.2.2.2.2.2.2.2.2.2.2.2.2.2.2.1
  refine s_iaload (j := 5) (v := .int 0) rfl e179 (by decide) rfl (by first | rfl | decide) ?_
  refine q_ireturn rfl rfl ?_
  show aW aiP 82 15 614 14 [(0, .ref 6), (1, .int (xs 1))] [.int 0] h _
  refine q_bipush rfl ?_
  refine q_icmp_lt rfl (fun _ => ?_) (fun c => absurd (by decide) c)
  refine q_iload_n rfl rfl ?_
  refine q_if_lt rfl (fun c => absurd c hw) (fun _ => ?_)
  refine q_iload_n rfl rfl ?_
  refine q_aload_n rfl rfl ?_
  refine s_get (v := .ref 177) rfl e6 rfl rfl ?_
  refine s_callV (as := []) (rest := [.int (xs 1)]) (d' := 14) (w' := 594) (lv' := [(0, .ref 177)]) rfl e177 rfl rfl rfl rfl rfl rfl ?_
  refine q_aload_n rfl rfl ?_
  refine q_aload_n rfl rfl ?_
  refine s_callV (as := []) (rest := [.ref 177]) (d' := 13) (w' := 574) (lv' := [(0, .ref 177)]) rfl e177 rfl rfl rfl rfl rfl rfl ?_
  refine q_aload_n rfl rfl ?_
  refine s_get (v := .ref 179) rfl e177 rfl rfl ?_
  refine q_iconst rfl ?_
  refine s_iaload (j := 5) (v := .int 0) rfl e179 (by decide) rfl (by first | rfl | decide) ?_
  refine q_ireturn rfl rfl ?_
  show aW aiP 83 14 594 5 [(0, .ref 177)] [.int 0, .ref 177] h _
  refine q_iconst rfl ?_
  refine s_isub (k := (-1)) rfl (by decide) ?_
  refine s_callV (as := [.int (-1)]) (rest := []) (d' := 13) (w' := 572) (lv' := [(0, .ref 177), (1, .int (-1))]) rfl e177 rfl rfl rfl rfl rfl rfl ?_
  refine q_iload_n rfl rfl ?_
  refine q_if_ge rfl (fun c => absurd c (by decide)) (fun _ => ?_)
  refine q_null rfl ?_
  refine q_goto rfl ?_
  refine s_astore_nN (lv' := [(2, .null), (0, .ref 177), (1, .int (-1))]) rfl (by decide) rfl ?_
  refine q_aload_nN rfl rfl ?_
  refine q_ifnonnullN rfl ?_
  refine q_iconst rfl ?_
  refine q_goto rfl ?_
  refine q_ireturn rfl rfl ?_
  show aW aiP 83 14 594 10 [(0, .ref 177)] [.int (-1)] h _
  refine q_ireturn rfl rfl ?_
  show aW aiP 82 15 614 39 [(0, .ref 6), (1, .int (xs 1))] [.int (-1), .int (xs 1)] h _
  refine q_icmp_gt rfl (fun _ => ?_) (fun c => absurd (Int32.not_le.mp (nl1 hw)) c)
  refine q_aload_n rfl rfl ?_
  refine q_iload_n rfl rfl ?_
  refine s_callV (as := [.int (xs 1)]) (rest := []) (d' := 14) (w' := 592) (lv' := [(0, .ref 6), (1, .int (xs 1))]) rfl e6 rfl rfl rfl rfl rfl rfl ?_
  refine q_aload_n rfl rfl ?_
  refine s_get (v := .ref 93) rfl e6 rfl rfl ?_
  refine q_iconst rfl ?_
  have e93 := F.2.2.2.2.2.2.2.2.2.2.2.1
  refine s_put (vs' := [.ref 94, .int 0]) rfl e93 rfl rfl rfl rfl (fun h1 o1 f1 => ?_)
  have s1 := s0.put f1
  refine q_aload_n rfl rfl ?_
  have e6_1 := (e6.ne f1 rfl)
  refine s_get (v := .ref 177) rfl e6_1 rfl rfl ?_
  have e177_1 := (e177.ne f1 rfl)
  refine s_callV (as := []) (rest := []) (d' := 13) (w' := 572) (lv' := [(0, .ref 177)]) rfl e177_1 rfl rfl rfl rfl rfl rfl ?_
  refine q_aload_n rfl rfl ?_
  refine s_get (v := .ref 179) rfl e177_1 rfl rfl ?_
  refine q_iconst rfl ?_
  have e179_1 := (f1.ne rfl e179)
  refine s_iaload (j := 5) (v := .int 0) rfl e179_1 (by decide) rfl (by first | rfl | decide) ?_
  refine q_ireturn rfl rfl ?_
  show aW aiP 84 14 592 15 [(0, .ref 6), (1, .int (xs 1))] [.int 0] h1 _
  refine q_if_le rfl (fun _ => ?_) (fun c => absurd (by decide) c)
  refine q_bipush rfl ?_
  refine s_newa (k := 8) (n' := 235) (q' := 511464) (v0 := .int 0) rfl (by decide) rfl s1 rfl rfl rfl (fun h2 o2 f2 s2 => ?_)
  refine s_astore_n (lv' := [(2, .ref 234), (0, .ref 6), (1, .int (xs 1))]) rfl (by decide) rfl ?_
  refine q_aload_n rfl rfl ?_
  refine q_iconst rfl ?_
  refine q_iload_n rfl rfl ?_
  refine s_iastore (j := 0) rfl o2 (by decide) rfl (fun h3 o3 f3 => ?_)
  have s3 := s2.put f3
  refine q_aload_n rfl rfl ?_
  refine q_bipush rfl ?_
  refine q_aload_n rfl rfl ?_
  refine q_aload_n rfl rfl ?_
  have e6_3 := ((e6_1.nw f2).ne f3 rfl)
  refine s_get (v := .ref 93) rfl e6_3 rfl rfl ?_
  refine q_aload_n rfl rfl ?_
  refine s_get (v := .ref 135) rfl e6_3 rfl rfl ?_
  refine s_callV (as := [.ref 93, .ref 135]) (rest := [.int 7, .ref 234]) (d' := 13) (w' := 567) (lv' := [(0, .ref 6), (1, .ref 93), (2, .ref 135)]) rfl e6_3 rfl rfl rfl rfl rfl rfl ?_
  refine q_iconst rfl ?_
  refine s_istore_n (lv' := [(3, .int 0), (0, .ref 6), (1, .ref 93), (2, .ref 135)]) rfl (by decide) rfl ?_
  refine q_aload_n rfl rfl ?_
  refine q_iconst rfl ?_
  have e135 := F.2.2.2.2.2.2.2.2.2.2.2.2.1
  have e135_3 := (((e135.ne f1 rfl).nw f2).ne f3 rfl)
  refine s_put (vs' := [.ref 136, .int 0]) rfl e135_3 rfl rfl rfl rfl (fun h4 o4 f4 => ?_)
  have s4 := s3.put f4
  refine q_iconst rfl ?_
  refine s_istore (lv' := [(4, .int 0), (3, .int 0), (0, .ref 6), (1, .ref 93), (2, .ref 135)]) rfl (by decide) rfl ?_
  refine q_iload rfl rfl ?_
  refine q_aload_n rfl rfl ?_
  have e6_4 := (e6_3.ne f4 rfl)
  refine s_get (v := .ref 9) rfl e6_4 rfl rfl ?_
  have e9 := F.2.2.2.2.2.2.2.2.2.1
  have e9_4 := ((((e9.ne f1 rfl).nw f2).ne f3 rfl).ne f4 rfl)
  refine s_get (v := .int 0) rfl e9_4 rfl rfl ?_
  refine q_icmp_ge rfl (fun _ => ?_) (fun c => absurd (by decide) c)
  refine q_iload_n rfl rfl ?_
  refine q_ireturn rfl rfl ?_
  show aW aiP 84 14 592 60 [(2, .ref 234), (0, .ref 6), (1, .int (xs 1))] [.int 0, .int 7, .ref 234] h4 _
  have e234_4 := (f4.ne rfl o3)
  refine s_iastore (j := 7) rfl e234_4 (by decide) rfl (fun h5 o5 f5 => ?_)
  have s5 := s4.put f5
  refine q_aload_n rfl rfl ?_
  refine q_iconst rfl ?_
  refine q_aload_n rfl rfl ?_
  have e6_5 := (e6_4.ne f5 rfl)
  refine s_get (v := .ref 135) rfl e6_5 rfl rfl ?_
  have e135_5 := (o4.ne f5 rfl)
  refine s_get (v := .int 0) rfl e135_5 rfl rfl ?_
  refine s_iastore (j := 1) rfl o5 (by decide) rfl (fun h6 o6 f6 => ?_)
  have s6 := s5.put f6
  refine q_aload_n rfl rfl ?_
  refine q_bipush rfl ?_
  refine q_aload_n rfl rfl ?_
  have e6_6 := (e6_5.ne f6 rfl)
  refine s_get (v := .ref 135) rfl e6_6 rfl rfl ?_
  have e135_6 := (e135_5.ne f6 rfl)
  refine s_callV (as := []) (rest := [.int 6, .ref 234]) (d' := 13) (w' := 570) (lv' := [(0, .ref 135)]) rfl e135_6 rfl rfl rfl rfl rfl rfl ?_
  refine q_iconst rfl ?_
  refine s_istore_n (lv' := [(1, .int 0), (0, .ref 135)]) rfl (by decide) rfl ?_
  refine q_iconst rfl ?_
  refine s_istore_n (lv' := [(2, .int 0), (1, .int 0), (0, .ref 135)]) rfl (by decide) rfl ?_
  refine q_iload_n rfl rfl ?_
  refine q_aload_n rfl rfl ?_
  refine s_get (v := .int 0) rfl e135_6 rfl rfl ?_
  refine q_icmp_ge rfl (fun _ => ?_) (fun c => absurd (by decide) c)
  refine q_iload_n rfl rfl ?_
  refine q_ireturn rfl rfl ?_
  show aW aiP 84 14 592 81 [(2, .ref 234), (0, .ref 6), (1, .int (xs 1))] [.int 0, .int 6, .ref 234] h6 _
  refine s_iastore (j := 6) rfl o6 (by decide) rfl (fun h7 o7 f7 => ?_)
  have s7 := s6.put f7
  refine q_aload_n rfl rfl ?_
  refine q_aload_n rfl rfl ?_
  have e6_7 := (e6_6.ne f7 rfl)
  refine s_callV (as := [.ref 234]) (rest := []) (d' := 13) (w' := 568) (lv' := [(0, .ref 6), (1, .ref 234)]) rfl e6_7 rfl rfl rfl rfl rfl rfl ?_
  refine s_new (n' := 236) (q' := 511471) (vs := [.null, .null, .int 0, .int 0, .null, .null, .null]) rfl rfl s7 rfl rfl rfl (fun h8 o8 f8 s8 => ?_)
  refine q_dup rfl rfl ?_
  refine q_aload_n rfl rfl ?_
  have e6_8 := (e6_7.nw f8)
  refine s_get (v := .ref 93) rfl e6_8 rfl rfl ?_
  refine q_aload_n rfl rfl ?_
  refine s_get (v := .ref 135) rfl e6_8 rfl rfl ?_
  refine s_callI (as := [.ref 93, .ref 135]) (rest := [.ref 235]) (d' := 12) (w' := 546) (lv' := [(0, .ref 235), (1, .ref 93), (2, .ref 135)]) rfl rfl rfl rfl rfl rfl rfl rfl ?_
  refine q_aload_n rfl rfl ?_
  refine s_objI rfl rfl ?_
  refine q_aload_n rfl rfl ?_
  refine q_iconst rfl ?_
  refine s_put (vs' := [.null, .null, .int 0, .int 0, .null, .null, .null]) rfl o8 rfl rfl rfl rfl (fun h9 o9 f9 => ?_)
  have s9 := s8.put f9
  refine q_aload_n rfl rfl ?_
  refine q_iconst rfl ?_
  refine s_put (vs' := [.null, .null, .int 0, .int 0, .null, .null, .null]) rfl o9 rfl rfl rfl rfl (fun h10 o10 f10 => ?_)
  have s10 := s9.put f10
  refine q_aload_n rfl rfl ?_
  refine q_getstatic rfl ?_
  refine s_put (vs' := [.null, .null, .int 0, .int 0, .ref 1, .null, .null]) rfl o10 rfl rfl rfl rfl (fun h11 o11 f11 => ?_)
  have s11 := s10.put f11
  refine q_aload_n rfl rfl ?_
  refine q_null rfl ?_
  refine s_put (vs' := [.null, .null, .int 0, .int 0, .ref 1, .null, .null]) rfl o11 rfl rfl rfl rfl (fun h12 o12 f12 => ?_)
  have s12 := s11.put f12
  refine q_aload_n rfl rfl ?_
  refine q_null rfl ?_
  refine s_put (vs' := [.null, .null, .int 0, .int 0, .ref 1, .null, .null]) rfl o12 rfl rfl rfl rfl (fun h13 o13 f13 => ?_)
  have s13 := s12.put f13
  refine q_aload_n rfl rfl ?_
  refine q_aload_n rfl rfl ?_
  refine s_put (vs' := [.ref 93, .null, .int 0, .int 0, .ref 1, .null, .null]) rfl o13 rfl rfl rfl rfl (fun h14 o14 f14 => ?_)
  have s14 := s13.put f14
  refine q_aload_n rfl rfl ?_
  refine q_aload_n rfl rfl ?_
  refine s_put (vs' := [.ref 93, .ref 135, .int 0, .int 0, .ref 1, .null, .null]) rfl o14 rfl rfl rfl rfl (fun h15 o15 f15 => ?_)
  have s15 := s14.put f15
  refine q_return rfl rfl ?_
  show aW aiP 91 13 568 15 [(0, .ref 6), (1, .ref 234)] [.ref 235] h15 _
  refine s_astore_n (lv' := [(2, .ref 235), (0, .ref 6), (1, .ref 234)]) rfl (by decide) rfl ?_
  refine q_iconst rfl ?_
  refine s_istore_n (lv' := [(3, .int 0), (2, .ref 235), (0, .ref 6), (1, .ref 234)]) rfl (by decide) rfl ?_
  refine q_iload_n rfl rfl ?_
  refine q_bipush rfl ?_
  refine q_icmp_ge rfl (fun c => absurd c (by decide)) (fun _ => ?_)
  refine q_aload_n rfl rfl ?_
  refine s_callV (as := []) (rest := []) (d' := 12) (w' := 547) (lv' := [(0, .ref 235)]) rfl o15 rfl rfl rfl rfl rfl rfl ?_
  refine q_aload_n rfl rfl ?_
  refine q_aload_n rfl rfl ?_
  refine s_get (v := .ref 93) rfl o15 rfl rfl ?_
  refine q_aload_n rfl rfl ?_
  refine s_get (v := .int 0) rfl o15 rfl rfl ?_
  have e93_15 := ((((((((((((((o1.nw f2).ne f3 rfl).ne f4 rfl).ne f5 rfl).ne f6 rfl).ne f7 rfl).nw f8).ne f9 rfl).ne f10 rfl).ne f11 rfl).ne f12 rfl).ne f13 rfl).ne f14 rfl).ne f15 rfl)
  refine s_callV (as := [.int 0]) (rest := [.ref 235]) (d' := 11) (w' := 526) (lv' := [(0, .ref 93), (1, .int 0)]) rfl e93_15 rfl rfl rfl rfl rfl rfl ?_
  refine q_iload_n rfl rfl ?_
  refine q_if_lt rfl (fun c => absurd c (by decide)) (fun _ => ?_)
  refine q_iload_n rfl rfl ?_
  refine q_aload_n rfl rfl ?_
  refine s_get (v := .int 0) rfl e93_15 rfl rfl ?_
  refine q_icmp_ge rfl (fun _ => ?_) (fun c => absurd (by decide) c)
  refine q_null rfl ?_
  refine q_goto rfl ?_
  refine q_areturn rfl rfl rfl ?_
  show aW aiP 93 12 547 12 [(0, .ref 235)] [.null, .ref 235] h15 _
  refine s_put (vs' := [.ref 93, .ref 135, .int 0, .int 0, .ref 1, .null, .null]) rfl o15 rfl rfl rfl rfl (fun h16 o16 f16 => ?_)
  have s16 := s15.put f16
  refine q_aload_n rfl rfl ?_
  refine q_aload_n rfl rfl ?_
  refine s_get (v := .ref 135) rfl o16 rfl rfl ?_
  refine q_aload_n rfl rfl ?_
  refine s_get (v := .int 0) rfl o16 rfl rfl ?_
  have e135_16 := ((((((((((e135_6.ne f7 rfl).nw f8).ne f9 rfl).ne f10 rfl).ne f11 rfl).ne f12 rfl).ne f13 rfl).ne f14 rfl).ne f15 rfl).ne f16 rfl)
  refine s_callV (as := [.int 0]) (rest := [.ref 235]) (d' := 11) (w' := 526) (lv' := [(0, .ref 135), (1, .int 0)]) rfl e135_16 rfl rfl rfl rfl rfl rfl ?_
  refine q_iload_n rfl rfl ?_
  refine q_if_lt rfl (fun c => absurd c (by decide)) (fun _ => ?_)
  refine q_iload_n rfl rfl ?_
  refine q_aload_n rfl rfl ?_
  refine s_get (v := .int 0) rfl e135_16 rfl rfl ?_
  refine q_icmp_ge rfl (fun _ => ?_) (fun c => absurd (by decide) c)
  refine q_null rfl ?_
  refine q_goto rfl ?_
  refine q_areturn rfl rfl rfl ?_
  show aW aiP 93 12 547 27 [(0, .ref 235)] [.null, .ref 235] h16 _
  refine s_put (vs' := [.ref 93, .ref 135, .int 0, .int 0, .ref 1, .null, .null]) rfl o16 rfl rfl rfl rfl (fun h17 o17 f17 => ?_)
  have s17 := s16.put f17
  refine q_aload_n rfl rfl ?_
  refine s_get (v := .null) rfl o17 rfl rfl ?_
  refine q_ifnullN rfl ?_
  refine q_aload_n rfl rfl ?_
  refine s_get (v := .null) rfl o17 rfl rfl ?_
  refine q_ifnullN rfl ?_
  refine q_aload_n rfl rfl ?_
  refine s_get (v := .null) rfl o17 rfl rfl ?_
  refine q_ifnullN rfl ?_
  refine q_aload_n rfl rfl ?_
  refine s_get (v := .null) rfl o17 rfl rfl ?_
  refine q_ifnonnullN rfl ?_
  refine q_aload_n rfl rfl ?_
  refine s_get (v := .null) rfl o17 rfl rfl ?_
  refine q_ifnullN rfl ?_
  refine q_iconst rfl ?_
  refine q_ireturn rfl rfl ?_
  show aW aiP 91 13 568 28 [(3, .int 0), (2, .ref 235), (0, .ref 6), (1, .ref 234)] [.int 0] h17 _
  refine q_if_eq rfl (fun _ => ?_) (fun c => absurd (by decide) c)
  refine q_return rfl rfl ?_
  show aW aiP 84 14 592 87 [(2, .ref 234), (0, .ref 6), (1, .int (xs 1))] [] h17 _
  refine q_aload_n rfl rfl ?_
  have e6_17 := (((((((((e6_8.ne f9 rfl).ne f10 rfl).ne f11 rfl).ne f12 rfl).ne f13 rfl).ne f14 rfl).ne f15 rfl).ne f16 rfl).ne f17 rfl)
  refine s_get (v := .ref 180) rfl e6_17 rfl rfl ?_
  refine s_new (n' := 237) (q' := 511477) (vs := [.int 0, .int 0, .null, .null, .null, .null]) rfl rfl s17 rfl rfl rfl (fun h18 o18 f18 s18 => ?_)
  refine q_dup rfl rfl ?_
  refine q_iload_n rfl rfl ?_
  refine q_aload_n rfl rfl ?_
  have e6_18 := (e6_17.nw f18)
  refine s_get (v := .ref 135) rfl e6_18 rfl rfl ?_
  have e135_18 := ((e135_16.ne f17 rfl).nw f18)
  refine s_callV (as := []) (rest := [.int (xs 1), .ref 236, .ref 236, .ref 180]) (d' := 13) (w' := 569) (lv' := [(0, .ref 135)]) rfl e135_18 rfl rfl rfl rfl rfl rfl ?_
  refine s_new (n' := 238) (q' := 511479) (vs := [.null, .int 0]) rfl rfl s18 rfl rfl rfl (fun h19 o19 f19 s19 => ?_)
  refine q_dup rfl rfl ?_
  refine q_aload_n rfl rfl ?_
  have e135_19 := (e135_18.nw f19)
  refine s_get (v := .int 0) rfl e135_19 rfl rfl ?_
  refine q_callI rfl (by decide) (as := [.int 0]) (rest := [.ref 237]) rfl rfl (rm (by decide) (by decide) rfl) (m_treeInit (n := 0) o19 (by decide) (by decide) (by decide) (by decide) (by decide)) (fun v20 h20 r20 => ?_)
  obtain ⟨rfl, o20, f20, l20⟩ := r20
  rw [s19.1] at o20
  have s20 : Hs _ 239 511479 h20 := s19.grow f20 l20 rfl rfl
  show aW aiP 97 13 569 11 [(0, .ref 135)] [.ref 237] h20 _
  refine s_astore_n (lv' := [(1, .ref 237), (0, .ref 135)]) rfl (by decide) rfl ?_
  refine q_iconst rfl ?_
  refine s_istore_n (lv' := [(2, .int 0), (1, .ref 237), (0, .ref 135)]) rfl (by decide) rfl ?_
  refine q_iload_n rfl rfl ?_
  refine q_aload_n rfl rfl ?_
  have e135_20 := (e135_19.ne f20 rfl)
  refine s_get (v := .int 0) rfl e135_20 rfl rfl ?_
  refine q_icmp_ge rfl (fun _ => ?_) (fun c => absurd (by decide) c)
  refine q_aload_n rfl rfl ?_
  refine q_areturn rfl rfl rfl ?_
  show aW aiP 84 14 592 103 [(2, .ref 234), (0, .ref 6), (1, .int (xs 1))] [.ref 237, .int (xs 1), .ref 236, .ref 236, .ref 180] h20 _
  refine q_aload_n rfl rfl ?_
  refine s_callI (as := [.int (xs 1), .ref 237, .ref 234]) (rest := [.ref 236, .ref 180]) (d' := 13) (w' := 569) (lv' := [(0, .ref 236), (1, .int (xs 1)), (2, .ref 237), (3, .ref 234)]) rfl rfl rfl rfl rfl rfl rfl rfl ?_
  refine q_aload_n rfl rfl ?_
  refine s_objI rfl rfl ?_
  refine q_aload_n rfl rfl ?_
  refine q_iconst rfl ?_
  have e236_20 := ((o18.nw f19).ne f20 rfl)
  refine s_put (vs' := [.int 3, .int 0, .null, .null, .null, .null]) rfl e236_20 rfl rfl rfl rfl (fun h21 o21 f21 => ?_)
  have s21 := s20.put f21
  refine q_aload_n rfl rfl ?_
  refine q_iload_n rfl rfl ?_
  refine s_put (vs' := [.int 3, .int (xs 1), .null, .null, .null, .null]) rfl o21 rfl rfl rfl rfl (fun h22 o22 f22 => ?_)
  have s22 := s21.put f22
  refine q_aload_n rfl rfl ?_
  refine q_getstatic rfl ?_
  refine s_put (vs' := [.int 3, .int (xs 1), .ref 1, .null, .null, .null]) rfl o22 rfl rfl rfl rfl (fun h23 o23 f23 => ?_)
  have s23 := s22.put f23
  refine q_aload_n rfl rfl ?_
  refine q_null rfl ?_
  refine s_put (vs' := [.int 3, .int (xs 1), .ref 1, .null, .null, .null]) rfl o23 rfl rfl rfl rfl (fun h24 o24 f24 => ?_)
  have s24 := s23.put f24
  refine q_aload_n rfl rfl ?_
  refine q_aload_n rfl rfl ?_
  refine s_put (vs' := [.int 3, .int (xs 1), .ref 1, .null, .ref 237, .null]) rfl o24 rfl rfl rfl rfl (fun h25 o25 f25 => ?_)
  have s25 := s24.put f25
  refine q_aload_n rfl rfl ?_
  refine q_aload_n rfl rfl ?_
  refine s_put (vs' := [.int 3, .int (xs 1), .ref 1, .null, .ref 237, .ref 234]) rfl o25 rfl rfl rfl rfl (fun h26 o26 f26 => ?_)
  have s26 := s25.put f26
  refine q_return rfl rfl ?_
  show aW aiP 84 14 592 107 [(2, .ref 234), (0, .ref 6), (1, .int (xs 1))] [.ref 236, .ref 180] h26 _
  refine q_aload_n rfl rfl ?_
  have e6_26 := ((((((((e6_18.nw f19).ne f20 rfl).ne f21 rfl).ne f22 rfl).ne f23 rfl).ne f24 rfl).ne f25 rfl).ne f26 rfl)
  refine s_get (v := .ref 93) rfl e6_26 rfl rfl ?_
  refine q_aload_n rfl rfl ?_
  refine s_get (v := .ref 135) rfl e6_26 rfl rfl ?_
  have e180 := F.2.2.2.2.2.2.2.2.2.2.2.2.2.2.2.2.1
  have e180_26 := ((((((((((((((((((((((((((e180.ne f1 rfl).nw f2).ne f3 rfl).ne f4 rfl).ne f5 rfl).ne f6 rfl).ne f7 rfl).nw f8).ne f9 rfl).ne f10 rfl).ne f11 rfl).ne f12 rfl).ne f13 rfl).ne f14 rfl).ne f15 rfl).ne f16 rfl).ne f17 rfl).nw f18).nw f19).ne f20 rfl).ne f21 rfl).ne f22 rfl).ne f23 rfl).ne f24 rfl).ne f25 rfl).ne f26 rfl)
  refine s_callV (as := [.ref 236, .ref 93, .ref 135]) (rest := []) (d' := 13) (w' := 564) (lv' := [(0, .ref 180), (1, .ref 236), (2, .ref 93), (3, .ref 135)]) rfl e180_26 rfl rfl rfl rfl rfl rfl ?_
  refine q_aload_n rfl rfl ?_
  refine s_callV (as := []) (rest := []) (d' := 12) (w' := 544) (lv' := [(0, .ref 180)]) rfl e180_26 rfl rfl rfl rfl rfl rfl ?_
  refine q_aload_n rfl rfl ?_
  refine s_get (v := .ref 181) rfl e180_26 rfl rfl ?_
  have e181 := F.2.2.2.2.2.2.2.2.2.2.2.2.2.2.2.2.2.1
  have e181_26 := ((((((((((((((((((((((((((e181.ne f1 rfl).nw f2).ne f3 rfl).ne f4 rfl).ne f5 rfl).ne f6 rfl).ne f7 rfl).nw f8).ne f9 rfl).ne f10 rfl).ne f11 rfl).ne f12 rfl).ne f13 rfl).ne f14 rfl).ne f15 rfl).ne f16 rfl).ne f17 rfl).nw f18).nw f19).ne f20 rfl).ne f21 rfl).ne f22 rfl).ne f23 rfl).ne f24 rfl).ne f25 rfl).ne f26 rfl)
  refine s_callV (as := []) (rest := []) (d' := 11) (w' := 521) (lv' := [(0, .ref 181)]) rfl e181_26 rfl rfl rfl rfl rfl rfl ?_
  refine q_aload_n rfl rfl ?_
  refine q_dup rfl rfl ?_
  refine s_get (v := .int 0) rfl e181_26 rfl rfl ?_
  refine q_iconst rfl ?_
  refine s_iadd (k := 1) rfl (by decide) ?_
  refine s_put (vs' := [.int 1, .ref 5, .int 0]) rfl e181_26 rfl rfl rfl rfl (fun h27 o27 f27 => ?_)
  have s27 := s26.put f27
  refine q_aload_n rfl rfl ?_
  refine s_get (v := .ref 5) rfl o27 rfl rfl ?_
  refine s_astore_n (lv' := [(1, .ref 5), (0, .ref 181)]) rfl (by decide) rfl ?_
  refine q_aload_n rfl rfl ?_
  refine s_get (v := .int 0) rfl o27 rfl rfl ?_
  refine s_istore_n (lv' := [(2, .int 0), (1, .ref 5), (0, .ref 181)]) rfl (by decide) rfl ?_
  refine q_aload_n rfl rfl ?_
  refine q_iconst rfl ?_
  refine q_dup_x1 rfl rfl rfl ?_
  refine s_put (vs' := [.int 1, .ref 5, .int 0]) rfl o27 rfl rfl rfl rfl (fun h28 o28 f28 => ?_)
  have s28 := s27.put f28
  refine s_istore_n (lv' := [(3, .int 0), (2, .int 0), (1, .ref 5), (0, .ref 181)]) rfl (by decide) rfl ?_
  refine q_iload_n rfl rfl ?_
  refine q_iload_n rfl rfl ?_
  refine q_icmp_ge rfl (fun _ => ?_) (fun c => absurd (by decide) c)
  refine q_return rfl rfl ?_
  show aW aiP 100 12 544 7 [(0, .ref 180)] [] h28 _
  refine q_aload_n rfl rfl ?_
  refine q_iconst rfl ?_
  have e180_28 := ((e180_26.ne f27 rfl).ne f28 rfl)
  refine s_put (vs' := [.ref 177, .ref 181, .ref 182, .int 0, .int 0, .int 0]) rfl e180_28 rfl rfl rfl rfl (fun h29 o29 f29 => ?_)
  have s29 := s28.put f29
  refine q_aload_n rfl rfl ?_
  refine q_iconst rfl ?_
  refine s_put (vs' := [.ref 177, .ref 181, .ref 182, .int 0, .int 0, .int 0]) rfl o29 rfl rfl rfl rfl (fun h30 o30 f30 => ?_)
  have s30 := s29.put f30
  refine q_return rfl rfl ?_
  show aW aiP 99 13 564 4 [(0, .ref 180), (1, .ref 236), (2, .ref 93), (3, .ref 135)] [] h30 _
  refine s_new (n' := 240) (q' := 511485) (vs := [.int 0, .int 0, .null, .null, .null, .null]) rfl rfl s30 rfl rfl rfl (fun h31 o31 f31 s31 => ?_)
  refine q_dup rfl rfl ?_
  refine q_iconst rfl ?_
  refine q_aload_n rfl rfl ?_
  have e236_31 := (((((o26.ne f27 rfl).ne f28 rfl).ne f29 rfl).ne f30 rfl).nw f31)
  refine s_get (v := .int (xs 1)) rfl e236_31 rfl rfl ?_
  refine q_getstatic rfl ?_
  refine q_null rfl ?_
  refine s_callI (as := [.int 4, .int (xs 1), .ref 1, .null]) (rest := [.ref 239]) (d' := 12) (w' := 540) (lv' := [(0, .ref 239), (1, .int 4), (2, .int (xs 1)), (3, .ref 1), (4, .null)]) rfl rfl rfl rfl rfl rfl rfl rfl ?_
  refine q_aload_n rfl rfl ?_
  refine s_objI rfl rfl ?_
  refine q_aload_n rfl rfl ?_
  refine q_iload_n rfl rfl ?_
  refine s_put (vs' := [.int 4, .int 0, .null, .null, .null, .null]) rfl o31 rfl rfl rfl rfl (fun h32 o32 f32 => ?_)
  have s32 := s31.put f32
  refine q_aload_n rfl rfl ?_
  refine q_iload_n rfl rfl ?_
  refine s_put (vs' := [.int 4, .int (xs 1), .null, .null, .null, .null]) rfl o32 rfl rfl rfl rfl (fun h33 o33 f33 => ?_)
  have s33 := s32.put f33
  refine q_aload_n rfl rfl ?_
  refine q_aload_n rfl rfl ?_
  refine s_put (vs' := [.int 4, .int (xs 1), .ref 1, .null, .null, .null]) rfl o33 rfl rfl rfl rfl (fun h34 o34 f34 => ?_)
  have s34 := s33.put f34
  refine q_aload_n rfl rfl ?_
  refine q_aloadN rfl rfl ?_
  refine s_put (vs' := [.int 4, .int (xs 1), .ref 1, .null, .null, .null]) rfl o34 rfl rfl rfl rfl (fun h35 o35 f35 => ?_)
  have s35 := s34.put f35
  refine q_aload_n rfl rfl ?_
  refine q_null rfl ?_
  refine s_put (vs' := [.int 4, .int (xs 1), .ref 1, .null, .null, .null]) rfl o35 rfl rfl rfl rfl (fun h36 o36 f36 => ?_)
  have s36 := s35.put f36
  refine q_aload_n rfl rfl ?_
  refine q_null rfl ?_
  refine s_put (vs' := [.int 4, .int (xs 1), .ref 1, .null, .null, .null]) rfl o36 rfl rfl rfl rfl (fun h37 o37 f37 => ?_)
  have s37 := s36.put f37
  refine q_return rfl rfl ?_
  show aW aiP 99 13 564 20 [(0, .ref 180), (1, .ref 236), (2, .ref 93), (3, .ref 135)] [.ref 239] h37 _
  refine s_astore (lv' := [(4, .ref 239), (0, .ref 180), (1, .ref 236), (2, .ref 93), (3, .ref 135)]) rfl (by decide) rfl ?_
  refine q_aload_n rfl rfl ?_
  refine q_aload rfl rfl ?_
  have e180_37 := (((((((o30.nw f31).ne f32 rfl).ne f33 rfl).ne f34 rfl).ne f35 rfl).ne f36 rfl).ne f37 rfl)
  refine s_callV (as := [.ref 239]) (rest := []) (d' := 12) (w' := 543) (lv' := [(0, .ref 180), (1, .ref 239)]) rfl e180_37 rfl rfl rfl rfl rfl rfl ?_
  refine q_aload_n rfl rfl ?_
  refine s_get (v := .ref 181) rfl e180_37 rfl rfl ?_
  refine s_new (n' := 241) (q' := 511488) (vs := [.null, .null, .null]) rfl rfl s37 rfl rfl rfl (fun h38 o38 f38 s38 => ?_)
  refine q_dup rfl rfl ?_
  refine q_null rfl ?_
  refine q_aload_n rfl rfl ?_
  refine s_callI (as := [.null, .ref 239]) (rest := [.ref 240, .ref 181]) (d' := 11) (w' := 521) (lv' := [(0, .ref 240), (1, .null), (2, .ref 239)]) rfl rfl rfl rfl rfl rfl rfl rfl ?_
  refine q_aload_n rfl rfl ?_
  refine s_objI rfl rfl ?_
  refine q_aload_n rfl rfl ?_
  refine q_null rfl ?_
  refine s_put (vs' := [.null, .null, .null]) rfl o38 rfl rfl rfl rfl (fun h39 o39 f39 => ?_)
  have s39 := s38.put f39
  refine q_aload_n rfl rfl ?_
  refine q_aload_nN rfl rfl ?_
  refine s_put (vs' := [.null, .null, .null]) rfl o39 rfl rfl rfl rfl (fun h40 o40 f40 => ?_)
  have s40 := s39.put f40
  refine q_aload_n rfl rfl ?_
  refine q_aload_n rfl rfl ?_
  refine s_put (vs' := [.null, .ref 239, .null]) rfl o40 rfl rfl rfl rfl (fun h41 o41 f41 => ?_)
  have s41 := s40.put f41
  refine q_return rfl rfl ?_
  show aW aiP 103 12 543 13 [(0, .ref 180), (1, .ref 239)] [.ref 240, .ref 181] h41 _
  have e181_41 := (((((((((((((o28.ne f29 rfl).ne f30 rfl).nw f31).ne f32 rfl).ne f33 rfl).ne f34 rfl).ne f35 rfl).ne f36 rfl).ne f37 rfl).nw f38).ne f39 rfl).ne f40 rfl).ne f41 rfl)
  refine s_callV (as := [.ref 240]) (rest := []) (d' := 11) (w' := 522) (lv' := [(0, .ref 181), (1, .ref 240)]) rfl e181_41 rfl rfl rfl rfl rfl rfl ?_
  refine q_aload_n rfl rfl ?_
  refine q_dup rfl rfl ?_
  refine s_get (v := .int 1) rfl e181_41 rfl rfl ?_
  refine q_iconst rfl ?_
  refine s_iadd (k := 2) rfl (by decide) ?_
  refine s_put (vs' := [.int 2, .ref 5, .int 0]) rfl e181_41 rfl rfl rfl rfl (fun h42 o42 f42 => ?_)
  have s42 := s41.put f42
  refine q_aload_n rfl rfl ?_
  refine q_aload_n rfl rfl ?_
  refine q_aload_n rfl rfl ?_
  refine s_get (v := .ref 5) rfl o42 rfl rfl ?_
  refine q_aload_n rfl rfl ?_
  refine s_get (v := .int 0) rfl o42 rfl rfl ?_
  refine s_callV (as := [.ref 240, .ref 5, .int 0]) (rest := []) (d' := 10) (w' := 499) (lv' := [(0, .ref 181), (1, .ref 240), (2, .ref 5), (3, .int 0)]) rfl o42 rfl rfl rfl rfl rfl rfl ?_
  refine q_iload_n rfl rfl ?_
  refine q_aload_n rfl rfl ?_
  have e5 := F.2.2.2.2.2.1
  have e5_42 := (f42.ne rfl (f41.ne rfl (f40.ne rfl (f39.ne rfl (f38.nw (f37.ne rfl (f36.ne rfl (f35.ne rfl (f34.ne rfl (f33.ne rfl (f32.ne rfl (f31.nw (f30.ne rfl (f29.ne rfl (f28.ne rfl (f27.ne rfl (f26.ne rfl (f25.ne rfl (f24.ne rfl (f23.ne rfl (f22.ne rfl (f21.ne rfl (f20.ne rfl (f19.nw (f18.nw (f17.ne rfl (f16.ne rfl (f15.ne rfl (f14.ne rfl (f13.ne rfl (f12.ne rfl (f11.ne rfl (f10.ne rfl (f9.ne rfl (f8.nw (f7.ne rfl (f6.ne rfl (f5.ne rfl (f4.ne rfl (f3.ne rfl (f2.nw (f1.ne rfl e5))))))))))))))))))))))))))))))))))))))))))
  refine s_alen (x := 0) rfl e5_42 rfl (by decide) ?_
  refine q_icmp_ne rfl (fun c => absurd c (by decide)) (fun _ => ?_)
  refine q_aload_n rfl rfl ?_
  refine s_callV (as := []) (rest := []) (d' := 9) (w' := 479) (lv' := [(0, .ref 181)]) rfl o42 rfl rfl rfl rfl rfl rfl ?_
  refine q_aload_n rfl rfl ?_
  refine q_aload_n rfl rfl ?_
  refine s_get (v := .int 0) rfl o42 rfl rfl ?_
  refine q_iconst rfl ?_
  refine s_iadd (k := 1) rfl (by decide) ?_
  refine s_callV (as := [.int 1]) (rest := []) (d' := 8) (w' := 456) (lv' := [(0, .ref 181), (1, .int 1)]) rfl o42 rfl rfl rfl rfl rfl rfl ?_
  refine q_aload_n rfl rfl ?_
  refine s_get (v := .ref 5) rfl o42 rfl rfl ?_
  refine s_alen (x := 0) rfl e5_42 rfl (by decide) ?_
  refine s_istore_n (lv' := [(2, .int 0), (0, .ref 181), (1, .int 1)]) rfl (by decide) rfl ?_
  refine q_iload_n rfl rfl ?_
  refine q_if_gt rfl (fun c => absurd c (by decide)) (fun _ => ?_)
  refine q_aload_n rfl rfl ?_
  refine s_get (v := .ref 5) rfl o42 rfl rfl ?_
  refine q_getstatic rfl ?_
  refine s_acmpE rfl rfl ?_
  refine q_aload_n rfl rfl ?_
  refine q_bipush rfl ?_
  refine q_iload_n rfl rfl ?_
  refine s_max (k := 10) rfl rfl (by decide) ?_
  refine s_anewa (k := 10) (n' := 242) (q' := 511498) rfl (by decide) rfl s42 rfl rfl (fun h43 o43 f43 s43 => ?_)
  refine q_dup_x1 rfl rfl rfl ?_
  have e181_43 := (o42.nw f43)
  refine s_put (vs' := [.int 2, .ref 241, .int 0]) rfl e181_43 rfl rfl rfl rfl (fun h44 o44 f44 => ?_)
  have s44 := s43.put f44
  refine q_areturn rfl rfl rfl ?_
  show aW aiP 106 9 479 10 [(0, .ref 181)] [.ref 241] h44 _
  refine q_areturn rfl rfl rfl ?_
  show aW aiP 105 10 499 10 [(0, .ref 181), (1, .ref 240), (2, .ref 5), (3, .int 0)] [.ref 241] h44 _
  refine s_astore_n (lv' := [(2, .ref 241), (0, .ref 181), (1, .ref 240), (3, .int 0)]) rfl (by decide) rfl ?_
  refine q_aload_n rfl rfl ?_
  refine q_iload_n rfl rfl ?_
  refine q_aload_n rfl rfl ?_
  have e241_44 := (f44.ne rfl o43)
  have e240_44 := (((o41.ne f42 rfl).nw f43).ne f44 rfl)
  refine s_aastore (j := 0) rfl e241_44 e240_44 rfl (by decide) rfl (fun h45 o45 f45 => ?_)
  have s45 := s44.put f45
  refine q_aload_n rfl rfl ?_
  refine q_iload_n rfl rfl ?_
  refine q_iconst rfl ?_
  refine s_iadd (k := 1) rfl (by decide) ?_
  have e181_45 := (o44.ne f45 rfl)
  refine s_put (vs' := [.int 2, .ref 241, .int 1]) rfl e181_45 rfl rfl rfl rfl (fun h46 o46 f46 => ?_)
  have s46 := s45.put f46
  refine q_return rfl rfl ?_
  show aW aiP 104 11 522 23 [(0, .ref 181), (1, .ref 240)] [] h46 _
  refine q_iconst rfl ?_
  refine q_ireturn rfl rfl ?_
  show aW aiP 103 12 543 16 [(0, .ref 180), (1, .ref 239)] [.int 1] h46 _
  refine q_pop rfl rfl ?_
  refine q_return rfl rfl ?_
  show aW aiP 99 13 564 28 [(4, .ref 239), (0, .ref 180), (1, .ref 236), (2, .ref 93), (3, .ref 135)] [] h46 _
  refine q_aload_n rfl rfl ?_
  have e180_46 := (((((((((e180_37.nw f38).ne f39 rfl).ne f40 rfl).ne f41 rfl).ne f42 rfl).nw f43).ne f44 rfl).ne f45 rfl).ne f46 rfl)
  refine s_callV (as := []) (rest := []) (d' := 12) (w' := 544) (lv' := [(0, .ref 180)]) rfl e180_46 rfl rfl rfl rfl rfl rfl ?_
  refine q_aload_n rfl rfl ?_
  refine s_get (v := .ref 181) rfl e180_46 rfl rfl ?_
  refine q_aload_n rfl rfl ?_
  refine s_get (v := .ref 182) rfl e180_46 rfl rfl ?_
  refine s_callV (as := [.ref 182]) (rest := []) (d' := 11) (w' := 523) (lv' := [(0, .ref 181), (1, .ref 182)]) rfl o46 rfl rfl rfl rfl rfl rfl ?_
  refine q_aload_n rfl rfl ?_
  refine q_dup rfl rfl ?_
  refine s_get (v := .int 2) rfl o46 rfl rfl ?_
  refine q_iconst rfl ?_
  refine s_iadd (k := 3) rfl (by decide) ?_
  refine s_put (vs' := [.int 3, .ref 241, .int 1]) rfl o46 rfl rfl rfl rfl (fun h47 o47 f47 => ?_)
  have s47 := s46.put f47
  refine q_aload_n rfl rfl ?_
  refine q_aload_n rfl rfl ?_
  refine q_aload_n rfl rfl ?_
  refine s_get (v := .ref 241) rfl o47 rfl rfl ?_
  refine q_aload_n rfl rfl ?_
  refine s_get (v := .int 1) rfl o47 rfl rfl ?_
  refine s_callV (as := [.ref 182, .ref 241, .int 1]) (rest := []) (d' := 10) (w' := 500) (lv' := [(0, .ref 181), (1, .ref 182), (2, .ref 241), (3, .int 1)]) rfl o47 rfl rfl rfl rfl rfl rfl ?_
  refine q_iload_n rfl rfl ?_
  refine q_aload_n rfl rfl ?_
  have e241_47 := (f47.ne rfl (f46.ne rfl o45))
  refine s_alen (x := 10) rfl e241_47 rfl (by decide) ?_
  refine q_icmp_ne rfl (fun _ => ?_) (fun c => absurd (by decide) c)
  refine q_aload_n rfl rfl ?_
  refine q_iload_n rfl rfl ?_
  refine q_aload_n rfl rfl ?_
  have e182 := F.2.2.2.2.2.2.2.2.2.2.2.2.2.2.2.2.2.2.1
  have e182_47 := (((((((((((((((((((((((((((((((((((((((((((((((e182.ne f1 rfl).nw f2).ne f3 rfl).ne f4 rfl).ne f5 rfl).ne f6 rfl).ne f7 rfl).nw f8).ne f9 rfl).ne f10 rfl).ne f11 rfl).ne f12 rfl).ne f13 rfl).ne f14 rfl).ne f15 rfl).ne f16 rfl).ne f17 rfl).nw f18).nw f19).ne f20 rfl).ne f21 rfl).ne f22 rfl).ne f23 rfl).ne f24 rfl).ne f25 rfl).ne f26 rfl).ne f27 rfl).ne f28 rfl).ne f29 rfl).ne f30 rfl).nw f31).ne f32 rfl).ne f33 rfl).ne f34 rfl).ne f35 rfl).ne f36 rfl).ne f37 rfl).nw f38).ne f39 rfl).ne f40 rfl).ne f41 rfl).ne f42 rfl).nw f43).ne f44 rfl).ne f45 rfl).ne f46 rfl).ne f47 rfl)
  refine s_aastore (j := 1) rfl e241_47 e182_47 rfl (by decide) rfl (fun h48 o48 f48 => ?_)
  have s48 := s47.put f48
  refine q_aload_n rfl rfl ?_
  refine q_iload_n rfl rfl ?_
  refine q_iconst rfl ?_
  refine s_iadd (k := 2) rfl (by decide) ?_
  have e181_48 := (o47.ne f48 rfl)
  refine s_put (vs' := [.int 3, .ref 241, .int 2]) rfl e181_48 rfl rfl rfl rfl (fun h49 o49 f49 => ?_)
  have s49 := s48.put f49
  refine q_return rfl rfl ?_
  show aW aiP 104 11 523 23 [(0, .ref 181), (1, .ref 182)] [] h49 _
  refine q_iconst rfl ?_
  refine q_ireturn rfl rfl ?_
  show aW aiP 113 12 544 11 [(0, .ref 180)] [.int 1] h49 _
  refine q_pop rfl rfl ?_
  refine q_return rfl rfl ?_
  show aW aiP 99 13 564 32 [(4, .ref 239), (0, .ref 180), (1, .ref 236), (2, .ref 93), (3, .ref 135)] [] h49 _
  refine q_iconst rfl ?_
  refine s_istore (lv' := [(5, .int 0), (4, .ref 239), (0, .ref 180), (1, .ref 236), (2, .ref 93), (3, .ref 135)]) rfl (by decide) rfl ?_
  refine s_new (n' := 243) (q' := 511505) (vs := [.null, .null, .int 0, .int 0, .null, .null, .null]) rfl rfl s49 rfl rfl rfl (fun h50 o50 f50 s50 => ?_)
  refine q_dup rfl rfl ?_
  refine q_aload_n rfl rfl ?_
  refine q_aload_n rfl rfl ?_
  refine s_callI (as := [.ref 93, .ref 135]) (rest := [.ref 242]) (d' := 12) (w' := 542) (lv' := [(0, .ref 242), (1, .ref 93), (2, .ref 135)]) rfl rfl rfl rfl rfl rfl rfl rfl ?_
  refine q_aload_n rfl rfl ?_
  refine s_objI rfl rfl ?_
  refine q_aload_n rfl rfl ?_
  refine q_iconst rfl ?_
  refine s_put (vs' := [.null, .null, .int 0, .int 0, .null, .null, .null]) rfl o50 rfl rfl rfl rfl (fun h51 o51 f51 => ?_)
  have s51 := s50.put f51
  refine q_aload_n rfl rfl ?_
  refine q_iconst rfl ?_
  refine s_put (vs' := [.null, .null, .int 0, .int 0, .null, .null, .null]) rfl o51 rfl rfl rfl rfl (fun h52 o52 f52 => ?_)
  have s52 := s51.put f52
  refine q_aload_n rfl rfl ?_
  refine q_getstatic rfl ?_
  refine s_put (vs' := [.null, .null, .int 0, .int 0, .ref 1, .null, .null]) rfl o52 rfl rfl rfl rfl (fun h53 o53 f53 => ?_)
  have s53 := s52.put f53
  refine q_aload_n rfl rfl ?_
  refine q_null rfl ?_
  refine s_put (vs' := [.null, .null, .int 0, .int 0, .ref 1, .null, .null]) rfl o53 rfl rfl rfl rfl (fun h54 o54 f54 => ?_)
  have s54 := s53.put f54
  refine q_aload_n rfl rfl ?_
  refine q_null rfl ?_
  refine s_put (vs' := [.null, .null, .int 0, .int 0, .ref 1, .null, .null]) rfl o54 rfl rfl rfl rfl (fun h55 o55 f55 => ?_)
  have s55 := s54.put f55
  refine q_aload_n rfl rfl ?_
  refine q_aload_n rfl rfl ?_
  refine s_put (vs' := [.ref 93, .null, .int 0, .int 0, .ref 1, .null, .null]) rfl o55 rfl rfl rfl rfl (fun h56 o56 f56 => ?_)
  have s56 := s55.put f56
  refine q_aload_n rfl rfl ?_
  refine q_aload_n rfl rfl ?_
  refine s_put (vs' := [.ref 93, .ref 135, .int 0, .int 0, .ref 1, .null, .null]) rfl o56 rfl rfl rfl rfl (fun h57 o57 f57 => ?_)
  have s57 := s56.put f57
  refine q_return rfl rfl ?_
  show aW aiP 99 13 564 44 [(5, .int 0), (4, .ref 239), (0, .ref 180), (1, .ref 236), (2, .ref 93), (3, .ref 135)] [.ref 242] h57 _
  refine s_astore (lv' := [(6, .ref 242), (5, .int 0), (4, .ref 239), (0, .ref 180), (1, .ref 236), (2, .ref 93), (3, .ref 135)]) rfl (by decide) rfl ?_
  refine q_iconst rfl ?_
  refine s_istore (lv' := [(7, .int 0), (6, .ref 242), (5, .int 0), (4, .ref 239), (0, .ref 180), (1, .ref 236), (2, .ref 93), (3, .ref 135)]) rfl (by decide) rfl ?_
  refine q_iload rfl rfl ?_
  refine q_bipush rfl ?_
  refine q_icmp_ge rfl (fun c => absurd c (by decide)) (fun _ => ?_)
  refine q_aload rfl rfl ?_
  refine s_callV (as := []) (rest := []) (d' := 12) (w' := 543) (lv' := [(0, .ref 242)]) rfl o57 rfl rfl rfl rfl rfl rfl ?_
  refine q_aload_n rfl rfl ?_
  refine q_aload_n rfl rfl ?_
  refine s_get (v := .ref 93) rfl o57 rfl rfl ?_
  refine q_aload_n rfl rfl ?_
  refine s_get (v := .int 0) rfl o57 rfl rfl ?_
  have e93_57 := ((((((((((((((((((((((((((((((((((((((((((e93_15.ne f16 rfl).ne f17 rfl).nw f18).nw f19).ne f20 rfl).ne f21 rfl).ne f22 rfl).ne f23 rfl).ne f24 rfl).ne f25 rfl).ne f26 rfl).ne f27 rfl).ne f28 rfl).ne f29 rfl).ne f30 rfl).nw f31).ne f32 rfl).ne f33 rfl).ne f34 rfl).ne f35 rfl).ne f36 rfl).ne f37 rfl).nw f38).ne f39 rfl).ne f40 rfl).ne f41 rfl).ne f42 rfl).nw f43).ne f44 rfl).ne f45 rfl).ne f46 rfl).ne f47 rfl).ne f48 rfl).ne f49 rfl).nw f50).ne f51 rfl).ne f52 rfl).ne f53 rfl).ne f54 rfl).ne f55 rfl).ne f56 rfl).ne f57 rfl)
  refine s_callV (as := [.int 0]) (rest := [.ref 242]) (d' := 11) (w' := 522) (lv' := [(0, .ref 93), (1, .int 0)]) rfl e93_57 rfl rfl rfl rfl rfl rfl ?_
  refine q_iload_n rfl rfl ?_
  refine q_if_lt rfl (fun c => absurd c (by decide)) (fun _ => ?_)
  refine q_iload_n rfl rfl ?_
  refine q_aload_n rfl rfl ?_
  refine s_get (v := .int 0) rfl e93_57 rfl rfl ?_
  refine q_icmp_ge rfl (fun _ => ?_) (fun c => absurd (by decide) c)
  refine q_null rfl ?_
  refine q_goto rfl ?_
  refine q_areturn rfl rfl rfl ?_
  show aW aiP 93 12 543 12 [(0, .ref 242)] [.null, .ref 242] h57 _
  refine s_put (vs' := [.ref 93, .ref 135, .int 0, .int 0, .ref 1, .null, .null]) rfl o57 rfl rfl rfl rfl (fun h58 o58 f58 => ?_)
  have s58 := s57.put f58
  refine q_aload_n rfl rfl ?_
  refine q_aload_n rfl rfl ?_
  refine s_get (v := .ref 135) rfl o58 rfl rfl ?_
  refine q_aload_n rfl rfl ?_
  refine s_get (v := .int 0) rfl o58 rfl rfl ?_
  have e135_58 := ((((((((((((((((((((((((((((((((((((((e135_20.ne f21 rfl).ne f22 rfl).ne f23 rfl).ne f24 rfl).ne f25 rfl).ne f26 rfl).ne f27 rfl).ne f28 rfl).ne f29 rfl).ne f30 rfl).nw f31).ne f32 rfl).ne f33 rfl).ne f34 rfl).ne f35 rfl).ne f36 rfl).ne f37 rfl).nw f38).ne f39 rfl).ne f40 rfl).ne f41 rfl).ne f42 rfl).nw f43).ne f44 rfl).ne f45 rfl).ne f46 rfl).ne f47 rfl).ne f48 rfl).ne f49 rfl).nw f50).ne f51 rfl).ne f52 rfl).ne f53 rfl).ne f54 rfl).ne f55 rfl).ne f56 rfl).ne f57 rfl).ne f58 rfl)
  refine s_callV (as := [.int 0]) (rest := [.ref 242]) (d' := 11) (w' := 522) (lv' := [(0, .ref 135), (1, .int 0)]) rfl e135_58 rfl rfl rfl rfl rfl rfl ?_
  refine q_iload_n rfl rfl ?_
  refine q_if_lt rfl (fun c => absurd c (by decide)) (fun _ => ?_)
  refine q_iload_n rfl rfl ?_
  refine q_aload_n rfl rfl ?_
  refine s_get (v := .int 0) rfl e135_58 rfl rfl ?_
  refine q_icmp_ge rfl (fun _ => ?_) (fun c => absurd (by decide) c)
  refine q_null rfl ?_
  refine q_goto rfl ?_
  refine q_areturn rfl rfl rfl ?_
  show aW aiP 93 12 543 27 [(0, .ref 242)] [.null, .ref 242] h58 _
  refine s_put (vs' := [.ref 93, .ref 135, .int 0, .int 0, .ref 1, .null, .null]) rfl o58 rfl rfl rfl rfl (fun h59 o59 f59 => ?_)
  have s59 := s58.put f59
  refine q_aload_n rfl rfl ?_
  refine s_get (v := .null) rfl o59 rfl rfl ?_
  refine q_ifnullN rfl ?_
  refine q_aload_n rfl rfl ?_
  refine s_get (v := .null) rfl o59 rfl rfl ?_
  refine q_ifnullN rfl ?_
  refine q_aload_n rfl rfl ?_
  refine s_get (v := .null) rfl o59 rfl rfl ?_
  refine q_ifnullN rfl ?_
  refine q_aload_n rfl rfl ?_
  refine s_get (v := .null) rfl o59 rfl rfl ?_
  refine q_ifnonnullN rfl ?_
  refine q_aload_n rfl rfl ?_
  refine s_get (v := .null) rfl o59 rfl rfl ?_
  refine q_ifnullN rfl ?_
  refine q_iconst rfl ?_
  refine q_ireturn rfl rfl ?_
  show aW aiP 99 13 564 61 [(7, .int 0), (6, .ref 242), (5, .int 0), (4, .ref 239), (0, .ref 180), (1, .ref 236), (2, .ref 93), (3, .ref 135)] [.int 0] h59 _
  refine q_if_eq rfl (fun _ => ?_) (fun c => absurd (by decide) c)
  refine q_aload_n rfl rfl ?_
  have e236_59 := ((((((((((((((((((((((((((((e236_31.ne f32 rfl).ne f33 rfl).ne f34 rfl).ne f35 rfl).ne f36 rfl).ne f37 rfl).nw f38).ne f39 rfl).ne f40 rfl).ne f41 rfl).ne f42 rfl).nw f43).ne f44 rfl).ne f45 rfl).ne f46 rfl).ne f47 rfl).ne f48 rfl).ne f49 rfl).nw f50).ne f51 rfl).ne f52 rfl).ne f53 rfl).ne f54 rfl).ne f55 rfl).ne f56 rfl).ne f57 rfl).ne f58 rfl).ne f59 rfl)
  refine s_get (v := .ref 234) rfl e236_59 rfl rfl ?_
  refine q_ifnull rfl ?_
  refine q_aload_n rfl rfl ?_
  refine s_get (v := .ref 234) rfl e236_59 rfl rfl ?_
  have e234_59 := (f59.ne rfl (f58.ne rfl (f57.ne rfl (f56.ne rfl (f55.ne rfl (f54.ne rfl (f53.ne rfl (f52.ne rfl (f51.ne rfl (f50.nw (f49.ne rfl (f48.ne rfl (f47.ne rfl (f46.ne rfl (f45.ne rfl (f44.ne rfl (f43.nw (f42.ne rfl (f41.ne rfl (f40.ne rfl (f39.ne rfl (f38.nw (f37.ne rfl (f36.ne rfl (f35.ne rfl (f34.ne rfl (f33.ne rfl (f32.ne rfl (f31.nw (f30.ne rfl (f29.ne rfl (f28.ne rfl (f27.ne rfl (f26.ne rfl (f25.ne rfl (f24.ne rfl (f23.ne rfl (f22.ne rfl (f21.ne rfl (f20.ne rfl (f19.nw (f18.nw (f17.ne rfl (f16.ne rfl (f15.ne rfl (f14.ne rfl (f13.ne rfl (f12.ne rfl (f11.ne rfl (f10.ne rfl (f9.ne rfl (f8.nw o7))))))))))))))))))))))))))))))))))))))))))))))))))))
  refine s_alen (x := 8) rfl e234_59 rfl (by decide) ?_
  refine q_iconst rfl ?_
  refine q_icmp_le rfl (fun c => absurd c (by decide)) (fun _ => ?_)
  refine q_aload_n rfl rfl ?_
  refine s_get (v := .ref 234) rfl e236_59 rfl rfl ?_
  refine q_iconst rfl ?_
  refine q_iload rfl rfl ?_
  refine s_iastore (j := 2) rfl e234_59 (by decide) rfl (fun h60 o60 f60 => ?_)
  have s60 := s59.put f60
  refine q_aload_n rfl rfl ?_
  refine q_aload_n rfl rfl ?_
  have e180_60 := ((((((((((((((e180_46.ne f47 rfl).ne f48 rfl).ne f49 rfl).nw f50).ne f51 rfl).ne f52 rfl).ne f53 rfl).ne f54 rfl).ne f55 rfl).ne f56 rfl).ne f57 rfl).ne f58 rfl).ne f59 rfl).ne f60 rfl)
  refine s_callV (as := [.ref 236]) (rest := []) (d' := 12) (w' := 543) (lv' := [(0, .ref 180), (1, .ref 236)]) rfl e180_60 rfl rfl rfl rfl rfl rfl ?_
  refine q_aload_n rfl rfl ?_
  refine s_get (v := .ref 181) rfl e180_60 rfl rfl ?_
  refine s_new (n' := 244) (q' := 511508) (vs := [.null, .null, .null]) rfl rfl s60 rfl rfl rfl (fun h61 o61 f61 s61 => ?_)
  refine q_dup rfl rfl ?_
  refine q_null rfl ?_
  refine q_aload_n rfl rfl ?_
  refine s_callI (as := [.null, .ref 236]) (rest := [.ref 243, .ref 181]) (d' := 11) (w' := 521) (lv' := [(0, .ref 243), (1, .null), (2, .ref 236)]) rfl rfl rfl rfl rfl rfl rfl rfl ?_
  refine q_aload_n rfl rfl ?_
  refine s_objI rfl rfl ?_
  refine q_aload_n rfl rfl ?_
  refine q_null rfl ?_
  refine s_put (vs' := [.null, .null, .null]) rfl o61 rfl rfl rfl rfl (fun h62 o62 f62 => ?_)
  have s62 := s61.put f62
  refine q_aload_n rfl rfl ?_
  refine q_aload_nN rfl rfl ?_
  refine s_put (vs' := [.null, .null, .null]) rfl o62 rfl rfl rfl rfl (fun h63 o63 f63 => ?_)
  have s63 := s62.put f63
  refine q_aload_n rfl rfl ?_
  refine q_aload_n rfl rfl ?_
  refine s_put (vs' := [.null, .ref 236, .null]) rfl o63 rfl rfl rfl rfl (fun h64 o64 f64 => ?_)
  have s64 := s63.put f64
  refine q_return rfl rfl ?_
  show aW aiP 103 12 543 13 [(0, .ref 180), (1, .ref 236)] [.ref 243, .ref 181] h64 _
  have e181_64 := (((((((((((((((o49.nw f50).ne f51 rfl).ne f52 rfl).ne f53 rfl).ne f54 rfl).ne f55 rfl).ne f56 rfl).ne f57 rfl).ne f58 rfl).ne f59 rfl).ne f60 rfl).nw f61).ne f62 rfl).ne f63 rfl).ne f64 rfl)
  refine s_callV (as := [.ref 243]) (rest := []) (d' := 11) (w' := 522) (lv' := [(0, .ref 181), (1, .ref 243)]) rfl e181_64 rfl rfl rfl rfl rfl rfl ?_
  refine q_aload_n rfl rfl ?_
  refine q_dup rfl rfl ?_
  refine s_get (v := .int 3) rfl e181_64 rfl rfl ?_
  refine q_iconst rfl ?_
  refine s_iadd (k := 4) rfl (by decide) ?_
  refine s_put (vs' := [.int 4, .ref 241, .int 2]) rfl e181_64 rfl rfl rfl rfl (fun h65 o65 f65 => ?_)
  have s65 := s64.put f65
  refine q_aload_n rfl rfl ?_
  refine q_aload_n rfl rfl ?_
  refine q_aload_n rfl rfl ?_
  refine s_get (v := .ref 241) rfl o65 rfl rfl ?_
  refine q_aload_n rfl rfl ?_
  refine s_get (v := .int 2) rfl o65 rfl rfl ?_
  refine s_callV (as := [.ref 243, .ref 241, .int 2]) (rest := []) (d' := 10) (w' := 499) (lv' := [(0, .ref 181), (1, .ref 243), (2, .ref 241), (3, .int 2)]) rfl o65 rfl rfl rfl rfl rfl rfl ?_
  refine q_iload_n rfl rfl ?_
  refine q_aload_n rfl rfl ?_
  have e241_65 := (f65.ne rfl (f64.ne rfl (f63.ne rfl (f62.ne rfl (f61.nw (f60.ne rfl (f59.ne rfl (f58.ne rfl (f57.ne rfl (f56.ne rfl (f55.ne rfl (f54.ne rfl (f53.ne rfl (f52.ne rfl (f51.ne rfl (f50.nw (f49.ne rfl o48)))))))))))))))))
  refine s_alen (x := 10) rfl e241_65 rfl (by decide) ?_
  refine q_icmp_ne rfl (fun _ => ?_) (fun c => absurd (by decide) c)
  refine q_aload_n rfl rfl ?_
  refine q_iload_n rfl rfl ?_
  refine q_aload_n rfl rfl ?_
  have e243_65 := (o64.ne f65 rfl)
  refine s_aastore (j := 2) rfl e241_65 e243_65 rfl (by decide) rfl (fun h66 o66 f66 => ?_)
  have s66 := s65.put f66
  refine q_aload_n rfl rfl ?_
  refine q_iload_n rfl rfl ?_
  refine q_iconst rfl ?_
  refine s_iadd (k := 3) rfl (by decide) ?_
  have e181_66 := (o65.ne f66 rfl)
  refine s_put (vs' := [.int 4, .ref 241, .int 3]) rfl e181_66 rfl rfl rfl rfl (fun h67 o67 f67 => ?_)
  have s67 := s66.put f67
  refine q_return rfl rfl ?_
  show aW aiP 104 11 522 23 [(0, .ref 181), (1, .ref 243)] [] h67 _
  refine q_iconst rfl ?_
  refine q_ireturn rfl rfl ?_
  show aW aiP 103 12 543 16 [(0, .ref 180), (1, .ref 236)] [.int 1] h67 _
  refine q_pop rfl rfl ?_
  refine q_return rfl rfl ?_
  show aW aiP 99 13 564 146 [(7, .int 0), (6, .ref 242), (5, .int 0), (4, .ref 239), (0, .ref 180), (1, .ref 236), (2, .ref 93), (3, .ref 135)] [] h67 _
  refine q_aload_n rfl rfl ?_
  have e180_67 := (((((((e180_60.nw f61).ne f62 rfl).ne f63 rfl).ne f64 rfl).ne f65 rfl).ne f66 rfl).ne f67 rfl)
  refine s_callV (as := []) (rest := []) (d' := 12) (w' := 544) (lv' := [(0, .ref 180)]) rfl e180_67 rfl rfl rfl rfl rfl rfl ?_
  refine q_aload_n rfl rfl ?_
  refine s_get (v := .ref 181) rfl e180_67 rfl rfl ?_
  refine q_aload_n rfl rfl ?_
  refine s_get (v := .ref 182) rfl e180_67 rfl rfl ?_
  refine s_callV (as := [.ref 182]) (rest := []) (d' := 11) (w' := 523) (lv' := [(0, .ref 181), (1, .ref 182)]) rfl o67 rfl rfl rfl rfl rfl rfl ?_
  refine q_aload_n rfl rfl ?_
  refine q_dup rfl rfl ?_
  refine s_get (v := .int 4) rfl o67 rfl rfl ?_
  refine q_iconst rfl ?_
  refine s_iadd (k := 5) rfl (by decide) ?_
  refine s_put (vs' := [.int 5, .ref 241, .int 3]) rfl o67 rfl rfl rfl rfl (fun h68 o68 f68 => ?_)
  have s68 := s67.put f68
  refine q_aload_n rfl rfl ?_
  refine q_aload_n rfl rfl ?_
  refine q_aload_n rfl rfl ?_
  refine s_get (v := .ref 241) rfl o68 rfl rfl ?_
  refine q_aload_n rfl rfl ?_
  refine s_get (v := .int 3) rfl o68 rfl rfl ?_
  refine s_callV (as := [.ref 182, .ref 241, .int 3]) (rest := []) (d' := 10) (w' := 500) (lv' := [(0, .ref 181), (1, .ref 182), (2, .ref 241), (3, .int 3)]) rfl o68 rfl rfl rfl rfl rfl rfl ?_
  refine q_iload_n rfl rfl ?_
  refine q_aload_n rfl rfl ?_
  have e241_68 := (f68.ne rfl (f67.ne rfl o66))
  refine s_alen (x := 10) rfl e241_68 rfl (by decide) ?_
  refine q_icmp_ne rfl (fun _ => ?_) (fun c => absurd (by decide) c)
  refine q_aload_n rfl rfl ?_
  refine q_iload_n rfl rfl ?_
  refine q_aload_n rfl rfl ?_
  have e182_68 := (((((((((((((((((((((e182_47.ne f48 rfl).ne f49 rfl).nw f50).ne f51 rfl).ne f52 rfl).ne f53 rfl).ne f54 rfl).ne f55 rfl).ne f56 rfl).ne f57 rfl).ne f58 rfl).ne f59 rfl).ne f60 rfl).nw f61).ne f62 rfl).ne f63 rfl).ne f64 rfl).ne f65 rfl).ne f66 rfl).ne f67 rfl).ne f68 rfl)
  refine s_aastore (j := 3) rfl e241_68 e182_68 rfl (by decide) rfl (fun h69 o69 f69 => ?_)
  have s69 := s68.put f69
  refine q_aload_n rfl rfl ?_
  refine q_iload_n rfl rfl ?_
  refine q_iconst rfl ?_
  refine s_iadd (k := 4) rfl (by decide) ?_
  have e181_69 := (o68.ne f69 rfl)
  refine s_put (vs' := [.int 5, .ref 241, .int 4]) rfl e181_69 rfl rfl rfl rfl (fun h70 o70 f70 => ?_)
  have s70 := s69.put f70
  refine q_return rfl rfl ?_
  show aW aiP 104 11 523 23 [(0, .ref 181), (1, .ref 182)] [] h70 _
  refine q_iconst rfl ?_
  refine q_ireturn rfl rfl ?_
  show aW aiP 113 12 544 11 [(0, .ref 180)] [.int 1] h70 _
  refine q_pop rfl rfl ?_
  refine q_return rfl rfl ?_
  show aW aiP 99 13 564 150 [(7, .int 0), (6, .ref 242), (5, .int 0), (4, .ref 239), (0, .ref 180), (1, .ref 236), (2, .ref 93), (3, .ref 135)] [] h70 _
  refine q_aload_n rfl rfl ?_
  refine q_aload rfl rfl ?_
  refine s_new (n' := 245) (q' := 511514) (vs := [.int 0, .int 0, .null, .null, .null, .null]) rfl rfl s70 rfl rfl rfl (fun h71 o71 f71 s71 => ?_)
  refine q_dup rfl rfl ?_
  refine q_iconst rfl ?_
  refine q_aload_n rfl rfl ?_
  have e236_71 := ((((((((((((e236_59.ne f60 rfl).nw f61).ne f62 rfl).ne f63 rfl).ne f64 rfl).ne f65 rfl).ne f66 rfl).ne f67 rfl).ne f68 rfl).ne f69 rfl).ne f70 rfl).nw f71)
  refine s_get (v := .int (xs 1)) rfl e236_71 rfl rfl ?_
  refine q_getstatic rfl ?_
  refine q_null rfl ?_
  refine s_callI (as := [.int 5, .int (xs 1), .ref 1, .null]) (rest := [.ref 244, .ref 239, .ref 180]) (d' := 12) (w' := 540) (lv' := [(0, .ref 244), (1, .int 5), (2, .int (xs 1)), (3, .ref 1), (4, .null)]) rfl rfl rfl rfl rfl rfl rfl rfl ?_
  refine q_aload_n rfl rfl ?_
  refine s_objI rfl rfl ?_
  refine q_aload_n rfl rfl ?_
  refine q_iload_n rfl rfl ?_
  refine s_put (vs' := [.int 5, .int 0, .null, .null, .null, .null]) rfl o71 rfl rfl rfl rfl (fun h72 o72 f72 => ?_)
  have s72 := s71.put f72
  refine q_aload_n rfl rfl ?_
  refine q_iload_n rfl rfl ?_
  refine s_put (vs' := [.int 5, .int (xs 1), .null, .null, .null, .null]) rfl o72 rfl rfl rfl rfl (fun h73 o73 f73 => ?_)
  have s73 := s72.put f73
  refine q_aload_n rfl rfl ?_
  refine q_aload_n rfl rfl ?_
  refine s_put (vs' := [.int 5, .int (xs 1), .ref 1, .null, .null, .null]) rfl o73 rfl rfl rfl rfl (fun h74 o74 f74 => ?_)
  have s74 := s73.put f74
  refine q_aload_n rfl rfl ?_
  refine q_aloadN rfl rfl ?_
  refine s_put (vs' := [.int 5, .int (xs 1), .ref 1, .null, .null, .null]) rfl o74 rfl rfl rfl rfl (fun h75 o75 f75 => ?_)
  have s75 := s74.put f75
  refine q_aload_n rfl rfl ?_
  refine q_null rfl ?_
  refine s_put (vs' := [.int 5, .int (xs 1), .ref 1, .null, .null, .null]) rfl o75 rfl rfl rfl rfl (fun h76 o76 f76 => ?_)
  have s76 := s75.put f76
  refine q_aload_n rfl rfl ?_
  refine q_null rfl ?_
  refine s_put (vs' := [.int 5, .int (xs 1), .ref 1, .null, .null, .null]) rfl o76 rfl rfl rfl rfl (fun h77 o77 f77 => ?_)
  have s77 := s76.put f77
  refine q_return rfl rfl ?_
  show aW aiP 99 13 564 169 [(7, .int 0), (6, .ref 242), (5, .int 0), (4, .ref 239), (0, .ref 180), (1, .ref 236), (2, .ref 93), (3, .ref 135)] [.ref 244, .ref 239, .ref 180] h77 _
  have e180_77 := ((((((((((e180_67.ne f68 rfl).ne f69 rfl).ne f70 rfl).nw f71).ne f72 rfl).ne f73 rfl).ne f74 rfl).ne f75 rfl).ne f76 rfl).ne f77 rfl)
  refine s_callV (as := [.ref 239, .ref 244]) (rest := []) (d' := 12) (w' := 542) (lv' := [(0, .ref 180), (1, .ref 239), (2, .ref 244)]) rfl e180_77 rfl rfl rfl rfl rfl rfl ?_
  refine q_aload_n rfl rfl ?_
  refine s_get (v := .ref 181) rfl e180_77 rfl rfl ?_
  refine s_new (n' := 246) (q' := 511517) (vs := [.null, .null, .null]) rfl rfl s77 rfl rfl rfl (fun h78 o78 f78 s78 => ?_)
  refine q_dup rfl rfl ?_
  refine q_aload_n rfl rfl ?_
  refine q_aload_n rfl rfl ?_
  refine s_callI (as := [.ref 239, .ref 244]) (rest := [.ref 245, .ref 181]) (d' := 11) (w' := 520) (lv' := [(0, .ref 245), (1, .ref 239), (2, .ref 244)]) rfl rfl rfl rfl rfl rfl rfl rfl ?_
  refine q_aload_n rfl rfl ?_
  refine s_objI rfl rfl ?_
  refine q_aload_n rfl rfl ?_
  refine q_null rfl ?_
  refine s_put (vs' := [.null, .null, .null]) rfl o78 rfl rfl rfl rfl (fun h79 o79 f79 => ?_)
  have s79 := s78.put f79
  refine q_aload_n rfl rfl ?_
  refine q_aload_n rfl rfl ?_
  refine s_put (vs' := [.ref 239, .null, .null]) rfl o79 rfl rfl rfl rfl (fun h80 o80 f80 => ?_)
  have s80 := s79.put f80
  refine q_aload_n rfl rfl ?_
  refine q_aload_n rfl rfl ?_
  refine s_put (vs' := [.ref 239, .ref 244, .null]) rfl o80 rfl rfl rfl rfl (fun h81 o81 f81 => ?_)
  have s81 := s80.put f81
  refine q_return rfl rfl ?_
  show aW aiP 117 12 542 13 [(0, .ref 180), (1, .ref 239), (2, .ref 244)] [.ref 245, .ref 181] h81 _
  have e181_81 := (((((((((((o70.nw f71).ne f72 rfl).ne f73 rfl).ne f74 rfl).ne f75 rfl).ne f76 rfl).ne f77 rfl).nw f78).ne f79 rfl).ne f80 rfl).ne f81 rfl)
  refine s_callV (as := [.ref 245]) (rest := []) (d' := 11) (w' := 521) (lv' := [(0, .ref 181), (1, .ref 245)]) rfl e181_81 rfl rfl rfl rfl rfl rfl ?_
  refine q_aload_n rfl rfl ?_
  refine q_dup rfl rfl ?_
  refine s_get (v := .int 5) rfl e181_81 rfl rfl ?_
  refine q_iconst rfl ?_
  refine s_iadd (k := 6) rfl (by decide) ?_
  refine s_put (vs' := [.int 6, .ref 241, .int 4]) rfl e181_81 rfl rfl rfl rfl (fun h82 o82 f82 => ?_)
  have s82 := s81.put f82
  refine q_aload_n rfl rfl ?_
  refine q_aload_n rfl rfl ?_
  refine q_aload_n rfl rfl ?_
  refine s_get (v := .ref 241) rfl o82 rfl rfl ?_
  refine q_aload_n rfl rfl ?_
  refine s_get (v := .int 4) rfl o82 rfl rfl ?_
  refine s_callV (as := [.ref 245, .ref 241, .int 4]) (rest := []) (d' := 10) (w' := 498) (lv' := [(0, .ref 181), (1, .ref 245), (2, .ref 241), (3, .int 4)]) rfl o82 rfl rfl rfl rfl rfl rfl ?_
  refine q_iload_n rfl rfl ?_
  refine q_aload_n rfl rfl ?_
  have e241_82 := (f82.ne rfl (f81.ne rfl (f80.ne rfl (f79.ne rfl (f78.nw (f77.ne rfl (f76.ne rfl (f75.ne rfl (f74.ne rfl (f73.ne rfl (f72.ne rfl (f71.nw (f70.ne rfl o69)))))))))))))
  refine s_alen (x := 10) rfl e241_82 rfl (by decide) ?_
  refine q_icmp_ne rfl (fun _ => ?_) (fun c => absurd (by decide) c)
  refine q_aload_n rfl rfl ?_
  refine q_iload_n rfl rfl ?_
  refine q_aload_n rfl rfl ?_
  have e245_82 := (o81.ne f82 rfl)
  refine s_aastore (j := 4) rfl e241_82 e245_82 rfl (by decide) rfl (fun h83 o83 f83 => ?_)
  have s83 := s82.put f83
  refine q_aload_n rfl rfl ?_
  refine q_iload_n rfl rfl ?_
  refine q_iconst rfl ?_
  refine s_iadd (k := 5) rfl (by decide) ?_
  have e181_83 := (o82.ne f83 rfl)
  refine s_put (vs' := [.int 6, .ref 241, .int 5]) rfl e181_83 rfl rfl rfl rfl (fun h84 o84 f84 => ?_)
  have s84 := s83.put f84
  refine q_return rfl rfl ?_
  show aW aiP 104 11 521 23 [(0, .ref 181), (1, .ref 245)] [] h84 _
  refine q_iconst rfl ?_
  refine q_ireturn rfl rfl ?_
  show aW aiP 117 12 542 16 [(0, .ref 180), (1, .ref 239), (2, .ref 244)] [.int 1] h84 _
  refine q_pop rfl rfl ?_
  refine q_return rfl rfl ?_
  show aW aiP 99 13 564 172 [(7, .int 0), (6, .ref 242), (5, .int 0), (4, .ref 239), (0, .ref 180), (1, .ref 236), (2, .ref 93), (3, .ref 135)] [] h84 _
  refine q_aload_n rfl rfl ?_
  have e180_84 := (((((((e180_77.nw f78).ne f79 rfl).ne f80 rfl).ne f81 rfl).ne f82 rfl).ne f83 rfl).ne f84 rfl)
  refine s_callV (as := []) (rest := []) (d' := 12) (w' := 544) (lv' := [(0, .ref 180)]) rfl e180_84 rfl rfl rfl rfl rfl rfl ?_
  refine q_aload_n rfl rfl ?_
  refine s_get (v := .ref 181) rfl e180_84 rfl rfl ?_
  refine q_aload_n rfl rfl ?_
  refine s_get (v := .ref 182) rfl e180_84 rfl rfl ?_
  refine s_callV (as := [.ref 182]) (rest := []) (d' := 11) (w' := 523) (lv' := [(0, .ref 181), (1, .ref 182)]) rfl o84 rfl rfl rfl rfl rfl rfl ?_
  refine q_aload_n rfl rfl ?_
  refine q_dup rfl rfl ?_
  refine s_get (v := .int 6) rfl o84 rfl rfl ?_
  refine q_iconst rfl ?_
  refine s_iadd (k := 7) rfl (by decide) ?_
  refine s_put (vs' := [.int 7, .ref 241, .int 5]) rfl o84 rfl rfl rfl rfl (fun h85 o85 f85 => ?_)
  have s85 := s84.put f85
  refine q_aload_n rfl rfl ?_
  refine q_aload_n rfl rfl ?_
  refine q_aload_n rfl rfl ?_
  refine s_get (v := .ref 241) rfl o85 rfl rfl ?_
  refine q_aload_n rfl rfl ?_
  refine s_get (v := .int 5) rfl o85 rfl rfl ?_
  refine s_callV (as := [.ref 182, .ref 241, .int 5]) (rest := []) (d' := 10) (w' := 500) (lv' := [(0, .ref 181), (1, .ref 182), (2, .ref 241), (3, .int 5)]) rfl o85 rfl rfl rfl rfl rfl rfl ?_
  refine q_iload_n rfl rfl ?_
  refine q_aload_n rfl rfl ?_
  have e241_85 := (f85.ne rfl (f84.ne rfl o83))
  refine s_alen (x := 10) rfl e241_85 rfl (by decide) ?_
  refine q_icmp_ne rfl (fun _ => ?_) (fun c => absurd (by decide) c)
  refine q_aload_n rfl rfl ?_
  refine q_iload_n rfl rfl ?_
  refine q_aload_n rfl rfl ?_
  have e182_85 := (((((((((((((((((e182_68.ne f69 rfl).ne f70 rfl).nw f71).ne f72 rfl).ne f73 rfl).ne f74 rfl).ne f75 rfl).ne f76 rfl).ne f77 rfl).nw f78).ne f79 rfl).ne f80 rfl).ne f81 rfl).ne f82 rfl).ne f83 rfl).ne f84 rfl).ne f85 rfl)
  refine s_aastore (j := 5) rfl e241_85 e182_85 rfl (by decide) rfl (fun h86 o86 f86 => ?_)
  have s86 := s85.put f86
  refine q_aload_n rfl rfl ?_
  refine q_iload_n rfl rfl ?_
  refine q_iconst rfl ?_
  refine s_iadd (k := 6) rfl (by decide) ?_
  have e181_86 := (o85.ne f86 rfl)
  refine s_put (vs' := [.int 7, .ref 241, .int 6]) rfl e181_86 rfl rfl rfl rfl (fun h87 o87 f87 => ?_)
  have s87 := s86.put f87
  refine q_return rfl rfl ?_
  show aW aiP 104 11 523 23 [(0, .ref 181), (1, .ref 182)] [] h87 _
  refine q_iconst rfl ?_
  refine q_ireturn rfl rfl ?_
  show aW aiP 113 12 544 11 [(0, .ref 180)] [.int 1] h87 _
  refine q_pop rfl rfl ?_
  refine q_return rfl rfl ?_
  show aW aiP 99 13 564 176 [(7, .int 0), (6, .ref 242), (5, .int 0), (4, .ref 239), (0, .ref 180), (1, .ref 236), (2, .ref 93), (3, .ref 135)] [] h87 _
  refine q_aload_n rfl rfl ?_
  have e180_87 := (((e180_84.ne f85 rfl).ne f86 rfl).ne f87 rfl)
  refine s_callV (as := []) (rest := []) (d' := 12) (w' := 541) (lv' := [(0, .ref 180)]) rfl e180_87 rfl rfl rfl rfl rfl rfl ?_
  refine q_aload_n rfl rfl ?_
  refine s_get (v := .ref 181) rfl e180_87 rfl rfl ?_
  refine s_callV (as := []) (rest := []) (d' := 11) (w' := 521) (lv' := [(0, .ref 181)]) rfl o87 rfl rfl rfl rfl rfl rfl ?_
  refine q_aload_n rfl rfl ?_
  refine s_get (v := .int 6) rfl o87 rfl rfl ?_
  refine q_ireturn rfl rfl ?_
  show aW aiP 118 12 541 7 [(0, .ref 180)] [.int 6] h87 _
  refine s_istore_n (lv' := [(1, .int 6), (0, .ref 180)]) rfl (by decide) rfl ?_
  refine q_iconst rfl ?_
  refine s_istore_n (lv' := [(2, .int 0), (1, .int 6), (0, .ref 180)]) rfl (by decide) rfl ?_
  refine q_iload_n rfl rfl ?_
  refine q_iload_n rfl rfl ?_
  refine q_icmp_ge rfl (fun c => absurd c (by decide)) (fun _ => ?_)
  refine q_aload_n rfl rfl ?_
  refine s_get (v := .ref 181) rfl e180_87 rfl rfl ?_
  refine q_iload_n rfl rfl ?_
  refine s_callV (as := [.int 0]) (rest := []) (d' := 11) (w' := 520) (lv' := [(0, .ref 181), (1, .int 0)]) rfl o87 rfl rfl rfl rfl rfl rfl ?_
  refine q_iload_n rfl rfl ?_
  refine q_aload_n rfl rfl ?_
  refine s_get (v := .int 6) rfl o87 rfl rfl ?_
  refine s_callS (as := [.int 0, .int 6]) (rest := []) (d' := 10) (w' := 499) (lv' := [(0, .int 0), (1, .int 6)]) rfl rfl rfl rfl rfl rfl rfl rfl ?_
  refine q_iload_n rfl rfl ?_
  refine q_iload_n rfl rfl ?_
  refine q_null rfl ?_
  refine s_callS (as := [.int 0, .int 6, .null]) (rest := []) (d' := 9) (w' := 477) (lv' := [(0, .int 0), (1, .int 6), (2, .null)]) rfl rfl rfl rfl rfl rfl rfl rfl ?_
  refine q_iload_n rfl rfl ?_
  refine q_if_lt rfl (fun c => absurd c (by decide)) (fun _ => ?_)
  refine q_iload_n rfl rfl ?_
  refine q_iload_n rfl rfl ?_
  refine q_icmp_lt rfl (fun _ => ?_) (fun c => absurd (by decide) c)
  refine q_iload_n rfl rfl ?_
  refine q_ireturn rfl rfl ?_
  show aW aiP 52 10 499 6 [(0, .int 0), (1, .int 6)] [.int 0] h87 _
  refine q_ireturn rfl rfl ?_
  show aW aiP 51 11 520 8 [(0, .ref 181), (1, .int 0)] [.int 0] h87 _
  refine q_pop rfl rfl ?_
  refine q_aload_n rfl rfl ?_
  refine q_iload_n rfl rfl ?_
  refine s_callV (as := [.int 0]) (rest := []) (d' := 10) (w' := 499) (lv' := [(0, .ref 181), (1, .int 0)]) rfl o87 rfl rfl rfl rfl rfl rfl ?_
  refine q_aload_n rfl rfl ?_
  refine s_get (v := .ref 241) rfl o87 rfl rfl ?_
  refine q_iload_n rfl rfl ?_
  have e241_87 := (f87.ne rfl o86)
  refine s_aaload (j := 0) (v := .ref 240) rfl e241_87 rfl (by decide) rfl (by first | rfl | decide) ?_
  refine q_areturn rfl rfl rfl ?_
  show aW aiP 51 11 520 14 [(0, .ref 181), (1, .int 0)] [.ref 240] h87 _
  refine q_areturn rfl rfl rfl ?_
  show aW aiP 118 12 541 23 [(2, .int 0), (1, .int 6), (0, .ref 180)] [.ref 240] h87 _
  have e240_87 := (((((((((((((((((((((((((((((((((((((((((((e240_44.ne f45 rfl).ne f46 rfl).ne f47 rfl).ne f48 rfl).ne f49 rfl).nw f50).ne f51 rfl).ne f52 rfl).ne f53 rfl).ne f54 rfl).ne f55 rfl).ne f56 rfl).ne f57 rfl).ne f58 rfl).ne f59 rfl).ne f60 rfl).nw f61).ne f62 rfl).ne f63 rfl).ne f64 rfl).ne f65 rfl).ne f66 rfl).ne f67 rfl).ne f68 rfl).ne f69 rfl).ne f70 rfl).nw f71).ne f72 rfl).ne f73 rfl).ne f74 rfl).ne f75 rfl).ne f76 rfl).ne f77 rfl).nw f78).ne f79 rfl).ne f80 rfl).ne f81 rfl).ne f82 rfl).ne f83 rfl).ne f84 rfl).ne f85 rfl).ne f86 rfl).ne f87 rfl)
  refine s_cast rfl e240_87 ?_
  refine s_get (v := .ref 239) rfl e240_87 rfl rfl ?_
  refine s_astore_n (lv' := [(3, .ref 239), (2, .int 0), (1, .int 6), (0, .ref 180)]) rfl (by decide) rfl ?_
  refine q_aload_n rfl rfl ?_
  refine q_ifnull rfl ?_
  refine q_aload_n rfl rfl ?_
  have e239_87 := ((((((((((((((((((((((((((((((((((((((((((((((((((o37.nw f38).ne f39 rfl).ne f40 rfl).ne f41 rfl).ne f42 rfl).nw f43).ne f44 rfl).ne f45 rfl).ne f46 rfl).ne f47 rfl).ne f48 rfl).ne f49 rfl).nw f50).ne f51 rfl).ne f52 rfl).ne f53 rfl).ne f54 rfl).ne f55 rfl).ne f56 rfl).ne f57 rfl).ne f58 rfl).ne f59 rfl).ne f60 rfl).nw f61).ne f62 rfl).ne f63 rfl).ne f64 rfl).ne f65 rfl).ne f66 rfl).ne f67 rfl).ne f68 rfl).ne f69 rfl).ne f70 rfl).nw f71).ne f72 rfl).ne f73 rfl).ne f74 rfl).ne f75 rfl).ne f76 rfl).ne f77 rfl).nw f78).ne f79 rfl).ne f80 rfl).ne f81 rfl).ne f82 rfl).ne f83 rfl).ne f84 rfl).ne f85 rfl).ne f86 rfl).ne f87 rfl)
  refine s_get (v := .int 4) rfl e239_87 rfl rfl ?_
  refine q_iconst rfl ?_
  refine q_icmp_ne rfl (fun _ => ?_) (fun c => absurd (by decide) c)
  refine s_iinc (y := 1) (lv' := [(2, .int 1), (3, .ref 239), (1, .int 6), (0, .ref 180)]) rfl rfl (by decide) (by decide) rfl ?_
  refine q_goto rfl ?_
  refine q_iload_n rfl rfl ?_
  refine q_iload_n rfl rfl ?_
  refine q_icmp_ge rfl (fun c => absurd c (by decide)) (fun _ => ?_)
  refine q_aload_n rfl rfl ?_
  refine s_get (v := .ref 181) rfl e180_87 rfl rfl ?_
  refine q_iload_n rfl rfl ?_
  refine s_callV (as := [.int 1]) (rest := []) (d' := 11) (w' := 520) (lv' := [(0, .ref 181), (1, .int 1)]) rfl o87 rfl rfl rfl rfl rfl rfl ?_
  refine q_iload_n rfl rfl ?_
  refine q_aload_n rfl rfl ?_
  refine s_get (v := .int 6) rfl o87 rfl rfl ?_
  refine s_callS (as := [.int 1, .int 6]) (rest := []) (d' := 10) (w' := 499) (lv' := [(0, .int 1), (1, .int 6)]) rfl rfl rfl rfl rfl rfl rfl rfl ?_
  refine q_iload_n rfl rfl ?_
  refine q_iload_n rfl rfl ?_
  refine q_null rfl ?_
  refine s_callS (as := [.int 1, .int 6, .null]) (rest := []) (d' := 9) (w' := 477) (lv' := [(0, .int 1), (1, .int 6), (2, .null)]) rfl rfl rfl rfl rfl rfl rfl rfl ?_
  refine q_iload_n rfl rfl ?_
  refine q_if_lt rfl (fun c => absurd c (by decide)) (fun _ => ?_)
  refine q_iload_n rfl rfl ?_
  refine q_iload_n rfl rfl ?_
  refine q_icmp_lt rfl (fun _ => ?_) (fun c => absurd (by decide) c)
  refine q_iload_n rfl rfl ?_
  refine q_ireturn rfl rfl ?_
  show aW aiP 52 10 499 6 [(0, .int 1), (1, .int 6)] [.int 1] h87 _
  refine q_ireturn rfl rfl ?_
  show aW aiP 51 11 520 8 [(0, .ref 181), (1, .int 1)] [.int 1] h87 _
  refine q_pop rfl rfl ?_
  refine q_aload_n rfl rfl ?_
  refine q_iload_n rfl rfl ?_
  refine s_callV (as := [.int 1]) (rest := []) (d' := 10) (w' := 499) (lv' := [(0, .ref 181), (1, .int 1)]) rfl o87 rfl rfl rfl rfl rfl rfl ?_
  refine q_aload_n rfl rfl ?_
  refine s_get (v := .ref 241) rfl o87 rfl rfl ?_
  refine q_iload_n rfl rfl ?_
  refine s_aaload (j := 1) (v := .ref 182) rfl e241_87 rfl (by decide) rfl (by first | rfl | decide) ?_
  refine q_areturn rfl rfl rfl ?_
  show aW aiP 51 11 520 14 [(0, .ref 181), (1, .int 1)] [.ref 182] h87 _
  refine q_areturn rfl rfl rfl ?_
  show aW aiP 118 12 541 23 [(2, .int 1), (3, .ref 239), (1, .int 6), (0, .ref 180)] [.ref 182] h87 _
  have e182_87 := ((e182_85.ne f86 rfl).ne f87 rfl)
  refine s_cast rfl e182_87 ?_
  refine s_get (v := .null) rfl e182_87 rfl rfl ?_
  refine s_astore_nN (lv' := [(3, .null), (2, .int 1), (1, .int 6), (0, .ref 180)]) rfl (by decide) rfl ?_
  refine q_aload_nN rfl rfl ?_
  refine q_ifnullN rfl ?_
  refine s_iinc (y := 2) (lv' := [(2, .int 2), (3, .null), (1, .int 6), (0, .ref 180)]) rfl rfl (by decide) (by decide) rfl ?_
  refine q_goto rfl ?_
  refine q_iload_n rfl rfl ?_
  refine q_iload_n rfl rfl ?_
  refine q_icmp_ge rfl (fun c => absurd c (by decide)) (fun _ => ?_)
  refine q_aload_n rfl rfl ?_
  refine s_get (v := .ref 181) rfl e180_87 rfl rfl ?_
  refine q_iload_n rfl rfl ?_
  refine s_callV (as := [.int 2]) (rest := []) (d' := 11) (w' := 520) (lv' := [(0, .ref 181), (1, .int 2)]) rfl o87 rfl rfl rfl rfl rfl rfl ?_
  refine q_iload_n rfl rfl ?_
  refine q_aload_n rfl rfl ?_
  refine s_get (v := .int 6) rfl o87 rfl rfl ?_
  refine s_callS (as := [.int 2, .int 6]) (rest := []) (d' := 10) (w' := 499) (lv' := [(0, .int 2), (1, .int 6)]) rfl rfl rfl rfl rfl rfl rfl rfl ?_
  refine q_iload_n rfl rfl ?_
  refine q_iload_n rfl rfl ?_
  refine q_null rfl ?_
  refine s_callS (as := [.int 2, .int 6, .null]) (rest := []) (d' := 9) (w' := 477) (lv' := [(0, .int 2), (1, .int 6), (2, .null)]) rfl rfl rfl rfl rfl rfl rfl rfl ?_
  refine q_iload_n rfl rfl ?_
  refine q_if_lt rfl (fun c => absurd c (by decide)) (fun _ => ?_)
  refine q_iload_n rfl rfl ?_
  refine q_iload_n rfl rfl ?_
  refine q_icmp_lt rfl (fun _ => ?_) (fun c => absurd (by decide) c)
  refine q_iload_n rfl rfl ?_
  refine q_ireturn rfl rfl ?_
  show aW aiP 52 10 499 6 [(0, .int 2), (1, .int 6)] [.int 2] h87 _
  refine q_ireturn rfl rfl ?_
  show aW aiP 51 11 520 8 [(0, .ref 181), (1, .int 2)] [.int 2] h87 _
  refine q_pop rfl rfl ?_
  refine q_aload_n rfl rfl ?_
  refine q_iload_n rfl rfl ?_
  refine s_callV (as := [.int 2]) (rest := []) (d' := 10) (w' := 499) (lv' := [(0, .ref 181), (1, .int 2)]) rfl o87 rfl rfl rfl rfl rfl rfl ?_
  refine q_aload_n rfl rfl ?_
  refine s_get (v := .ref 241) rfl o87 rfl rfl ?_
  refine q_iload_n rfl rfl ?_
  refine s_aaload (j := 2) (v := .ref 243) rfl e241_87 rfl (by decide) rfl (by first | rfl | decide) ?_
  refine q_areturn rfl rfl rfl ?_
  show aW aiP 51 11 520 14 [(0, .ref 181), (1, .int 2)] [.ref 243] h87 _
  refine q_areturn rfl rfl rfl ?_
  show aW aiP 118 12 541 23 [(2, .int 2), (3, .null), (1, .int 6), (0, .ref 180)] [.ref 243] h87 _
  have e243_87 := ((((((((((((((((((((((e243_65.ne f66 rfl).ne f67 rfl).ne f68 rfl).ne f69 rfl).ne f70 rfl).nw f71).ne f72 rfl).ne f73 rfl).ne f74 rfl).ne f75 rfl).ne f76 rfl).ne f77 rfl).nw f78).ne f79 rfl).ne f80 rfl).ne f81 rfl).ne f82 rfl).ne f83 rfl).ne f84 rfl).ne f85 rfl).ne f86 rfl).ne f87 rfl)
  refine s_cast rfl e243_87 ?_
  refine s_get (v := .ref 236) rfl e243_87 rfl rfl ?_
  refine s_astore_n (lv' := [(3, .ref 236), (2, .int 2), (1, .int 6), (0, .ref 180)]) rfl (by decide) rfl ?_
  refine q_aload_n rfl rfl ?_
  refine q_ifnull rfl ?_
  refine q_aload_n rfl rfl ?_
  have e236_87 := ((((((((((((((((e236_71.ne f72 rfl).ne f73 rfl).ne f74 rfl).ne f75 rfl).ne f76 rfl).ne f77 rfl).nw f78).ne f79 rfl).ne f80 rfl).ne f81 rfl).ne f82 rfl).ne f83 rfl).ne f84 rfl).ne f85 rfl).ne f86 rfl).ne f87 rfl)
  refine s_get (v := .int 3) rfl e236_87 rfl rfl ?_
  refine q_iconst rfl ?_
  refine q_icmp_ne rfl (fun _ => ?_) (fun c => absurd (by decide) c)
  refine s_iinc (y := 3) (lv' := [(2, .int 3), (3, .ref 236), (1, .int 6), (0, .ref 180)]) rfl rfl (by decide) (by decide) rfl ?_
  refine q_goto rfl ?_
  refine q_iload_n rfl rfl ?_
  refine q_iload_n rfl rfl ?_
  refine q_icmp_ge rfl (fun c => absurd c (by decide)) (fun _ => ?_)
  refine q_aload_n rfl rfl ?_
  refine s_get (v := .ref 181) rfl e180_87 rfl rfl ?_
  refine q_iload_n rfl rfl ?_
  refine s_callV (as := [.int 3]) (rest := []) (d' := 11) (w' := 520) (lv' := [(0, .ref 181), (1, .int 3)]) rfl o87 rfl rfl rfl rfl rfl rfl ?_
  refine q_iload_n rfl rfl ?_
  refine q_aload_n rfl rfl ?_
  refine s_get (v := .int 6) rfl o87 rfl rfl ?_
  refine s_callS (as := [.int 3, .int 6]) (rest := []) (d' := 10) (w' := 499) (lv' := [(0, .int 3), (1, .int 6)]) rfl rfl rfl rfl rfl rfl rfl rfl ?_
  refine q_iload_n rfl rfl ?_
  refine q_iload_n rfl rfl ?_
  refine q_null rfl ?_
  refine s_callS (as := [.int 3, .int 6, .null]) (rest := []) (d' := 9) (w' := 477) (lv' := [(0, .int 3), (1, .int 6), (2, .null)]) rfl rfl rfl rfl rfl rfl rfl rfl ?_
  refine q_iload_n rfl rfl ?_
  refine q_if_lt rfl (fun c => absurd c (by decide)) (fun _ => ?_)
  refine q_iload_n rfl rfl ?_
  refine q_iload_n rfl rfl ?_
  refine q_icmp_lt rfl (fun _ => ?_) (fun c => absurd (by decide) c)
  refine q_iload_n rfl rfl ?_
  refine q_ireturn rfl rfl ?_
  show aW aiP 52 10 499 6 [(0, .int 3), (1, .int 6)] [.int 3] h87 _
  refine q_ireturn rfl rfl ?_
  show aW aiP 51 11 520 8 [(0, .ref 181), (1, .int 3)] [.int 3] h87 _
  refine q_pop rfl rfl ?_
  refine q_aload_n rfl rfl ?_
  refine q_iload_n rfl rfl ?_
  refine s_callV (as := [.int 3]) (rest := []) (d' := 10) (w' := 499) (lv' := [(0, .ref 181), (1, .int 3)]) rfl o87 rfl rfl rfl rfl rfl rfl ?_
  refine q_aload_n rfl rfl ?_
  refine s_get (v := .ref 241) rfl o87 rfl rfl ?_
  refine q_iload_n rfl rfl ?_
  refine s_aaload (j := 3) (v := .ref 182) rfl e241_87 rfl (by decide) rfl (by first | rfl | decide) ?_
  refine q_areturn rfl rfl rfl ?_
  show aW aiP 51 11 520 14 [(0, .ref 181), (1, .int 3)] [.ref 182] h87 _
  refine q_areturn rfl rfl rfl ?_
  show aW aiP 118 12 541 23 [(2, .int 3), (3, .ref 236), (1, .int 6), (0, .ref 180)] [.ref 182] h87 _
  refine s_cast rfl e182_87 ?_
  refine s_get (v := .null) rfl e182_87 rfl rfl ?_
  refine s_astore_nN (lv' := [(3, .null), (2, .int 3), (1, .int 6), (0, .ref 180)]) rfl (by decide) rfl ?_
  refine q_aload_nN rfl rfl ?_
  refine q_ifnullN rfl ?_
  refine s_iinc (y := 4) (lv' := [(2, .int 4), (3, .null), (1, .int 6), (0, .ref 180)]) rfl rfl (by decide) (by decide) rfl ?_
  refine q_goto rfl ?_
  refine q_iload_n rfl rfl ?_
  refine q_iload_n rfl rfl ?_
  refine q_icmp_ge rfl (fun c => absurd c (by decide)) (fun _ => ?_)
  refine q_aload_n rfl rfl ?_
  refine s_get (v := .ref 181) rfl e180_87 rfl rfl ?_
  refine q_iload_n rfl rfl ?_
  refine s_callV (as := [.int 4]) (rest := []) (d' := 11) (w' := 520) (lv' := [(0, .ref 181), (1, .int 4)]) rfl o87 rfl rfl rfl rfl rfl rfl ?_
  refine q_iload_n rfl rfl ?_
  refine q_aload_n rfl rfl ?_
  refine s_get (v := .int 6) rfl o87 rfl rfl ?_
  refine s_callS (as := [.int 4, .int 6]) (rest := []) (d' := 10) (w' := 499) (lv' := [(0, .int 4), (1, .int 6)]) rfl rfl rfl rfl rfl rfl rfl rfl ?_
  refine q_iload_n rfl rfl ?_
  refine q_iload_n rfl rfl ?_
  refine q_null rfl ?_
  refine s_callS (as := [.int 4, .int 6, .null]) (rest := []) (d' := 9) (w' := 477) (lv' := [(0, .int 4), (1, .int 6), (2, .null)]) rfl rfl rfl rfl rfl rfl rfl rfl ?_
  refine q_iload_n rfl rfl ?_
  refine q_if_lt rfl (fun c => absurd c (by decide)) (fun _ => ?_)
  refine q_iload_n rfl rfl ?_
  refine q_iload_n rfl rfl ?_
  refine q_icmp_lt rfl (fun _ => ?_) (fun c => absurd (by decide) c)
  refine q_iload_n rfl rfl ?_
  refine q_ireturn rfl rfl ?_
  show aW aiP 52 10 499 6 [(0, .int 4), (1, .int 6)] [.int 4] h87 _
  refine q_ireturn rfl rfl ?_
  show aW aiP 51 11 520 8 [(0, .ref 181), (1, .int 4)] [.int 4] h87 _
  refine q_pop rfl rfl ?_
  refine q_aload_n rfl rfl ?_
  refine q_iload_n rfl rfl ?_
  refine s_callV (as := [.int 4]) (rest := []) (d' := 10) (w' := 499) (lv' := [(0, .ref 181), (1, .int 4)]) rfl o87 rfl rfl rfl rfl rfl rfl ?_
  refine q_aload_n rfl rfl ?_
  refine s_get (v := .ref 241) rfl o87 rfl rfl ?_
  refine q_iload_n rfl rfl ?_
  refine s_aaload (j := 4) (v := .ref 245) rfl e241_87 rfl (by decide) rfl (by first | rfl | decide) ?_
  refine q_areturn rfl rfl rfl ?_
  show aW aiP 51 11 520 14 [(0, .ref 181), (1, .int 4)] [.ref 245] h87 _
  refine q_areturn rfl rfl rfl ?_
  show aW aiP 118 12 541 23 [(2, .int 4), (3, .null), (1, .int 6), (0, .ref 180)] [.ref 245] h87 _
  have e245_87 := (((((e245_82.ne f83 rfl).ne f84 rfl).ne f85 rfl).ne f86 rfl).ne f87 rfl)
  refine s_cast rfl e245_87 ?_
  refine s_get (v := .ref 244) rfl e245_87 rfl rfl ?_
  refine s_astore_n (lv' := [(3, .ref 244), (2, .int 4), (1, .int 6), (0, .ref 180)]) rfl (by decide) rfl ?_
  refine q_aload_n rfl rfl ?_
  refine q_ifnull rfl ?_
  refine q_aload_n rfl rfl ?_
  have e244_87 := ((((((((((o77.nw f78).ne f79 rfl).ne f80 rfl).ne f81 rfl).ne f82 rfl).ne f83 rfl).ne f84 rfl).ne f85 rfl).ne f86 rfl).ne f87 rfl)
  refine s_get (v := .int 5) rfl e244_87 rfl rfl ?_
  refine q_iconst rfl ?_
  refine q_icmp_ne rfl (fun _ => ?_) (fun c => absurd (by decide) c)
  refine s_iinc (y := 5) (lv' := [(2, .int 5), (3, .ref 244), (1, .int 6), (0, .ref 180)]) rfl rfl (by decide) (by decide) rfl ?_
  refine q_goto rfl ?_
  refine q_iload_n rfl rfl ?_
  refine q_iload_n rfl rfl ?_
  refine q_icmp_ge rfl (fun c => absurd c (by decide)) (fun _ => ?_)
  refine q_aload_n rfl rfl ?_
  refine s_get (v := .ref 181) rfl e180_87 rfl rfl ?_
  refine q_iload_n rfl rfl ?_
  refine s_callV (as := [.int 5]) (rest := []) (d' := 11) (w' := 520) (lv' := [(0, .ref 181), (1, .int 5)]) rfl o87 rfl rfl rfl rfl rfl rfl ?_
  refine q_iload_n rfl rfl ?_
  refine q_aload_n rfl rfl ?_
  refine s_get (v := .int 6) rfl o87 rfl rfl ?_
  refine s_callS (as := [.int 5, .int 6]) (rest := []) (d' := 10) (w' := 499) (lv' := [(0, .int 5), (1, .int 6)]) rfl rfl rfl rfl rfl rfl rfl rfl ?_
  refine q_iload_n rfl rfl ?_
  refine q_iload_n rfl rfl ?_
  refine q_null rfl ?_
  refine s_callS (as := [.int 5, .int 6, .null]) (rest := []) (d' := 9) (w' := 477) (lv' := [(0, .int 5), (1, .int 6), (2, .null)]) rfl rfl rfl rfl rfl rfl rfl rfl ?_
  refine q_iload_n rfl rfl ?_
  refine q_if_lt rfl (fun c => absurd c (by decide)) (fun _ => ?_)
  refine q_iload_n rfl rfl ?_
  refine q_iload_n rfl rfl ?_
  refine q_icmp_lt rfl (fun _ => ?_) (fun c => absurd (by decide) c)
  refine q_iload_n rfl rfl ?_
  refine q_ireturn rfl rfl ?_
  show aW aiP 52 10 499 6 [(0, .int 5), (1, .int 6)] [.int 5] h87 _
  refine q_ireturn rfl rfl ?_
  show aW aiP 51 11 520 8 [(0, .ref 181), (1, .int 5)] [.int 5] h87 _
  refine q_pop rfl rfl ?_
  refine q_aload_n rfl rfl ?_
  refine q_iload_n rfl rfl ?_
  refine s_callV (as := [.int 5]) (rest := []) (d' := 10) (w' := 499) (lv' := [(0, .ref 181), (1, .int 5)]) rfl o87 rfl rfl rfl rfl rfl rfl ?_
  refine q_aload_n rfl rfl ?_
  refine s_get (v := .ref 241) rfl o87 rfl rfl ?_
  refine q_iload_n rfl rfl ?_
  refine s_aaload (j := 5) (v := .ref 182) rfl e241_87 rfl (by decide) rfl (by first | rfl | decide) ?_
  refine q_areturn rfl rfl rfl ?_
  show aW aiP 51 11 520 14 [(0, .ref 181), (1, .int 5)] [.ref 182] h87 _
  refine q_areturn rfl rfl rfl ?_
  show aW aiP 118 12 541 23 [(2, .int 5), (3, .ref 244), (1, .int 6), (0, .ref 180)] [.ref 182] h87 _
  refine s_cast rfl e182_87 ?_
  refine s_get (v := .null) rfl e182_87 rfl rfl ?_
  refine s_astore_nN (lv' := [(3, .null), (2, .int 5), (1, .int 6), (0, .ref 180)]) rfl (by decide) rfl ?_
  refine q_aload_nN rfl rfl ?_
  refine q_ifnullN rfl ?_
  refine s_iinc (y := 6) (lv' := [(2, .int 6), (3, .null), (1, .int 6), (0, .ref 180)]) rfl rfl (by decide) (by decide) rfl ?_
  refine q_goto rfl ?_
  refine q_iload_n rfl rfl ?_
  refine q_iload_n rfl rfl ?_
  refine q_icmp_ge rfl (fun _ => ?_) (fun c => absurd (by decide) c)
  refine q_return rfl rfl ?_
  show aW aiP 99 13 564 180 [(7, .int 0), (6, .ref 242), (5, .int 0), (4, .ref 239), (0, .ref 180), (1, .ref 236), (2, .ref 93), (3, .ref 135)] [] h87 _
  refine q_aload_n rfl rfl ?_
  refine s_callV (as := []) (rest := []) (d' := 12) (w' := 544) (lv' := [(0, .ref 180)]) rfl e180_87 rfl rfl rfl rfl rfl rfl ?_
  refine q_aload_n rfl rfl ?_
  refine s_get (v := .ref 181) rfl e180_87 rfl rfl ?_
  refine q_aload_n rfl rfl ?_
  refine s_get (v := .ref 182) rfl e180_87 rfl rfl ?_
  refine s_callV (as := [.ref 182]) (rest := []) (d' := 11) (w' := 523) (lv' := [(0, .ref 181), (1, .ref 182)]) rfl o87 rfl rfl rfl rfl rfl rfl ?_
  refine q_aload_n rfl rfl ?_
  refine q_dup rfl rfl ?_
  refine s_get (v := .int 7) rfl o87 rfl rfl ?_
  refine q_iconst rfl ?_
  refine s_iadd (k := 8) rfl (by decide) ?_
  refine s_put (vs' := [.int 8, .ref 241, .int 6]) rfl o87 rfl rfl rfl rfl (fun h88 o88 f88 => ?_)
  have s88 := s87.put f88
  refine q_aload_n rfl rfl ?_
  refine q_aload_n rfl rfl ?_
  refine q_aload_n rfl rfl ?_
  refine s_get (v := .ref 241) rfl o88 rfl rfl ?_
  refine q_aload_n rfl rfl ?_
  refine s_get (v := .int 6) rfl o88 rfl rfl ?_
  refine s_callV (as := [.ref 182, .ref 241, .int 6]) (rest := []) (d' := 10) (w' := 500) (lv' := [(0, .ref 181), (1, .ref 182), (2, .ref 241), (3, .int 6)]) rfl o88 rfl rfl rfl rfl rfl rfl ?_
  refine q_iload_n rfl rfl ?_
  refine q_aload_n rfl rfl ?_
  have e241_88 := (f88.ne rfl e241_87)
  refine s_alen (x := 10) rfl e241_88 rfl (by decide) ?_
  refine q_icmp_ne rfl (fun _ => ?_) (fun c => absurd (by decide) c)
  refine q_aload_n rfl rfl ?_
  refine q_iload_n rfl rfl ?_
  refine q_aload_n rfl rfl ?_
  have e182_88 := (e182_87.ne f88 rfl)
  refine s_aastore (j := 6) rfl e241_88 e182_88 rfl (by decide) rfl (fun h89 o89 f89 => ?_)
  have s89 := s88.put f89
  refine q_aload_n rfl rfl ?_
  refine q_iload_n rfl rfl ?_
  refine q_iconst rfl ?_
  refine s_iadd (k := 7) rfl (by decide) ?_
  have e181_89 := (o88.ne f89 rfl)
  refine s_put (vs' := [.int 8, .ref 241, .int 7]) rfl e181_89 rfl rfl rfl rfl (fun h90 o90 f90 => ?_)
  have s90 := s89.put f90
  refine q_return rfl rfl ?_
  show aW aiP 104 11 523 23 [(0, .ref 181), (1, .ref 182)] [] h90 _
  refine q_iconst rfl ?_
  refine q_ireturn rfl rfl ?_
  show aW aiP 113 12 544 11 [(0, .ref 180)] [.int 1] h90 _
  refine q_pop rfl rfl ?_
  refine q_return rfl rfl ?_
  show aW aiP 99 13 564 184 [(7, .int 0), (6, .ref 242), (5, .int 0), (4, .ref 239), (0, .ref 180), (1, .ref 236), (2, .ref 93), (3, .ref 135)] [] h90 _
  refine q_return rfl rfl ?_
  show aW aiP 84 14 592 118 [(2, .ref 234), (0, .ref 6), (1, .int (xs 1))] [] h90 _
  refine q_aload_n rfl rfl ?_
  refine q_iconst rfl ?_
  have e6_90 := ((((((((((((((((((((((((((((((((((((((((((((((((((((((((((((((((e6_26.ne f27 rfl).ne f28 rfl).ne f29 rfl).ne f30 rfl).nw f31).ne f32 rfl).ne f33 rfl).ne f34 rfl).ne f35 rfl).ne f36 rfl).ne f37 rfl).nw f38).ne f39 rfl).ne f40 rfl).ne f41 rfl).ne f42 rfl).nw f43).ne f44 rfl).ne f45 rfl).ne f46 rfl).ne f47 rfl).ne f48 rfl).ne f49 rfl).nw f50).ne f51 rfl).ne f52 rfl).ne f53 rfl).ne f54 rfl).ne f55 rfl).ne f56 rfl).ne f57 rfl).ne f58 rfl).ne f59 rfl).ne f60 rfl).nw f61).ne f62 rfl).ne f63 rfl).ne f64 rfl).ne f65 rfl).ne f66 rfl).ne f67 rfl).ne f68 rfl).ne f69 rfl).ne f70 rfl).nw f71).ne f72 rfl).ne f73 rfl).ne f74 rfl).ne f75 rfl).ne f76 rfl).ne f77 rfl).nw f78).ne f79 rfl).ne f80 rfl).ne f81 rfl).ne f82 rfl).ne f83 rfl).ne f84 rfl).ne f85 rfl).ne f86 rfl).ne f87 rfl).ne f88 rfl).ne f89 rfl).ne f90 rfl)
  refine s_put (vs' := [.ref 7, .ref 8, .int 0, .ref 9, .int (-1), .ref 51, .ref 93, .ref 135, .ref 177, .ref 180, .int 1, .ref 183, .ref 186, .ref 189]) rfl e6_90 rfl rfl rfl rfl (fun h91 o91 f91 => ?_)
  have s91 := s90.put f91
  refine q_return rfl rfl ?_
  show aW aiP 82 15 614 55 [(0, .ref 6), (1, .int (xs 1))] [] h91 _
  refine q_aload_n rfl rfl ?_
  refine s_get (v := .ref 180) rfl o91 rfl rfl ?_
  have e180_91 := ((((e180_87.ne f88 rfl).ne f89 rfl).ne f90 rfl).ne f91 rfl)
  refine s_callV (as := []) (rest := []) (d' := 14) (w' := 594) (lv' := [(0, .ref 180)]) rfl e180_91 rfl rfl rfl rfl rfl rfl ?_
  refine q_aload_n rfl rfl ?_
  refine s_get (v := .ref 181) rfl e180_91 rfl rfl ?_
  have e181_91 := (o90.ne f91 rfl)
  refine s_callV (as := []) (rest := []) (d' := 13) (w' := 574) (lv' := [(0, .ref 181)]) rfl e181_91 rfl rfl rfl rfl rfl rfl ?_
  refine q_aload_n rfl rfl ?_
  refine s_get (v := .int 7) rfl e181_91 rfl rfl ?_
  refine q_ireturn rfl rfl ?_
  show aW aiP 120 14 594 7 [(0, .ref 180)] [.int 7] h91 _
  refine q_ireturn rfl rfl ?_
  show aW aiP 82 15 614 62 [(0, .ref 6), (1, .int (xs 1))] [.int 7] h91 _
  refine q_ireturn rfl rfl ?_
  show aW aiP 81 16 635 7 [(0, .ref 6), (1, .int (xs 1)), (2, .ref 233)] [.int 7, .int 0, .ref 233] h91 _
  refine s_i2l (k := 7) rfl (by decide) ?_
  have e233 := F.2.2.2.2.2.2.2.2.2.2.2.2.2.2.2.2.2.2.2.2.2.2.2.2.2.2.2.2.2.2.2.2.2.2.2.2.2.2.2.2.2.2.2.2.2.2.2.2.2.2.2.2.2.2.2.2.2.2.2.2.2.2.2.2.2.2.2.2.2.1
  have e233_91 := (f91.ne rfl (f90.ne rfl (f89.ne rfl (f88.ne rfl (f87.ne rfl (f86.ne rfl (f85.ne rfl (f84.ne rfl (f83.ne rfl (f82.ne rfl (f81.ne rfl (f80.ne rfl (f79.ne rfl (f78.nw (f77.ne rfl (f76.ne rfl (f75.ne rfl (f74.ne rfl (f73.ne rfl (f72.ne rfl (f71.nw (f70.ne rfl (f69.ne rfl (f68.ne rfl (f67.ne rfl (f66.ne rfl (f65.ne rfl (f64.ne rfl (f63.ne rfl (f62.ne rfl (f61.nw (f60.ne rfl (f59.ne rfl (f58.ne rfl (f57.ne rfl (f56.ne rfl (f55.ne rfl (f54.ne rfl (f53.ne rfl (f52.ne rfl (f51.ne rfl (f50.nw (f49.ne rfl (f48.ne rfl (f47.ne rfl (f46.ne rfl (f45.ne rfl (f44.ne rfl (f43.nw (f42.ne rfl (f41.ne rfl (f40.ne rfl (f39.ne rfl (f38.nw (f37.ne rfl (f36.ne rfl (f35.ne rfl (f34.ne rfl (f33.ne rfl (f32.ne rfl (f31.nw (f30.ne rfl (f29.ne rfl (f28.ne rfl (f27.ne rfl (f26.ne rfl (f25.ne rfl (f24.ne rfl (f23.ne rfl (f22.ne rfl (f21.ne rfl (f20.ne rfl (f19.nw (f18.nw (f17.ne rfl (f16.ne rfl (f15.ne rfl (f14.ne rfl (f13.ne rfl (f12.ne rfl (f11.ne rfl (f10.ne rfl (f9.ne rfl (f8.nw (f7.ne rfl (f6.ne rfl (f5.ne rfl (f4.ne rfl (f3.ne rfl (f2.nw (f1.ne rfl e233)))))))))))))))))))))))))))))))))))))))))))))))))))))))))))))))))))))))))))))))))))))))))))
  refine s_lastore (j := 0) rfl e233_91 (by decide) rfl (fun h92 o92 f92 => ?_)
  have s92 := s91.put f92
  refine q_goto rfl ?_
  refine q_iconst rfl ?_
  refine q_ireturn rfl rfl ?_
  show aW aiP 0 17 658 564 [(4, .int 0), (3, .ref 233), (2, .ref 191), (1, .ref 6), (0, .ref 0)] [.int 0] h92 _
  refine s_istore (lv' := [(5, .int 0), (4, .int 0), (3, .ref 233), (2, .ref 191), (1, .ref 6), (0, .ref 0)]) rfl (by decide) rfl ?_
  refine q_aload_n rfl rfl ?_
  refine q_aload_n rfl rfl ?_
  refine q_iload rfl rfl ?_
  refine q_iconst rfl ?_
  refine s_iadd (k := 1) rfl (by decide) ?_
  have e0_92 := (f92.ne rfl (f91.ne rfl (f90.ne rfl (f89.ne rfl (f88.ne rfl (f87.ne rfl (f86.ne rfl (f85.ne rfl (f84.ne rfl (f83.ne rfl (f82.ne rfl (f81.ne rfl (f80.ne rfl (f79.ne rfl (f78.nw (f77.ne rfl (f76.ne rfl (f75.ne rfl (f74.ne rfl (f73.ne rfl (f72.ne rfl (f71.nw (f70.ne rfl (f69.ne rfl (f68.ne rfl (f67.ne rfl (f66.ne rfl (f65.ne rfl (f64.ne rfl (f63.ne rfl (f62.ne rfl (f61.nw (f60.ne rfl (f59.ne rfl (f58.ne rfl (f57.ne rfl (f56.ne rfl (f55.ne rfl (f54.ne rfl (f53.ne rfl (f52.ne rfl (f51.ne rfl (f50.nw (f49.ne rfl (f48.ne rfl (f47.ne rfl (f46.ne rfl (f45.ne rfl (f44.ne rfl (f43.nw (f42.ne rfl (f41.ne rfl (f40.ne rfl (f39.ne rfl (f38.nw (f37.ne rfl (f36.ne rfl (f35.ne rfl (f34.ne rfl (f33.ne rfl (f32.ne rfl (f31.nw (f30.ne rfl (f29.ne rfl (f28.ne rfl (f27.ne rfl (f26.ne rfl (f25.ne rfl (f24.ne rfl (f23.ne rfl (f22.ne rfl (f21.ne rfl (f20.ne rfl (f19.nw (f18.nw (f17.ne rfl (f16.ne rfl (f15.ne rfl (f14.ne rfl (f13.ne rfl (f12.ne rfl (f11.ne rfl (f10.ne rfl (f9.ne rfl (f8.nw (f7.ne rfl (f6.ne rfl (f5.ne rfl (f4.ne rfl (f3.ne rfl (f2.nw (f1.ne rfl e0))))))))))))))))))))))))))))))))))))))))))))))))))))))))))))))))))))))))))))))))))))))))))))
  refine s_iaload (j := 1) (v := .int (xs 1)) rfl e0_92 (by decide) rfl (by first | rfl | decide) ?_
  have e191 := F.2.2.2.2.2.2.2.2.2.2.2.2.2.2.2.2.2.2.2.2.2.2.2.2.2.2.2.1
  have e191_92 := ((((((((((((((((((((((((((((((((((((((((((((((((((((((((((((((((((((((((((((((((((((((((((((e191.ne f1 rfl).nw f2).ne f3 rfl).ne f4 rfl).ne f5 rfl).ne f6 rfl).ne f7 rfl).nw f8).ne f9 rfl).ne f10 rfl).ne f11 rfl).ne f12 rfl).ne f13 rfl).ne f14 rfl).ne f15 rfl).ne f16 rfl).ne f17 rfl).nw f18).nw f19).ne f20 rfl).ne f21 rfl).ne f22 rfl).ne f23 rfl).ne f24 rfl).ne f25 rfl).ne f26 rfl).ne f27 rfl).ne f28 rfl).ne f29 rfl).ne f30 rfl).nw f31).ne f32 rfl).ne f33 rfl).ne f34 rfl).ne f35 rfl).ne f36 rfl).ne f37 rfl).nw f38).ne f39 rfl).ne f40 rfl).ne f41 rfl).ne f42 rfl).nw f43).ne f44 rfl).ne f45 rfl).ne f46 rfl).ne f47 rfl).ne f48 rfl).ne f49 rfl).nw f50).ne f51 rfl).ne f52 rfl).ne f53 rfl).ne f54 rfl).ne f55 rfl).ne f56 rfl).ne f57 rfl).ne f58 rfl).ne f59 rfl).ne f60 rfl).nw f61).ne f62 rfl).ne f63 rfl).ne f64 rfl).ne f65 rfl).ne f66 rfl).ne f67 rfl).ne f68 rfl).ne f69 rfl).ne f70 rfl).nw f71).ne f72 rfl).ne f73 rfl).ne f74 rfl).ne f75 rfl).ne f76 rfl).ne f77 rfl).nw f78).ne f79 rfl).ne f80 rfl).ne f81 rfl).ne f82 rfl).ne f83 rfl).ne f84 rfl).ne f85 rfl).ne f86 rfl).ne f87 rfl).ne f88 rfl).ne f89 rfl).ne f90 rfl).ne f91 rfl).ne f92 rfl)
  refine s_callV (as := [.int (xs 1)]) (rest := []) (d' := 16) (w' := 636) (lv' := [(0, .ref 191), (1, .int (xs 1))]) rfl e191_92 rfl rfl rfl rfl rfl rfl ?_
  refine q_aload_n rfl rfl ?_
  refine s_get (v := .int 0) rfl e191_92 rfl rfl ?_
  refine q_if_ne rfl (fun c => absurd c (by decide)) (fun _ => ?_)
  refine q_aload_n rfl rfl ?_
  refine s_callV (as := []) (rest := []) (d' := 15) (w' := 614) (lv' := [(0, .ref 191)]) rfl e191_92 rfl rfl rfl rfl rfl rfl ?_
  refine q_iconst rfl ?_
  refine s_istore_n (lv' := [(1, .int 0), (0, .ref 191)]) rfl (by decide) rfl ?_
  refine q_iconst rfl ?_
  refine s_istore_n (lv' := [(2, .int 0), (1, .int 0), (0, .ref 191)]) rfl (by decide) rfl ?_
  refine q_iload_n rfl rfl ?_
  refine q_aload_n rfl rfl ?_
  refine s_get (v := .int 0) rfl e191_92 rfl rfl ?_
  refine q_icmp_ge rfl (fun _ => ?_) (fun c => absurd (by decide) c)
  refine q_iload_n rfl rfl ?_
  refine q_ireturn rfl rfl ?_
  show aW aiP 249 16 636 11 [(0, .ref 191), (1, .int (xs 1))] [.int 0] h92 _
  refine q_bipush rfl ?_
  refine q_icmp_ne rfl (fun _ => ?_) (fun c => absurd (by decide) c)
  refine q_iconst rfl ?_
  refine s_istore_n (lv' := [(2, .int 0), (0, .ref 191), (1, .int (xs 1))]) rfl (by decide) rfl ?_
  refine q_aload_n rfl rfl ?_
  refine q_iload_n rfl rfl ?_
  refine q_if_ne rfl (fun c => absurd c (by decide)) (fun _ => ?_)
  refine q_aload_n rfl rfl ?_
  refine q_iload_n rfl rfl ?_
  refine s_callV (as := [.int (xs 1)]) (rest := [.ref 191]) (d' := 15) (w' := 615) (lv' := [(0, .ref 191), (1, .int (xs 1))]) rfl e191_92 rfl rfl rfl rfl rfl rfl ?_
  refine q_iload_n rfl rfl ?_
  refine q_if_lt rfl (fun c => absurd c hw) (fun _ => ?_)
  refine q_aload_n rfl rfl ?_
  refine s_callV (as := []) (rest := []) (d' := 14) (w' := 593) (lv' := [(0, .ref 191)]) rfl e191_92 rfl rfl rfl rfl rfl rfl ?_
  refine q_iconst rfl ?_
  refine s_istore_n (lv' := [(1, .int (-1)), (0, .ref 191)]) rfl (by decide) rfl ?_
  refine q_iconst rfl ?_
  refine s_istore_n (lv' := [(2, .int 0), (1, .int (-1)), (0, .ref 191)]) rfl (by decide) rfl ?_
  refine q_iload_n rfl rfl ?_
  refine q_aload_n rfl rfl ?_
  refine s_get (v := .int 0) rfl e191_92 rfl rfl ?_
  refine q_icmp_ge rfl (fun _ => ?_) (fun c => absurd (by decide) c)
  refine q_iload_n rfl rfl ?_
  refine q_ireturn rfl rfl ?_
  show aW aiP 251 15 615 8 [(0, .ref 191), (1, .int (xs 1))] [.int (-1)] h92 _
  refine q_if_lt rfl (fun _ => ?_) (fun c => absurd (by decide) c)
  refine q_iconst rfl ?_
  refine q_ireturn rfl rfl ?_
  show aW aiP 249 16 636 32 [(2, .int 0), (0, .ref 191), (1, .int (xs 1))] [.int 0, .ref 191] h92 _
  refine q_if_eq rfl (fun _ => ?_) (fun c => absurd (by decide) c)
  refine q_iconst rfl ?_
  refine q_iload_n rfl rfl ?_
  refine s_callV (as := [.int 0, .int 0]) (rest := []) (d' := 15) (w' := 614) (lv' := [(0, .ref 191), (1, .int 0), (2, .int 0)]) rfl e191_92 rfl rfl rfl rfl rfl rfl ?_
  refine q_aload_n rfl rfl ?_
  refine q_iload_n rfl rfl ?_
  refine q_if_eq rfl (fun _ => ?_) (fun c => absurd (by decide) c)
  refine q_iload_n rfl rfl ?_
  refine q_if_eq rfl (fun _ => ?_) (fun c => absurd (by decide) c)
  refine q_iconst rfl ?_
  refine s_put (vs' := [.int 0, .ref 192, .ref 193, .int 0, .ref 194, .ref 195, .ref 196, .ref 197, .ref 198, .ref 199, .ref 200, .ref 201, .ref 202, .ref 203, .ref 204, .ref 205, .int (-1), .int 0, .ref 206, .ref 207, .ref 208, .ref 209, .ref 210, .ref 211, .ref 212, .ref 213, .ref 214, .ref 215, .int 0, .int 0, .int 0, .int 0, .ref 216, .ref 217, .ref 218, .ref 219, .ref 220, .int (-1), .int 0, .int 0, .int 0, .int 0, .int 0, .int 0, .ref 221, .ref 222, .ref 223, .ref 224, .int 0, .ref 225, .int 0, .ref 226, .ref 227, .int 0, .ref 228, .ref 229, .ref 230, .ref 231, .ref 232]) rfl e191_92 rfl rfl rfl rfl (fun h93 o93 f93 => ?_)
  have s93 := s92.put f93
  refine q_aload_n rfl rfl ?_
  refine s_get (v := .int 0) rfl o93 rfl rfl ?_
  refine q_if_le rfl (fun _ => ?_) (fun c => absurd (by decide) c)
  refine q_iconst rfl ?_
  refine q_ireturn rfl rfl ?_
  show aW aiP 249 16 636 44 [(2, .int 0), (0, .ref 191), (1, .int (xs 1))] [.int 0] h93 _
  refine q_if_eq rfl (fun _ => ?_) (fun c => absurd (by decide) c)
  refine q_aload_n rfl rfl ?_
  refine q_iload_n rfl rfl ?_
  refine s_callV (as := [.int (xs 1)]) (rest := []) (d' := 15) (w' := 613) (lv' := [(0, .ref 191), (1, .int (xs 1))]) rfl o93 rfl rfl rfl rfl rfl rfl ?_
  refine q_aload_n rfl rfl ?_
  refine s_callV (as := []) (rest := []) (d' := 14) (w' := 591) (lv' := [(0, .ref 191)]) rfl o93 rfl rfl rfl rfl rfl rfl ?_
  refine q_iconst rfl ?_
  refine s_istore_n (lv' := [(1, .int (-1)), (0, .ref 191)]) rfl (by decide) rfl ?_
  refine q_iconst rfl ?_
  refine s_istore_n (lv' := [(2, .int 0), (1, .int (-1)), (0, .ref 191)]) rfl (by decide) rfl ?_
  refine q_iload_n rfl rfl ?_
  refine q_aload_n rfl rfl ?_
  refine s_get (v := .int 0) rfl o93 rfl rfl ?_
  refine q_icmp_ge rfl (fun _ => ?_) (fun c => absurd (by decide) c)
  refine q_iload_n rfl rfl ?_
  refine q_ireturn rfl rfl ?_
  show aW aiP 253 15 613 4 [(0, .ref 191), (1, .int (xs 1))] [.int (-1)] h93 _
  refine s_istore_n (lv' := [(2, .int (-1)), (0, .ref 191), (1, .int (xs 1))]) rfl (by decide) rfl ?_
  refine q_aload_n rfl rfl ?_
  refine s_get (v := .int 0) rfl o93 rfl rfl ?_
  refine s_istore_n (lv' := [(3, .int 0), (2, .int (-1)), (0, .ref 191), (1, .int (xs 1))]) rfl (by decide) rfl ?_
  refine q_aload_n rfl rfl ?_
  refine q_iload_n rfl rfl ?_
  refine s_callV (as := [.int 0]) (rest := []) (d' := 14) (w' := 591) (lv' := [(0, .ref 191), (1, .int 0)]) rfl o93 rfl rfl rfl rfl rfl rfl ?_
  refine q_aload_n rfl rfl ?_
  refine s_get (v := .ref 211) rfl o93 rfl rfl ?_
  refine q_iload_n rfl rfl ?_
  refine q_iconst rfl ?_
  have e211 := F.2.2.2.2.2.2.2.2.2.2.2.2.2.2.2.2.2.2.2.2.2.2.2.2.2.2.2.2.2.2.2.2.2.2.2.2.2.2.2.2.2.2.2.2.2.2.2.1
  have e211_93 := (f93.ne rfl (f92.ne rfl (f91.ne rfl (f90.ne rfl (f89.ne rfl (f88.ne rfl (f87.ne rfl (f86.ne rfl (f85.ne rfl (f84.ne rfl (f83.ne rfl (f82.ne rfl (f81.ne rfl (f80.ne rfl (f79.ne rfl (f78.nw (f77.ne rfl (f76.ne rfl (f75.ne rfl (f74.ne rfl (f73.ne rfl (f72.ne rfl (f71.nw (f70.ne rfl (f69.ne rfl (f68.ne rfl (f67.ne rfl (f66.ne rfl (f65.ne rfl (f64.ne rfl (f63.ne rfl (f62.ne rfl (f61.nw (f60.ne rfl (f59.ne rfl (f58.ne rfl (f57.ne rfl (f56.ne rfl (f55.ne rfl (f54.ne rfl (f53.ne rfl (f52.ne rfl (f51.ne rfl (f50.nw (f49.ne rfl (f48.ne rfl (f47.ne rfl (f46.ne rfl (f45.ne rfl (f44.ne rfl (f43.nw (f42.ne rfl (f41.ne rfl (f40.ne rfl (f39.ne rfl (f38.nw (f37.ne rfl (f36.ne rfl (f35.ne rfl (f34.ne rfl (f33.ne rfl (f32.ne rfl (f31.nw (f30.ne rfl (f29.ne rfl (f28.ne rfl (f27.ne rfl (f26.ne rfl (f25.ne rfl (f24.ne rfl (f23.ne rfl (f22.ne rfl (f21.ne rfl (f20.ne rfl (f19.nw (f18.nw (f17.ne rfl (f16.ne rfl (f15.ne rfl (f14.ne rfl (f13.ne rfl (f12.ne rfl (f11.ne rfl (f10.ne rfl (f9.ne rfl (f8.nw (f7.ne rfl (f6.ne rfl (f5.ne rfl (f4.ne rfl (f3.ne rfl (f2.nw (f1.ne rfl e211)))))))))))))))))))))))))))))))))))))))))))))))))))))))))))))))))))))))))))))))))))))))))))))
  refine s_bastoreZ (j := 0) rfl e211_93 (by decide) rfl (fun h94 o94 f94 => ?_)
  have s94 := s93.put f94
  refine q_aload_n rfl rfl ?_
  have e191_94 := (o93.ne f94 rfl)
  refine s_get (v := .ref 212) rfl e191_94 rfl rfl ?_
  refine q_iload_n rfl rfl ?_
  refine q_iconst rfl ?_
  have e212 := F.2.2.2.2.2.2.2.2.2.2.2.2.2.2.2.2.2.2.2.2.2.2.2.2.2.2.2.2.2.2.2.2.2.2.2.2.2.2.2.2.2.2.2.2.2.2.2.2.1
  have e212_94 := (f94.ne rfl (f93.ne rfl (f92.ne rfl (f91.ne rfl (f90.ne rfl (f89.ne rfl (f88.ne rfl (f87.ne rfl (f86.ne rfl (f85.ne rfl (f84.ne rfl (f83.ne rfl (f82.ne rfl (f81.ne rfl (f80.ne rfl (f79.ne rfl (f78.nw (f77.ne rfl (f76.ne rfl (f75.ne rfl (f74.ne rfl (f73.ne rfl (f72.ne rfl (f71.nw (f70.ne rfl (f69.ne rfl (f68.ne rfl (f67.ne rfl (f66.ne rfl (f65.ne rfl (f64.ne rfl (f63.ne rfl (f62.ne rfl (f61.nw (f60.ne rfl (f59.ne rfl (f58.ne rfl (f57.ne rfl (f56.ne rfl (f55.ne rfl (f54.ne rfl (f53.ne rfl (f52.ne rfl (f51.ne rfl (f50.nw (f49.ne rfl (f48.ne rfl (f47.ne rfl (f46.ne rfl (f45.ne rfl (f44.ne rfl (f43.nw (f42.ne rfl (f41.ne rfl (f40.ne rfl (f39.ne rfl (f38.nw (f37.ne rfl (f36.ne rfl (f35.ne rfl (f34.ne rfl (f33.ne rfl (f32.ne rfl (f31.nw (f30.ne rfl (f29.ne rfl (f28.ne rfl (f27.ne rfl (f26.ne rfl (f25.ne rfl (f24.ne rfl (f23.ne rfl (f22.ne rfl (f21.ne rfl (f20.ne rfl (f19.nw (f18.nw (f17.ne rfl (f16.ne rfl (f15.ne rfl (f14.ne rfl (f13.ne rfl (f12.ne rfl (f11.ne rfl (f10.ne rfl (f9.ne rfl (f8.nw (f7.ne rfl (f6.ne rfl (f5.ne rfl (f4.ne rfl (f3.ne rfl (f2.nw (f1.ne rfl e212))))))))))))))))))))))))))))))))))))))))))))))))))))))))))))))))))))))))))))))))))))))))))))))
  refine s_bastoreZ (j := 0) rfl e212_94 (by decide) rfl (fun h95 o95 f95 => ?_)
  have s95 := s94.put f95
  refine q_aload_n rfl rfl ?_
  have e191_95 := (e191_94.ne f95 rfl)
  refine s_get (v := .ref 194) rfl e191_95 rfl rfl ?_
  refine q_iload_n rfl rfl ?_
  refine q_iconst rfl ?_
  have e194 := F.2.2.2.2.2.2.2.2.2.2.2.2.2.2.2.2.2.2.2.2.2.2.2.2.2.2.2.2.2.2.1
  have e194_95 := (f95.ne rfl (f94.ne rfl (f93.ne rfl (f92.ne rfl (f91.ne rfl (f90.ne rfl (f89.ne rfl (f88.ne rfl (f87.ne rfl (f86.ne rfl (f85.ne rfl (f84.ne rfl (f83.ne rfl (f82.ne rfl (f81.ne rfl (f80.ne rfl (f79.ne rfl (f78.nw (f77.ne rfl (f76.ne rfl (f75.ne rfl (f74.ne rfl (f73.ne rfl (f72.ne rfl (f71.nw (f70.ne rfl (f69.ne rfl (f68.ne rfl (f67.ne rfl (f66.ne rfl (f65.ne rfl (f64.ne rfl (f63.ne rfl (f62.ne rfl (f61.nw (f60.ne rfl (f59.ne rfl (f58.ne rfl (f57.ne rfl (f56.ne rfl (f55.ne rfl (f54.ne rfl (f53.ne rfl (f52.ne rfl (f51.ne rfl (f50.nw (f49.ne rfl (f48.ne rfl (f47.ne rfl (f46.ne rfl (f45.ne rfl (f44.ne rfl (f43.nw (f42.ne rfl (f41.ne rfl (f40.ne rfl (f39.ne rfl (f38.nw (f37.ne rfl (f36.ne rfl (f35.ne rfl (f34.ne rfl (f33.ne rfl (f32.ne rfl (f31.nw (f30.ne rfl (f29.ne rfl (f28.ne rfl (f27.ne rfl (f26.ne rfl (f25.ne rfl (f24.ne rfl (f23.ne rfl (f22.ne rfl (f21.ne rfl (f20.ne rfl (f19.nw (f18.nw (f17.ne rfl (f16.ne rfl (f15.ne rfl (f14.ne rfl (f13.ne rfl (f12.ne rfl (f11.ne rfl (f10.ne rfl (f9.ne rfl (f8.nw (f7.ne rfl (f6.ne rfl (f5.ne rfl (f4.ne rfl (f3.ne rfl (f2.nw (f1.ne rfl e194)))))))))))))))))))))))))))))))))))))))))))))))))))))))))))))))))))))))))))))))))))))))))))))))
  refine s_iastore (j := 0) rfl e194_95 (by decide) rfl (fun h96 o96 f96 => ?_)
  have s96 := s95.put f96
  refine q_aload_n rfl rfl ?_
  have e191_96 := (e191_95.ne f96 rfl)
  refine s_get (v := .ref 208) rfl e191_96 rfl rfl ?_
  refine q_iload_n rfl rfl ?_
  refine q_iconst rfl ?_
  have e208 := F.2.2.2.2.2.2.2.2.2.2.2.2.2.2.2.2.2.2.2.2.2.2.2.2.2.2.2.2.2.2.2.2.2.2.2.2.2.2.2.2.2.2.2.2.1
  have e208_96 := (f96.ne rfl (f95.ne rfl (f94.ne rfl (f93.ne rfl (f92.ne rfl (f91.ne rfl (f90.ne rfl (f89.ne rfl (f88.ne rfl (f87.ne rfl (f86.ne rfl (f85.ne rfl (f84.ne rfl (f83.ne rfl (f82.ne rfl (f81.ne rfl (f80.ne rfl (f79.ne rfl (f78.nw (f77.ne rfl (f76.ne rfl (f75.ne rfl (f74.ne rfl (f73.ne rfl (f72.ne rfl (f71.nw (f70.ne rfl (f69.ne rfl (f68.ne rfl (f67.ne rfl (f66.ne rfl (f65.ne rfl (f64.ne rfl (f63.ne rfl (f62.ne rfl (f61.nw (f60.ne rfl (f59.ne rfl (f58.ne rfl (f57.ne rfl (f56.ne rfl (f55.ne rfl (f54.ne rfl (f53.ne rfl (f52.ne rfl (f51.ne rfl (f50.nw (f49.ne rfl (f48.ne rfl (f47.ne rfl (f46.ne rfl (f45.ne rfl (f44.ne rfl (f43.nw (f42.ne rfl (f41.ne rfl (f40.ne rfl (f39.ne rfl (f38.nw (f37.ne rfl (f36.ne rfl (f35.ne rfl (f34.ne rfl (f33.ne rfl (f32.ne rfl (f31.nw (f30.ne rfl (f29.ne rfl (f28.ne rfl (f27.ne rfl (f26.ne rfl (f25.ne rfl (f24.ne rfl (f23.ne rfl (f22.ne rfl (f21.ne rfl (f20.ne rfl (f19.nw (f18.nw (f17.ne rfl (f16.ne rfl (f15.ne rfl (f14.ne rfl (f13.ne rfl (f12.ne rfl (f11.ne rfl (f10.ne rfl (f9.ne rfl (f8.nw (f7.ne rfl (f6.ne rfl (f5.ne rfl (f4.ne rfl (f3.ne rfl (f2.nw (f1.ne rfl e208))))))))))))))))))))))))))))))))))))))))))))))))))))))))))))))))))))))))))))))))))))))))))))))))
  refine s_iastore (j := 0) rfl e208_96 (by decide) rfl (fun h97 o97 f97 => ?_)
  have s97 := s96.put f97
  refine q_iconst rfl ?_
  refine s_istore_n (lv' := [(2, .int 0), (0, .ref 191), (1, .int 0)]) rfl (by decide) rfl ?_
  have e191_97 := (e191_96.ne f97 rfl)
  have e213 := F.2.2.2.2.2.2.2.2.2.2.2.2.2.2.2.2.2.2.2.2.2.2.2.2.2.2.2.2.2.2.2.2.2.2.2.2.2.2.2.2.2.2.2.2.2.2.2.2.2.1
  have e213_97 := (f97.ne rfl (f96.ne rfl (f95.ne rfl (f94.ne rfl (f93.ne rfl (f92.ne rfl (f91.ne rfl (f90.ne rfl (f89.ne rfl (f88.ne rfl (f87.ne rfl (f86.ne rfl (f85.ne rfl (f84.ne rfl (f83.ne rfl (f82.ne rfl (f81.ne rfl (f80.ne rfl (f79.ne rfl (f78.nw (f77.ne rfl (f76.ne rfl (f75.ne rfl (f74.ne rfl (f73.ne rfl (f72.ne rfl (f71.nw (f70.ne rfl (f69.ne rfl (f68.ne rfl (f67.ne rfl (f66.ne rfl (f65.ne rfl (f64.ne rfl (f63.ne rfl (f62.ne rfl (f61.nw (f60.ne rfl (f59.ne rfl (f58.ne rfl (f57.ne rfl (f56.ne rfl (f55.ne rfl (f54.ne rfl (f53.ne rfl (f52.ne rfl (f51.ne rfl (f50.nw (f49.ne rfl (f48.ne rfl (f47.ne rfl (f46.ne rfl (f45.ne rfl (f44.ne rfl (f43.nw (f42.ne rfl (f41.ne rfl (f40.ne rfl (f39.ne rfl (f38.nw (f37.ne rfl (f36.ne rfl (f35.ne rfl (f34.ne rfl (f33.ne rfl (f32.ne rfl (f31.nw (f30.ne rfl (f29.ne rfl (f28.ne rfl (f27.ne rfl (f26.ne rfl (f25.ne rfl (f24.ne rfl (f23.ne rfl (f22.ne rfl (f21.ne rfl (f20.ne rfl (f19.nw (f18.nw (f17.ne rfl (f16.ne rfl (f15.ne rfl (f14.ne rfl (f13.ne rfl (f12.ne rfl (f11.ne rfl (f10.ne rfl (f9.ne rfl (f8.nw (f7.ne rfl (f6.ne rfl (f5.ne rfl (f4.ne rfl (f3.ne rfl (f2.nw (f1.ne rfl e213)))))))))))))))))))))))))))))))))))))))))))))))))))))))))))))))))))))))))))))))))))))))))))))))))
  refine cs_loop (m := 191) (a := 213) rfl rfl (by decide) (by decide) 80 0 h97 _ rfl e191_97 e213_97 (fun _ => rfl) (fun h98 g98 o98 z98 f98 => ?_)
  have s98 := s97.put f98
  show aW aiP 244 14 591 54 [(2, .int 80), (0, .ref 191), (1, .int 0)] [] h98 _
  refine q_return rfl rfl ?_
  show aW aiP 253 15 613 15 [(3, .int 0), (2, .int (-1)), (0, .ref 191), (1, .int (xs 1))] [] h98 _
  refine q_aload_n rfl rfl ?_
  refine q_dup rfl rfl ?_
  have e191_98 := (e191_97.ne f98 rfl)
  refine s_get (v := .int 0) rfl e191_98 rfl rfl ?_
  refine q_iconst rfl ?_
  refine s_iadd (k := 1) rfl (by decide) ?_
  refine s_put (vs' := [.int 0, .ref 192, .ref 193, .int 0, .ref 194, .ref 195, .ref 196, .ref 197, .ref 198, .ref 199, .ref 200, .ref 201, .ref 202, .ref 203, .ref 204, .ref 205, .int (-1), .int 1, .ref 206, .ref 207, .ref 208, .ref 209, .ref 210, .ref 211, .ref 212, .ref 213, .ref 214, .ref 215, .int 0, .int 0, .int 0, .int 0, .ref 216, .ref 217, .ref 218, .ref 219, .ref 220, .int (-1), .int 0, .int 0, .int 0, .int 0, .int 0, .int 0, .ref 221, .ref 222, .ref 223, .ref 224, .int 0, .ref 225, .int 0, .ref 226, .ref 227, .int 0, .ref 228, .ref 229, .ref 230, .ref 231, .ref 232]) rfl e191_98 rfl rfl rfl rfl (fun h99 o99 f99 => ?_)
  have s99 := s98.put f99
  refine q_aload_n rfl rfl ?_
  refine s_get (v := .ref 206) rfl o99 rfl rfl ?_
  refine q_iload_n rfl rfl ?_
  refine q_iload_n rfl rfl ?_
  have e206 := F.2.2.2.2.2.2.2.2.2.2.2.2.2.2.2.2.2.2.2.2.2.2.2.2.2.2.2.2.2.2.2.2.2.2.2.2.2.2.2.2.2.2.1
  have e206_99 := (f99.ne rfl (f98.ne rfl (f97.ne rfl (f96.ne rfl (f95.ne rfl (f94.ne rfl (f93.ne rfl (f92.ne rfl (f91.ne rfl (f90.ne rfl (f89.ne rfl (f88.ne rfl (f87.ne rfl (f86.ne rfl (f85.ne rfl (f84.ne rfl (f83.ne rfl (f82.ne rfl (f81.ne rfl (f80.ne rfl (f79.ne rfl (f78.nw (f77.ne rfl (f76.ne rfl (f75.ne rfl (f74.ne rfl (f73.ne rfl (f72.ne rfl (f71.nw (f70.ne rfl (f69.ne rfl (f68.ne rfl (f67.ne rfl (f66.ne rfl (f65.ne rfl (f64.ne rfl (f63.ne rfl (f62.ne rfl (f61.nw (f60.ne rfl (f59.ne rfl (f58.ne rfl (f57.ne rfl (f56.ne rfl (f55.ne rfl (f54.ne rfl (f53.ne rfl (f52.ne rfl (f51.ne rfl (f50.nw (f49.ne rfl (f48.ne rfl (f47.ne rfl (f46.ne rfl (f45.ne rfl (f44.ne rfl (f43.nw (f42.ne rfl (f41.ne rfl (f40.ne rfl (f39.ne rfl (f38.nw (f37.ne rfl (f36.ne rfl (f35.ne rfl (f34.ne rfl (f33.ne rfl (f32.ne rfl (f31.nw (f30.ne rfl (f29.ne rfl (f28.ne rfl (f27.ne rfl (f26.ne rfl (f25.ne rfl (f24.ne rfl (f23.ne rfl (f22.ne rfl (f21.ne rfl (f20.ne rfl (f19.nw (f18.nw (f17.ne rfl (f16.ne rfl (f15.ne rfl (f14.ne rfl (f13.ne rfl (f12.ne rfl (f11.ne rfl (f10.ne rfl (f9.ne rfl (f8.nw (f7.ne rfl (f6.ne rfl (f5.ne rfl (f4.ne rfl (f3.ne rfl (f2.nw (f1.ne rfl e206)))))))))))))))))))))))))))))))))))))))))))))))))))))))))))))))))))))))))))))))))))))))))))))))))))
  refine s_iastore (j := 0) rfl e206_99 (by decide) rfl (fun h100 o100 f100 => ?_)
  have s100 := s99.put f100
  refine q_aload_n rfl rfl ?_
  refine q_iload_n rfl rfl ?_
  have e191_100 := (o99.ne f100 rfl)
  refine s_put (vs' := [.int 0, .ref 192, .ref 193, .int 0, .ref 194, .ref 195, .ref 196, .ref 197, .ref 198, .ref 199, .ref 200, .ref 201, .ref 202, .ref 203, .ref 204, .ref 205, .int (-1), .int 1, .ref 206, .ref 207, .ref 208, .ref 209, .ref 210, .ref 211, .ref 212, .ref 213, .ref 214, .ref 215, .int 0, .int 0, .int 0, .int 0, .ref 216, .ref 217, .ref 218, .ref 219, .ref 220, .int 0, .int 0, .int 0, .int 0, .int 0, .int 0, .int 0, .ref 221, .ref 222, .ref 223, .ref 224, .int 0, .ref 225, .int 0, .ref 226, .ref 227, .int 0, .ref 228, .ref 229, .ref 230, .ref 231, .ref 232]) rfl e191_100 rfl rfl rfl rfl (fun h101 o101 f101 => ?_)
  have s101 := s100.put f101
  refine q_aload_n rfl rfl ?_
  refine q_iload_n rfl rfl ?_
  refine q_iload_n rfl rfl ?_
  refine s_callV (as := [.int 0, .int (-1)]) (rest := []) (d' := 14) (w' := 587) (lv' := [(0, .ref 191), (1, .int 0), (2, .int (-1))]) rfl o101 rfl rfl rfl rfl rfl rfl ?_
  refine q_aload_n rfl rfl ?_
  refine s_get (v := .ref 194) rfl o101 rfl rfl ?_
  refine q_iload_n rfl rfl ?_
  refine q_iconst rfl ?_
  have e194_101 := (f101.ne rfl (f100.ne rfl (f99.ne rfl (f98.ne rfl (f97.ne rfl o96)))))
  refine s_iastore (j := 0) rfl e194_101 (by decide) rfl (fun h102 o102 f102 => ?_)
  have s102 := s101.put f102
  refine q_aload_n rfl rfl ?_
  have e191_102 := (o101.ne f102 rfl)
  refine s_get (v := .ref 207) rfl e191_102 rfl rfl ?_
  refine q_bipush rfl ?_
  refine q_iload_n rfl rfl ?_
  refine s_imul (k := 0) rfl (by decide) ?_
  refine q_bipush rfl ?_
  refine s_iadd (k := 7) rfl (by decide) ?_
  refine q_iconst rfl ?_
  have e207 := F.2.2.2.2.2.2.2.2.2.2.2.2.2.2.2.2.2.2.2.2.2.2.2.2.2.2.2.2.2.2.2.2.2.2.2.2.2.2.2.2.2.2.2.1
  have e207_102 := (f102.ne rfl (f101.ne rfl (f100.ne rfl (f99.ne rfl (f98.ne rfl (f97.ne rfl (f96.ne rfl (f95.ne rfl (f94.ne rfl (f93.ne rfl (f92.ne rfl (f91.ne rfl (f90.ne rfl (f89.ne rfl (f88.ne rfl (f87.ne rfl (f86.ne rfl (f85.ne rfl (f84.ne rfl (f83.ne rfl (f82.ne rfl (f81.ne rfl (f80.ne rfl (f79.ne rfl (f78.nw (f77.ne rfl (f76.ne rfl (f75.ne rfl (f74.ne rfl (f73.ne rfl (f72.ne rfl (f71.nw (f70.ne rfl (f69.ne rfl (f68.ne rfl (f67.ne rfl (f66.ne rfl (f65.ne rfl (f64.ne rfl (f63.ne rfl (f62.ne rfl (f61.nw (f60.ne rfl (f59.ne rfl (f58.ne rfl (f57.ne rfl (f56.ne rfl (f55.ne rfl (f54.ne rfl (f53.ne rfl (f52.ne rfl (f51.ne rfl (f50.nw (f49.ne rfl (f48.ne rfl (f47.ne rfl (f46.ne rfl (f45.ne rfl (f44.ne rfl (f43.nw (f42.ne rfl (f41.ne rfl (f40.ne rfl (f39.ne rfl (f38.nw (f37.ne rfl (f36.ne rfl (f35.ne rfl (f34.ne rfl (f33.ne rfl (f32.ne rfl (f31.nw (f30.ne rfl (f29.ne rfl (f28.ne rfl (f27.ne rfl (f26.ne rfl (f25.ne rfl (f24.ne rfl (f23.ne rfl (f22.ne rfl (f21.ne rfl (f20.ne rfl (f19.nw (f18.nw (f17.ne rfl (f16.ne rfl (f15.ne rfl (f14.ne rfl (f13.ne rfl (f12.ne rfl (f11.ne rfl (f10.ne rfl (f9.ne rfl (f8.nw (f7.ne rfl (f6.ne rfl (f5.ne rfl (f4.ne rfl (f3.ne rfl (f2.nw (f1.ne rfl e207))))))))))))))))))))))))))))))))))))))))))))))))))))))))))))))))))))))))))))))))))))))))))))))))))))))
  refine s_iastore (j := 7) rfl e207_102 (by decide) rfl (fun h103 o103 f103 => ?_)
  have s103 := s102.put f103
  refine q_iconst rfl ?_
  refine s_istore_n (lv' := [(3, .int 0), (0, .ref 191), (1, .int 0), (2, .int (-1))]) rfl (by decide) rfl ?_
  refine q_iload_n rfl rfl ?_
  refine q_aload_n rfl rfl ?_
  have e191_103 := (e191_102.ne f103 rfl)
  refine s_get (v := .ref 194) rfl e191_103 rfl rfl ?_
  refine q_bipush rfl ?_
  have e194_103 := (f103.ne rfl o102)
  refine s_iaload (j := 32) (v := .int 0) rfl e194_103 (by decide) rfl (by first | rfl | decide) ?_
  refine q_icmp_ge rfl (fun _ => ?_) (fun c => absurd (by decide) c)
  refine q_return rfl rfl ?_
  show aW aiP 253 15 613 43 [(3, .int 0), (2, .int (-1)), (0, .ref 191), (1, .int (xs 1))] [] h103 _
  refine q_aload_n rfl rfl ?_
  refine q_iload_n rfl rfl ?_
  refine q_iload_n rfl rfl ?_
  refine s_callV (as := [.int 0, .int (-1)]) (rest := []) (d' := 14) (w' := 586) (lv' := [(0, .ref 191), (1, .int 0), (2, .int (-1))]) rfl e191_103 rfl rfl rfl rfl rfl rfl ?_
  refine q_aload_n rfl rfl ?_
  refine s_get (v := .ref 208) rfl e191_103 rfl rfl ?_
  refine q_iload_n rfl rfl ?_
  refine q_iconst rfl ?_
  have e208_103 := (f103.ne rfl (f102.ne rfl (f101.ne rfl (f100.ne rfl (f99.ne rfl (f98.ne rfl o97))))))
  refine s_iastore (j := 0) rfl e208_103 (by decide) rfl (fun h104 o104 f104 => ?_)
  have s104 := s103.put f104
  refine q_aload_n rfl rfl ?_
  refine q_iconst rfl ?_
  have e191_104 := (e191_103.ne f104 rfl)
  refine s_put (vs' := [.int 0, .ref 192, .ref 193, .int 0, .ref 194, .ref 195, .ref 196, .ref 197, .ref 198, .ref 199, .ref 200, .ref 201, .ref 202, .ref 203, .ref 204, .ref 205, .int (-1), .int 1, .ref 206, .ref 207, .ref 208, .ref 209, .ref 210, .ref 211, .ref 212, .ref 213, .ref 214, .ref 215, .int 0, .int 0, .int 0, .int 0, .ref 216, .ref 217, .ref 218, .ref 219, .ref 220, .int 0, .int 0, .int 0, .int 0, .int 0, .int 0, .int 0, .ref 221, .ref 222, .ref 223, .ref 224, .int 0, .ref 225, .int 0, .ref 226, .ref 227, .int 0, .ref 228, .ref 229, .ref 230, .ref 231, .ref 232]) rfl e191_104 rfl rfl rfl rfl (fun h105 o105 f105 => ?_)
  have s105 := s104.put f105
  refine q_iconst rfl ?_
  refine s_istore_n (lv' := [(3, .int 3), (0, .ref 191), (1, .int 0), (2, .int (-1))]) rfl (by decide) rfl ?_
  refine q_iload_n rfl rfl ?_
  refine q_bipush rfl ?_
  refine q_icmp_ge rfl (fun c => absurd c (by decide)) (fun _ => ?_)
  refine q_aload_n rfl rfl ?_
  refine s_get (v := .ref 207) rfl o105 rfl rfl ?_
  refine q_bipush rfl ?_
  refine q_iload_n rfl rfl ?_
  refine s_imul (k := 0) rfl (by decide) ?_
  refine q_iload_n rfl rfl ?_
  refine s_iadd (k := 3) rfl (by decide) ?_
  refine q_iconst rfl ?_
  have e207_105 := (f105.ne rfl (f104.ne rfl o103))
  refine s_iastore (j := 3) rfl e207_105 (by decide) rfl (fun h106 o106 f106 => ?_)
  have s106 := s105.put f106
  refine s_iinc (y := 4) (lv' := [(3, .int 4), (0, .ref 191), (1, .int 0), (2, .int (-1))]) rfl rfl (by decide) (by decide) rfl ?_
  refine q_goto rfl ?_
  refine q_iload_n rfl rfl ?_
  refine q_bipush rfl ?_
  refine q_icmp_ge rfl (fun c => absurd c (by decide)) (fun _ => ?_)
  refine q_aload_n rfl rfl ?_
  have e191_106 := (o105.ne f106 rfl)
  refine s_get (v := .ref 207) rfl e191_106 rfl rfl ?_
  refine q_bipush rfl ?_
  refine q_iload_n rfl rfl ?_
  refine s_imul (k := 0) rfl (by decide) ?_
  refine q_iload_n rfl rfl ?_
  refine s_iadd (k := 4) rfl (by decide) ?_
  refine q_iconst rfl ?_
  refine s_iastore (j := 4) rfl o106 (by decide) rfl (fun h107 o107 f107 => ?_)
  have s107 := s106.put f107
  refine s_iinc (y := 5) (lv' := [(3, .int 5), (0, .ref 191), (1, .int 0), (2, .int (-1))]) rfl rfl (by decide) (by decide) rfl ?_
  refine q_goto rfl ?_
  refine q_iload_n rfl rfl ?_
  refine q_bipush rfl ?_
  refine q_icmp_ge rfl (fun c => absurd c (by decide)) (fun _ => ?_)
  refine q_aload_n rfl rfl ?_
  have e191_107 := (e191_106.ne f107 rfl)
  refine s_get (v := .ref 207) rfl e191_107 rfl rfl ?_
  refine q_bipush rfl ?_
  refine q_iload_n rfl rfl ?_
  refine s_imul (k := 0) rfl (by decide) ?_
  refine q_iload_n rfl rfl ?_
  refine s_iadd (k := 5) rfl (by decide) ?_
  refine q_iconst rfl ?_
  refine s_iastore (j := 5) rfl o107 (by decide) rfl (fun h108 o108 f108 => ?_)
  have s108 := s107.put f108
  refine s_iinc (y := 6) (lv' := [(3, .int 6), (0, .ref 191), (1, .int 0), (2, .int (-1))]) rfl rfl (by decide) (by decide) rfl ?_
  refine q_goto rfl ?_
  refine q_iload_n rfl rfl ?_
  refine q_bipush rfl ?_
  refine q_icmp_ge rfl (fun _ => ?_) (fun c => absurd (by decide) c)
  refine q_iconst rfl ?_
  refine s_istore_n (lv' := [(3, .int 0), (0, .ref 191), (1, .int 0), (2, .int (-1))]) rfl (by decide) rfl ?_
  refine q_iload_n rfl rfl ?_
  refine q_if_ge rfl (fun c => absurd c (by decide)) (fun _ => ?_)
  refine q_iconst rfl ?_
  refine q_goto rfl ?_
  refine s_istore (lv' := [(4, .int 0), (3, .int 0), (0, .ref 191), (1, .int 0), (2, .int (-1))]) rfl (by decide) rfl ?_
  refine q_iconst rfl ?_
  refine s_istore (lv' := [(5, .int 0), (4, .int 0), (3, .int 0), (0, .ref 191), (1, .int 0), (2, .int (-1))]) rfl (by decide) rfl ?_
  refine q_iload rfl rfl ?_
  refine q_aload_n rfl rfl ?_
  have e191_108 := (e191_107.ne f108 rfl)
  refine s_get (v := .ref 194) rfl e191_108 rfl rfl ?_
  refine q_iload_n rfl rfl ?_
  have e194_108 := (f108.ne rfl (f107.ne rfl (f106.ne rfl (f105.ne rfl (f104.ne rfl e194_103)))))
  refine s_iaload (j := 0) (v := .int 0) rfl e194_108 (by decide) rfl (by first | rfl | decide) ?_
  refine q_icmp_ge rfl (fun _ => ?_) (fun c => absurd (by decide) c)
  refine q_iload_n rfl rfl ?_
  refine q_iload rfl rfl ?_
  refine q_icmp_ge rfl (fun _ => ?_) (fun c => absurd (by decide) c)
  refine q_aload_n rfl rfl ?_
  refine s_get (v := .ref 207) rfl e191_108 rfl rfl ?_
  refine q_bipush rfl ?_
  refine q_iload_n rfl rfl ?_
  refine s_imul (k := 0) rfl (by decide) ?_
  refine q_aload_n rfl rfl ?_
  refine s_get (v := .ref 206) rfl e191_108 rfl rfl ?_
  refine q_iload_n rfl rfl ?_
  have e206_108 := (f108.ne rfl (f107.ne rfl (f106.ne rfl (f105.ne rfl (f104.ne rfl (f103.ne rfl (f102.ne rfl (f101.ne rfl o100))))))))
  refine s_iaload (j := 0) (v := .int (xs 1)) rfl e206_108 (by decide) rfl (by first | rfl | decide) ?_
  refine s_iastore (j := 0) rfl o108 (by decide) rfl (fun h109 o109 f109 => ?_)
  have s109 := s108.put f109
  refine q_aload_n rfl rfl ?_
  have e191_109 := (e191_108.ne f109 rfl)
  refine s_get (v := .ref 207) rfl e191_109 rfl rfl ?_
  refine q_bipush rfl ?_
  refine q_iload_n rfl rfl ?_
  refine s_imul (k := 0) rfl (by decide) ?_
  refine q_iconst rfl ?_
  refine s_iadd (k := 1) rfl (by decide) ?_
  refine q_aload_n rfl rfl ?_
  refine s_get (v := .ref 194) rfl e191_109 rfl rfl ?_
  refine q_iload_n rfl rfl ?_
  have e194_109 := (f109.ne rfl e194_108)
  refine s_iaload (j := 0) (v := .int 0) rfl e194_109 (by decide) rfl (by first | rfl | decide) ?_
  refine s_iastore (j := 1) rfl o109 (by decide) rfl (fun h110 o110 f110 => ?_)
  have s110 := s109.put f110
  refine q_aload_n rfl rfl ?_
  have e191_110 := (e191_109.ne f110 rfl)
  refine s_get (v := .ref 207) rfl e191_110 rfl rfl ?_
  refine q_bipush rfl ?_
  refine q_iload_n rfl rfl ?_
  refine s_imul (k := 0) rfl (by decide) ?_
  refine q_iconst rfl ?_
  refine s_iadd (k := 2) rfl (by decide) ?_
  refine q_aload_n rfl rfl ?_
  refine s_get (v := .ref 208) rfl e191_110 rfl rfl ?_
  refine q_iload_n rfl rfl ?_
  have e208_110 := (f110.ne rfl (f109.ne rfl (f108.ne rfl (f107.ne rfl (f106.ne rfl (f105.ne rfl o104))))))
  refine s_iaload (j := 0) (v := .int 0) rfl e208_110 (by decide) rfl (by first | rfl | decide) ?_
  refine s_iastore (j := 2) rfl o110 (by decide) rfl (fun h111 o111 f111 => ?_)
  have s111 := s110.put f111
  refine q_aload_n rfl rfl ?_
  have e191_111 := (e191_110.ne f111 rfl)
  refine s_get (v := .ref 207) rfl e191_111 rfl rfl ?_
  refine q_bipush rfl ?_
  refine q_iload_n rfl rfl ?_
  refine s_imul (k := 0) rfl (by decide) ?_
  refine q_bipush rfl ?_
  refine s_iadd (k := 6) rfl (by decide) ?_
  refine q_aload_n rfl rfl ?_
  refine q_iload_n rfl rfl ?_
  refine s_callV (as := [.int 0]) (rest := [.int 6, .ref 207]) (d' := 13) (w' := 563) (lv' := [(0, .ref 191), (1, .int 0)]) rfl e191_111 rfl rfl rfl rfl rfl rfl ?_
  refine q_iconst rfl ?_
  refine s_istore_n (lv' := [(2, .int 0), (0, .ref 191), (1, .int 0)]) rfl (by decide) rfl ?_
  refine q_iconst rfl ?_
  refine s_istore_n (lv' := [(3, .int 0), (2, .int 0), (0, .ref 191), (1, .int 0)]) rfl (by decide) rfl ?_
  refine q_iload_n rfl rfl ?_
  refine q_aload_n rfl rfl ?_
  refine s_get (v := .ref 194) rfl e191_111 rfl rfl ?_
  refine q_iload_n rfl rfl ?_
  have e194_111 := (f111.ne rfl (f110.ne rfl e194_109))
  refine s_iaload (j := 0) (v := .int 0) rfl e194_111 (by decide) rfl (by first | rfl | decide) ?_
  refine q_icmp_ge rfl (fun _ => ?_) (fun c => absurd (by decide) c)
  refine q_iload_n rfl rfl ?_
  refine q_ireturn rfl rfl ?_
  show aW aiP 256 14 586 276 [(5, .int 0), (4, .int 0), (3, .int 0), (0, .ref 191), (1, .int 0), (2, .int (-1))] [.int 0, .int 6, .ref 207] h111 _
  refine s_iastore (j := 6) rfl o111 (by decide) rfl (fun h112 o112 f112 => ?_)
  have s112 := s111.put f112
  refine q_return rfl rfl ?_
  show aW aiP 253 15 613 49 [(3, .int 0), (2, .int (-1)), (0, .ref 191), (1, .int (xs 1))] [] h112 _
  refine q_aload_n rfl rfl ?_
  refine q_iload_n rfl rfl ?_
  have e191_112 := (e191_111.ne f112 rfl)
  refine s_callV (as := [.int 0]) (rest := []) (d' := 14) (w' := 591) (lv' := [(0, .ref 191), (1, .int 0)]) rfl e191_112 rfl rfl rfl rfl rfl rfl ?_
  refine q_aload_n rfl rfl ?_
  refine s_callV (as := []) (rest := []) (d' := 13) (w' := 571) (lv' := [(0, .ref 191)]) rfl e191_112 rfl rfl rfl rfl rfl rfl ?_
  refine q_aload_n rfl rfl ?_
  refine q_iconst rfl ?_
  refine s_put (vs' := [.int 0, .ref 192, .ref 193, .int 0, .ref 194, .ref 195, .ref 196, .ref 197, .ref 198, .ref 199, .ref 200, .ref 201, .ref 202, .ref 203, .ref 204, .ref 205, .int (-1), .int 1, .ref 206, .ref 207, .ref 208, .ref 209, .ref 210, .ref 211, .ref 212, .ref 213, .ref 214, .ref 215, .int 0, .int 0, .int 0, .int 0, .ref 216, .ref 217, .ref 218, .ref 219, .ref 220, .int 0, .int 0, .int 0, .int 0, .int 0, .int 0, .int 0, .ref 221, .ref 222, .ref 223, .ref 224, .int 0, .ref 225, .int 0, .ref 226, .ref 227, .int 0, .ref 228, .ref 229, .ref 230, .ref 231, .ref 232]) rfl e191_112 rfl rfl rfl rfl (fun h113 o113 f113 => ?_)
  have s113 := s112.put f113
  refine q_aload_n rfl rfl ?_
  refine q_iconst rfl ?_
  refine s_put (vs' := [.int 0, .ref 192, .ref 193, .int 0, .ref 194, .ref 195, .ref 196, .ref 197, .ref 198, .ref 199, .ref 200, .ref 201, .ref 202, .ref 203, .ref 204, .ref 205, .int (-1), .int 1, .ref 206, .ref 207, .ref 208, .ref 209, .ref 210, .ref 211, .ref 212, .ref 213, .ref 214, .ref 215, .int 0, .int 0, .int 0, .int 0, .ref 216, .ref 217, .ref 218, .ref 219, .ref 220, .int 0, .int 0, .int 0, .int 0, .int 0, .int 0, .int 0, .ref 221, .ref 222, .ref 223, .ref 224, .int 0, .ref 225, .int 0, .ref 226, .ref 227, .int 0, .ref 228, .ref 229, .ref 230, .ref 231, .ref 232]) rfl o113 rfl rfl rfl rfl (fun h114 o114 f114 => ?_)
  have s114 := s113.put f114
  refine q_aload_n rfl rfl ?_
  refine q_iconst rfl ?_
  refine s_put (vs' := [.int 0, .ref 192, .ref 193, .int 0, .ref 194, .ref 195, .ref 196, .ref 197, .ref 198, .ref 199, .ref 200, .ref 201, .ref 202, .ref 203, .ref 204, .ref 205, .int (-1), .int 1, .ref 206, .ref 207, .ref 208, .ref 209, .ref 210, .ref 211, .ref 212, .ref 213, .ref 214, .ref 215, .int 0, .int 0, .int 0, .int 0, .ref 216, .ref 217, .ref 218, .ref 219, .ref 220, .int 0, .int 0, .int 0, .int 0, .int 0, .int 0, .int 0, .ref 221, .ref 222, .ref 223, .ref 224, .int 0, .ref 225, .int 0, .ref 226, .ref 227, .int 0, .ref 228, .ref 229, .ref 230, .ref 231, .ref 232]) rfl o114 rfl rfl rfl rfl (fun h115 o115 f115 => ?_)
  have s115 := s114.put f115
  refine q_aload_n rfl rfl ?_
  refine s_callV (as := []) (rest := []) (d' := 12) (w' := 550) (lv' := [(0, .ref 191)]) rfl o115 rfl rfl rfl rfl rfl rfl ?_
  refine q_iconst rfl ?_
  refine s_istore_n (lv' := [(1, .int 0), (0, .ref 191)]) rfl (by decide) rfl ?_
  have e216 := F.2.2.2.2.2.2.2.2.2.2.2.2.2.2.2.2.2.2.2.2.2.2.2.2.2.2.2.2.2.2.2.2.2.2.2.2.2.2.2.2.2.2.2.2.2.2.2.2.2.2.2.2.1
  have e216_115 := (f115.ne rfl (f114.ne rfl (f113.ne rfl (f112.ne rfl (f111.ne rfl (f110.ne rfl (f109.ne rfl (f108.ne rfl (f107.ne rfl (f106.ne rfl (f105.ne rfl (f104.ne rfl (f103.ne rfl (f102.ne rfl (f101.ne rfl (f100.ne rfl (f99.ne rfl (f98.ne rfl (f97.ne rfl (f96.ne rfl (f95.ne rfl (f94.ne rfl (f93.ne rfl (f92.ne rfl (f91.ne rfl (f90.ne rfl (f89.ne rfl (f88.ne rfl (f87.ne rfl (f86.ne rfl (f85.ne rfl (f84.ne rfl (f83.ne rfl (f82.ne rfl (f81.ne rfl (f80.ne rfl (f79.ne rfl (f78.nw (f77.ne rfl (f76.ne rfl (f75.ne rfl (f74.ne rfl (f73.ne rfl (f72.ne rfl (f71.nw (f70.ne rfl (f69.ne rfl (f68.ne rfl (f67.ne rfl (f66.ne rfl (f65.ne rfl (f64.ne rfl (f63.ne rfl (f62.ne rfl (f61.nw (f60.ne rfl (f59.ne rfl (f58.ne rfl (f57.ne rfl (f56.ne rfl (f55.ne rfl (f54.ne rfl (f53.ne rfl (f52.ne rfl (f51.ne rfl (f50.nw (f49.ne rfl (f48.ne rfl (f47.ne rfl (f46.ne rfl (f45.ne rfl (f44.ne rfl (f43.nw (f42.ne rfl (f41.ne rfl (f40.ne rfl (f39.ne rfl (f38.nw (f37.ne rfl (f36.ne rfl (f35.ne rfl (f34.ne rfl (f33.ne rfl (f32.ne rfl (f31.nw (f30.ne rfl (f29.ne rfl (f28.ne rfl (f27.ne rfl (f26.ne rfl (f25.ne rfl (f24.ne rfl (f23.ne rfl (f22.ne rfl (f21.ne rfl (f20.ne rfl (f19.nw (f18.nw (f17.ne rfl (f16.ne rfl (f15.ne rfl (f14.ne rfl (f13.ne rfl (f12.ne rfl (f11.ne rfl (f10.ne rfl (f9.ne rfl (f8.nw (f7.ne rfl (f6.ne rfl (f5.ne rfl (f4.ne rfl (f3.ne rfl (f2.nw (f1.ne rfl e216)))))))))))))))))))))))))))))))))))))))))))))))))))))))))))))))))))))))))))))))))))))))))))))))))))))))))))))))))))
  have e211_115 := (f115.ne rfl (f114.ne rfl (f113.ne rfl (f112.ne rfl (f111.ne rfl (f110.ne rfl (f109.ne rfl (f108.ne rfl (f107.ne rfl (f106.ne rfl (f105.ne rfl (f104.ne rfl (f103.ne rfl (f102.ne rfl (f101.ne rfl (f100.ne rfl (f99.ne rfl (f98.ne rfl (f97.ne rfl (f96.ne rfl (f95.ne rfl o94)))))))))))))))))))))
  have e217 := F.2.2.2.2.2.2.2.2.2.2.2.2.2.2.2.2.2.2.2.2.2.2.2.2.2.2.2.2.2.2.2.2.2.2.2.2.2.2.2.2.2.2.2.2.2.2.2.2.2.2.2.2.2.1
  have e217_115 := (f115.ne rfl (f114.ne rfl (f113.ne rfl (f112.ne rfl (f111.ne rfl (f110.ne rfl (f109.ne rfl (f108.ne rfl (f107.ne rfl (f106.ne rfl (f105.ne rfl (f104.ne rfl (f103.ne rfl (f102.ne rfl (f101.ne rfl (f100.ne rfl (f99.ne rfl (f98.ne rfl (f97.ne rfl (f96.ne rfl (f95.ne rfl (f94.ne rfl (f93.ne rfl (f92.ne rfl (f91.ne rfl (f90.ne rfl (f89.ne rfl (f88.ne rfl (f87.ne rfl (f86.ne rfl (f85.ne rfl (f84.ne rfl (f83.ne rfl (f82.ne rfl (f81.ne rfl (f80.ne rfl (f79.ne rfl (f78.nw (f77.ne rfl (f76.ne rfl (f75.ne rfl (f74.ne rfl (f73.ne rfl (f72.ne rfl (f71.nw (f70.ne rfl (f69.ne rfl (f68.ne rfl (f67.ne rfl (f66.ne rfl (f65.ne rfl (f64.ne rfl (f63.ne rfl (f62.ne rfl (f61.nw (f60.ne rfl (f59.ne rfl (f58.ne rfl (f57.ne rfl (f56.ne rfl (f55.ne rfl (f54.ne rfl (f53.ne rfl (f52.ne rfl (f51.ne rfl (f50.nw (f49.ne rfl (f48.ne rfl (f47.ne rfl (f46.ne rfl (f45.ne rfl (f44.ne rfl (f43.nw (f42.ne rfl (f41.ne rfl (f40.ne rfl (f39.ne rfl (f38.nw (f37.ne rfl (f36.ne rfl (f35.ne rfl (f34.ne rfl (f33.ne rfl (f32.ne rfl (f31.nw (f30.ne rfl (f29.ne rfl (f28.ne rfl (f27.ne rfl (f26.ne rfl (f25.ne rfl (f24.ne rfl (f23.ne rfl (f22.ne rfl (f21.ne rfl (f20.ne rfl (f19.nw (f18.nw (f17.ne rfl (f16.ne rfl (f15.ne rfl (f14.ne rfl (f13.ne rfl (f12.ne rfl (f11.ne rfl (f10.ne rfl (f9.ne rfl (f8.nw (f7.ne rfl (f6.ne rfl (f5.ne rfl (f4.ne rfl (f3.ne rfl (f2.nw (f1.ne rfl e217)))))))))))))))))))))))))))))))))))))))))))))))))))))))))))))))))))))))))))))))))))))))))))))))))))))))))))))))))))
  have e212_115 := (f115.ne rfl (f114.ne rfl (f113.ne rfl (f112.ne rfl (f111.ne rfl (f110.ne rfl (f109.ne rfl (f108.ne rfl (f107.ne rfl (f106.ne rfl (f105.ne rfl (f104.ne rfl (f103.ne rfl (f102.ne rfl (f101.ne rfl (f100.ne rfl (f99.ne rfl (f98.ne rfl (f97.ne rfl (f96.ne rfl o95))))))))))))))))))))
  refine kp1 (m := 191) (s1 := 216) (i1 := 211) (s2 := 217) (i2 := 212) rfl rfl rfl rfl rfl rfl rfl rfl  (by decide) (by decide) 31 0 h115 _ _ _ _  rfl o115 e216_115 e211_115 (va_z (fun _ => rfl) nar0) e217_115 e212_115 (va_z (fun _ => rfl) nar0) (fun h116 f116 => ?_)
  have s116 := s115.put f116
  show aW aiP 241 12 550 38 [(1, .int 31), (0, .ref 191)] [] h116 _
  refine q_iconst rfl ?_
  refine s_istore_n (lv' := [(1, .int 0), (0, .ref 191)]) rfl (by decide) rfl ?_
  have e191_116 := (o115.fr f116 (by show ¬ (191 = 216 ∨ 191 = 217); decide))
  have e219 := F.2.2.2.2.2.2.2.2.2.2.2.2.2.2.2.2.2.2.2.2.2.2.2.2.2.2.2.2.2.2.2.2.2.2.2.2.2.2.2.2.2.2.2.2.2.2.2.2.2.2.2.2.2.2.2.1
  have e219_116 := (f116.get (by show ¬ (219 = 216 ∨ 219 = 217); decide) (f115.ne rfl (f114.ne rfl (f113.ne rfl (f112.ne rfl (f111.ne rfl (f110.ne rfl (f109.ne rfl (f108.ne rfl (f107.ne rfl (f106.ne rfl (f105.ne rfl (f104.ne rfl (f103.ne rfl (f102.ne rfl (f101.ne rfl (f100.ne rfl (f99.ne rfl (f98.ne rfl (f97.ne rfl (f96.ne rfl (f95.ne rfl (f94.ne rfl (f93.ne rfl (f92.ne rfl (f91.ne rfl (f90.ne rfl (f89.ne rfl (f88.ne rfl (f87.ne rfl (f86.ne rfl (f85.ne rfl (f84.ne rfl (f83.ne rfl (f82.ne rfl (f81.ne rfl (f80.ne rfl (f79.ne rfl (f78.nw (f77.ne rfl (f76.ne rfl (f75.ne rfl (f74.ne rfl (f73.ne rfl (f72.ne rfl (f71.nw (f70.ne rfl (f69.ne rfl (f68.ne rfl (f67.ne rfl (f66.ne rfl (f65.ne rfl (f64.ne rfl (f63.ne rfl (f62.ne rfl (f61.nw (f60.ne rfl (f59.ne rfl (f58.ne rfl (f57.ne rfl (f56.ne rfl (f55.ne rfl (f54.ne rfl (f53.ne rfl (f52.ne rfl (f51.ne rfl (f50.nw (f49.ne rfl (f48.ne rfl (f47.ne rfl (f46.ne rfl (f45.ne rfl (f44.ne rfl (f43.nw (f42.ne rfl (f41.ne rfl (f40.ne rfl (f39.ne rfl (f38.nw (f37.ne rfl (f36.ne rfl (f35.ne rfl (f34.ne rfl (f33.ne rfl (f32.ne rfl (f31.nw (f30.ne rfl (f29.ne rfl (f28.ne rfl (f27.ne rfl (f26.ne rfl (f25.ne rfl (f24.ne rfl (f23.ne rfl (f22.ne rfl (f21.ne rfl (f20.ne rfl (f19.nw (f18.nw (f17.ne rfl (f16.ne rfl (f15.ne rfl (f14.ne rfl (f13.ne rfl (f12.ne rfl (f11.ne rfl (f10.ne rfl (f9.ne rfl (f8.nw (f7.ne rfl (f6.ne rfl (f5.ne rfl (f4.ne rfl (f3.ne rfl (f2.nw (f1.ne rfl e219))))))))))))))))))))))))))))))))))))))))))))))))))))))))))))))))))))))))))))))))))))))))))))))))))))))))))))))))))))
  have e214 := F.2.2.2.2.2.2.2.2.2.2.2.2.2.2.2.2.2.2.2.2.2.2.2.2.2.2.2.2.2.2.2.2.2.2.2.2.2.2.2.2.2.2.2.2.2.2.2.2.2.2.1
  have e214_116 := (f116.get (by show ¬ (214 = 216 ∨ 214 = 217); decide) (f115.ne rfl (f114.ne rfl (f113.ne rfl (f112.ne rfl (f111.ne rfl (f110.ne rfl (f109.ne rfl (f108.ne rfl (f107.ne rfl (f106.ne rfl (f105.ne rfl (f104.ne rfl (f103.ne rfl (f102.ne rfl (f101.ne rfl (f100.ne rfl (f99.ne rfl (f98.ne rfl (f97.ne rfl (f96.ne rfl (f95.ne rfl (f94.ne rfl (f93.ne rfl (f92.ne rfl (f91.ne rfl (f90.ne rfl (f89.ne rfl (f88.ne rfl (f87.ne rfl (f86.ne rfl (f85.ne rfl (f84.ne rfl (f83.ne rfl (f82.ne rfl (f81.ne rfl (f80.ne rfl (f79.ne rfl (f78.nw (f77.ne rfl (f76.ne rfl (f75.ne rfl (f74.ne rfl (f73.ne rfl (f72.ne rfl (f71.nw (f70.ne rfl (f69.ne rfl (f68.ne rfl (f67.ne rfl (f66.ne rfl (f65.ne rfl (f64.ne rfl (f63.ne rfl (f62.ne rfl (f61.nw (f60.ne rfl (f59.ne rfl (f58.ne rfl (f57.ne rfl (f56.ne rfl (f55.ne rfl (f54.ne rfl (f53.ne rfl (f52.ne rfl (f51.ne rfl (f50.nw (f49.ne rfl (f48.ne rfl (f47.ne rfl (f46.ne rfl (f45.ne rfl (f44.ne rfl (f43.nw (f42.ne rfl (f41.ne rfl (f40.ne rfl (f39.ne rfl (f38.nw (f37.ne rfl (f36.ne rfl (f35.ne rfl (f34.ne rfl (f33.ne rfl (f32.ne rfl (f31.nw (f30.ne rfl (f29.ne rfl (f28.ne rfl (f27.ne rfl (f26.ne rfl (f25.ne rfl (f24.ne rfl (f23.ne rfl (f22.ne rfl (f21.ne rfl (f20.ne rfl (f19.nw (f18.nw (f17.ne rfl (f16.ne rfl (f15.ne rfl (f14.ne rfl (f13.ne rfl (f12.ne rfl (f11.ne rfl (f10.ne rfl (f9.ne rfl (f8.nw (f7.ne rfl (f6.ne rfl (f5.ne rfl (f4.ne rfl (f3.ne rfl (f2.nw (f1.ne rfl e214))))))))))))))))))))))))))))))))))))))))))))))))))))))))))))))))))))))))))))))))))))))))))))))))))))))))))))))))))))
  have e220 := F.2.2.2.2.2.2.2.2.2.2.2.2.2.2.2.2.2.2.2.2.2.2.2.2.2.2.2.2.2.2.2.2.2.2.2.2.2.2.2.2.2.2.2.2.2.2.2.2.2.2.2.2.2.2.2.2.1
  have e220_116 := (f116.get (by show ¬ (220 = 216 ∨ 220 = 217); decide) (f115.ne rfl (f114.ne rfl (f113.ne rfl (f112.ne rfl (f111.ne rfl (f110.ne rfl (f109.ne rfl (f108.ne rfl (f107.ne rfl (f106.ne rfl (f105.ne rfl (f104.ne rfl (f103.ne rfl (f102.ne rfl (f101.ne rfl (f100.ne rfl (f99.ne rfl (f98.ne rfl (f97.ne rfl (f96.ne rfl (f95.ne rfl (f94.ne rfl (f93.ne rfl (f92.ne rfl (f91.ne rfl (f90.ne rfl (f89.ne rfl (f88.ne rfl (f87.ne rfl (f86.ne rfl (f85.ne rfl (f84.ne rfl (f83.ne rfl (f82.ne rfl (f81.ne rfl (f80.ne rfl (f79.ne rfl (f78.nw (f77.ne rfl (f76.ne rfl (f75.ne rfl (f74.ne rfl (f73.ne rfl (f72.ne rfl (f71.nw (f70.ne rfl (f69.ne rfl (f68.ne rfl (f67.ne rfl (f66.ne rfl (f65.ne rfl (f64.ne rfl (f63.ne rfl (f62.ne rfl (f61.nw (f60.ne rfl (f59.ne rfl (f58.ne rfl (f57.ne rfl (f56.ne rfl (f55.ne rfl (f54.ne rfl (f53.ne rfl (f52.ne rfl (f51.ne rfl (f50.nw (f49.ne rfl (f48.ne rfl (f47.ne rfl (f46.ne rfl (f45.ne rfl (f44.ne rfl (f43.nw (f42.ne rfl (f41.ne rfl (f40.ne rfl (f39.ne rfl (f38.nw (f37.ne rfl (f36.ne rfl (f35.ne rfl (f34.ne rfl (f33.ne rfl (f32.ne rfl (f31.nw (f30.ne rfl (f29.ne rfl (f28.ne rfl (f27.ne rfl (f26.ne rfl (f25.ne rfl (f24.ne rfl (f23.ne rfl (f22.ne rfl (f21.ne rfl (f20.ne rfl (f19.nw (f18.nw (f17.ne rfl (f16.ne rfl (f15.ne rfl (f14.ne rfl (f13.ne rfl (f12.ne rfl (f11.ne rfl (f10.ne rfl (f9.ne rfl (f8.nw (f7.ne rfl (f6.ne rfl (f5.ne rfl (f4.ne rfl (f3.ne rfl (f2.nw (f1.ne rfl e220))))))))))))))))))))))))))))))))))))))))))))))))))))))))))))))))))))))))))))))))))))))))))))))))))))))))))))))))))))
  have e215 := F.2.2.2.2.2.2.2.2.2.2.2.2.2.2.2.2.2.2.2.2.2.2.2.2.2.2.2.2.2.2.2.2.2.2.2.2.2.2.2.2.2.2.2.2.2.2.2.2.2.2.2.1
  have e215_116 := (f116.get (by show ¬ (215 = 216 ∨ 215 = 217); decide) (f115.ne rfl (f114.ne rfl (f113.ne rfl (f112.ne rfl (f111.ne rfl (f110.ne rfl (f109.ne rfl (f108.ne rfl (f107.ne rfl (f106.ne rfl (f105.ne rfl (f104.ne rfl (f103.ne rfl (f102.ne rfl (f101.ne rfl (f100.ne rfl (f99.ne rfl (f98.ne rfl (f97.ne rfl (f96.ne rfl (f95.ne rfl (f94.ne rfl (f93.ne rfl (f92.ne rfl (f91.ne rfl (f90.ne rfl (f89.ne rfl (f88.ne rfl (f87.ne rfl (f86.ne rfl (f85.ne rfl (f84.ne rfl (f83.ne rfl (f82.ne rfl (f81.ne rfl (f80.ne rfl (f79.ne rfl (f78.nw (f77.ne rfl (f76.ne rfl (f75.ne rfl (f74.ne rfl (f73.ne rfl (f72.ne rfl (f71.nw (f70.ne rfl (f69.ne rfl (f68.ne rfl (f67.ne rfl (f66.ne rfl (f65.ne rfl (f64.ne rfl (f63.ne rfl (f62.ne rfl (f61.nw (f60.ne rfl (f59.ne rfl (f58.ne rfl (f57.ne rfl (f56.ne rfl (f55.ne rfl (f54.ne rfl (f53.ne rfl (f52.ne rfl (f51.ne rfl (f50.nw (f49.ne rfl (f48.ne rfl (f47.ne rfl (f46.ne rfl (f45.ne rfl (f44.ne rfl (f43.nw (f42.ne rfl (f41.ne rfl (f40.ne rfl (f39.ne rfl (f38.nw (f37.ne rfl (f36.ne rfl (f35.ne rfl (f34.ne rfl (f33.ne rfl (f32.ne rfl (f31.nw (f30.ne rfl (f29.ne rfl (f28.ne rfl (f27.ne rfl (f26.ne rfl (f25.ne rfl (f24.ne rfl (f23.ne rfl (f22.ne rfl (f21.ne rfl (f20.ne rfl (f19.nw (f18.nw (f17.ne rfl (f16.ne rfl (f15.ne rfl (f14.ne rfl (f13.ne rfl (f12.ne rfl (f11.ne rfl (f10.ne rfl (f9.ne rfl (f8.nw (f7.ne rfl (f6.ne rfl (f5.ne rfl (f4.ne rfl (f3.ne rfl (f2.nw (f1.ne rfl e215))))))))))))))))))))))))))))))))))))))))))))))))))))))))))))))))))))))))))))))))))))))))))))))))))))))))))))))))))))
  refine kp2 (m := 191) (s1 := 219) (i1 := 214) (s2 := 220) (i2 := 215) rfl rfl rfl rfl rfl rfl rfl rfl  (by decide) (by decide) 80 0 h116 _ _ _ _  rfl e191_116 e219_116 e214_116 (fun _ => rfl) e220_116 e215_116 (fun _ => rfl) (fun h117 f117 => ?_)
  have s117 := s116.put f117
  show aW aiP 241 12 550 76 [(1, .int 80), (0, .ref 191)] [] h117 _
  refine q_iconst rfl ?_
  refine s_istore_n (lv' := [(1, .int 0), (0, .ref 191)]) rfl (by decide) rfl ?_
  have e191_117 := (e191_116.fr f117 (by show ¬ (191 = 219 ∨ 191 = 220); decide))
  have e218 := F.2.2.2.2.2.2.2.2.2.2.2.2.2.2.2.2.2.2.2.2.2.2.2.2.2.2.2.2.2.2.2.2.2.2.2.2.2.2.2.2.2.2.2.2.2.2.2.2.2.2.2.2.2.2.1
  have e218_117 := (f117.get (by show ¬ (218 = 219 ∨ 218 = 220); decide) (f116.get (by show ¬ (218 = 216 ∨ 218 = 217); decide) (f115.ne rfl (f114.ne rfl (f113.ne rfl (f112.ne rfl (f111.ne rfl (f110.ne rfl (f109.ne rfl (f108.ne rfl (f107.ne rfl (f106.ne rfl (f105.ne rfl (f104.ne rfl (f103.ne rfl (f102.ne rfl (f101.ne rfl (f100.ne rfl (f99.ne rfl (f98.ne rfl (f97.ne rfl (f96.ne rfl (f95.ne rfl (f94.ne rfl (f93.ne rfl (f92.ne rfl (f91.ne rfl (f90.ne rfl (f89.ne rfl (f88.ne rfl (f87.ne rfl (f86.ne rfl (f85.ne rfl (f84.ne rfl (f83.ne rfl (f82.ne rfl (f81.ne rfl (f80.ne rfl (f79.ne rfl (f78.nw (f77.ne rfl (f76.ne rfl (f75.ne rfl (f74.ne rfl (f73.ne rfl (f72.ne rfl (f71.nw (f70.ne rfl (f69.ne rfl (f68.ne rfl (f67.ne rfl (f66.ne rfl (f65.ne rfl (f64.ne rfl (f63.ne rfl (f62.ne rfl (f61.nw (f60.ne rfl (f59.ne rfl (f58.ne rfl (f57.ne rfl (f56.ne rfl (f55.ne rfl (f54.ne rfl (f53.ne rfl (f52.ne rfl (f51.ne rfl (f50.nw (f49.ne rfl (f48.ne rfl (f47.ne rfl (f46.ne rfl (f45.ne rfl (f44.ne rfl (f43.nw (f42.ne rfl (f41.ne rfl (f40.ne rfl (f39.ne rfl (f38.nw (f37.ne rfl (f36.ne rfl (f35.ne rfl (f34.ne rfl (f33.ne rfl (f32.ne rfl (f31.nw (f30.ne rfl (f29.ne rfl (f28.ne rfl (f27.ne rfl (f26.ne rfl (f25.ne rfl (f24.ne rfl (f23.ne rfl (f22.ne rfl (f21.ne rfl (f20.ne rfl (f19.nw (f18.nw (f17.ne rfl (f16.ne rfl (f15.ne rfl (f14.ne rfl (f13.ne rfl (f12.ne rfl (f11.ne rfl (f10.ne rfl (f9.ne rfl (f8.nw (f7.ne rfl (f6.ne rfl (f5.ne rfl (f4.ne rfl (f3.ne rfl (f2.nw (f1.ne rfl e218)))))))))))))))))))))))))))))))))))))))))))))))))))))))))))))))))))))))))))))))))))))))))))))))))))))))))))))))))))))
  have e213_117 := (f117.get (by show ¬ (213 = 219 ∨ 213 = 220); decide) (f116.get (by show ¬ (213 = 216 ∨ 213 = 217); decide) (f115.ne rfl (f114.ne rfl (f113.ne rfl (f112.ne rfl (f111.ne rfl (f110.ne rfl (f109.ne rfl (f108.ne rfl (f107.ne rfl (f106.ne rfl (f105.ne rfl (f104.ne rfl (f103.ne rfl (f102.ne rfl (f101.ne rfl (f100.ne rfl (f99.ne rfl o98)))))))))))))))))))
  refine kp3 (m := 191) (s1 := 218) (i1 := 213) rfl rfl rfl rfl  (by decide) (by decide) 2480 0 h117 _ _  rfl e191_117 e218_117 e213_117 z98 (fun h118 f118 => ?_)
  have s118 := s117.put f118
  show aW aiP 241 12 550 103 [(1, .int 2480), (0, .ref 191)] [] h118 _
  refine q_aload_n rfl rfl ?_
  refine q_aload_n rfl rfl ?_
  have e191_118 := (e191_117.fr f118 (by show ¬ (191 = 218); decide))
  refine s_get (v := .int 0) rfl e191_118 rfl rfl ?_
  refine s_put (vs' := [.int 0, .ref 192, .ref 193, .int 0, .ref 194, .ref 195, .ref 196, .ref 197, .ref 198, .ref 199, .ref 200, .ref 201, .ref 202, .ref 203, .ref 204, .ref 205, .int (-1), .int 1, .ref 206, .ref 207, .ref 208, .ref 209, .ref 210, .ref 211, .ref 212, .ref 213, .ref 214, .ref 215, .int 0, .int 0, .int 0, .int 0, .ref 216, .ref 217, .ref 218, .ref 219, .ref 220, .int 0, .int 0, .int 0, .int 0, .int 0, .int 0, .int 0, .ref 221, .ref 222, .ref 223, .ref 224, .int 0, .ref 225, .int 0, .ref 226, .ref 227, .int 0, .ref 228, .ref 229, .ref 230, .ref 231, .ref 232]) rfl e191_118 rfl rfl rfl rfl (fun h119 o119 f119 => ?_)
  have s119 := s118.put f119
  refine q_aload_n rfl rfl ?_
  refine q_aload_n rfl rfl ?_
  refine s_get (v := .int 0) rfl o119 rfl rfl ?_
  refine s_put (vs' := [.int 0, .ref 192, .ref 193, .int 0, .ref 194, .ref 195, .ref 196, .ref 197, .ref 198, .ref 199, .ref 200, .ref 201, .ref 202, .ref 203, .ref 204, .ref 205, .int (-1), .int 1, .ref 206, .ref 207, .ref 208, .ref 209, .ref 210, .ref 211, .ref 212, .ref 213, .ref 214, .ref 215, .int 0, .int 0, .int 0, .int 0, .ref 216, .ref 217, .ref 218, .ref 219, .ref 220, .int 0, .int 0, .int 0, .int 0, .int 0, .int 0, .int 0, .ref 221, .ref 222, .ref 223, .ref 224, .int 0, .ref 225, .int 0, .ref 226, .ref 227, .int 0, .ref 228, .ref 229, .ref 230, .ref 231, .ref 232]) rfl o119 rfl rfl rfl rfl (fun h120 o120 f120 => ?_)
  have s120 := s119.put f120
  refine q_return rfl rfl ?_
  show aW aiP 261 13 571 19 [(0, .ref 191)] [] h120 _
  refine q_return rfl rfl ?_
  show aW aiP 260 14 591 4 [(0, .ref 191), (1, .int 0)] [] h120 _
  refine q_aload_n rfl rfl ?_
  refine q_iconst rfl ?_
  refine q_iload_n rfl rfl ?_
  refine q_iconst rfl ?_
  refine s_callV (as := [.int 1, .int 0, .int 0]) (rest := []) (d' := 13) (w' := 568) (lv' := [(0, .ref 191), (1, .int 1), (2, .int 0), (3, .int 0)]) rfl o120 rfl rfl rfl rfl rfl rfl ?_
  refine q_aload_n rfl rfl ?_
  refine s_get (v := .ref 221) rfl o120 rfl rfl ?_
  refine q_aload_n rfl rfl ?_
  refine s_get (v := .int 0) rfl o120 rfl rfl ?_
  refine q_iload_n rfl rfl ?_
  have e221 := F.2.2.2.2.2.2.2.2.2.2.2.2.2.2.2.2.2.2.2.2.2.2.2.2.2.2.2.2.2.2.2.2.2.2.2.2.2.2.2.2.2.2.2.2.2.2.2.2.2.2.2.2.2.2.2.2.2.1
  have e221_120 := (f120.ne rfl (f119.ne rfl (f118.get (by show ¬ (221 = 218); decide) (f117.get (by show ¬ (221 = 219 ∨ 221 = 220); decide) (f116.get (by show ¬ (221 = 216 ∨ 221 = 217); decide) (f115.ne rfl (f114.ne rfl (f113.ne rfl (f112.ne rfl (f111.ne rfl (f110.ne rfl (f109.ne rfl (f108.ne rfl (f107.ne rfl (f106.ne rfl (f105.ne rfl (f104.ne rfl (f103.ne rfl (f102.ne rfl (f101.ne rfl (f100.ne rfl (f99.ne rfl (f98.ne rfl (f97.ne rfl (f96.ne rfl (f95.ne rfl (f94.ne rfl (f93.ne rfl (f92.ne rfl (f91.ne rfl (f90.ne rfl (f89.ne rfl (f88.ne rfl (f87.ne rfl (f86.ne rfl (f85.ne rfl (f84.ne rfl (f83.ne rfl (f82.ne rfl (f81.ne rfl (f80.ne rfl (f79.ne rfl (f78.nw (f77.ne rfl (f76.ne rfl (f75.ne rfl (f74.ne rfl (f73.ne rfl (f72.ne rfl (f71.nw (f70.ne rfl (f69.ne rfl (f68.ne rfl (f67.ne rfl (f66.ne rfl (f65.ne rfl (f64.ne rfl (f63.ne rfl (f62.ne rfl (f61.nw (f60.ne rfl (f59.ne rfl (f58.ne rfl (f57.ne rfl (f56.ne rfl (f55.ne rfl (f54.ne rfl (f53.ne rfl (f52.ne rfl (f51.ne rfl (f50.nw (f49.ne rfl (f48.ne rfl (f47.ne rfl (f46.ne rfl (f45.ne rfl (f44.ne rfl (f43.nw (f42.ne rfl (f41.ne rfl (f40.ne rfl (f39.ne rfl (f38.nw (f37.ne rfl (f36.ne rfl (f35.ne rfl (f34.ne rfl (f33.ne rfl (f32.ne rfl (f31.nw (f30.ne rfl (f29.ne rfl (f28.ne rfl (f27.ne rfl (f26.ne rfl (f25.ne rfl (f24.ne rfl (f23.ne rfl (f22.ne rfl (f21.ne rfl (f20.ne rfl (f19.nw (f18.nw (f17.ne rfl (f16.ne rfl (f15.ne rfl (f14.ne rfl (f13.ne rfl (f12.ne rfl (f11.ne rfl (f10.ne rfl (f9.ne rfl (f8.nw (f7.ne rfl (f6.ne rfl (f5.ne rfl (f4.ne rfl (f3.ne rfl (f2.nw (f1.ne rfl e221))))))))))))))))))))))))))))))))))))))))))))))))))))))))))))))))))))))))))))))))))))))))))))))))))))))))))))))))))))))))
  refine s_iastore (j := 0) rfl e221_120 (by decide) rfl (fun h121 o121 f121 => ?_)
  have s121 := s120.put f121
  refine q_aload_n rfl rfl ?_
  have e191_121 := (o120.ne f121 rfl)
  refine s_get (v := .ref 222) rfl e191_121 rfl rfl ?_
  refine q_aload_n rfl rfl ?_
  refine s_get (v := .int 0) rfl e191_121 rfl rfl ?_
  refine q_iload_n rfl rfl ?_
  have e222 := F.2.2.2.2.2.2.2.2.2.2.2.2.2.2.2.2.2.2.2.2.2.2.2.2.2.2.2.2.2.2.2.2.2.2.2.2.2.2.2.2.2.2.2.2.2.2.2.2.2.2.2.2.2.2.2.2.2.2.1
  have e222_121 := (f121.ne rfl (f120.ne rfl (f119.ne rfl (f118.get (by show ¬ (222 = 218); decide) (f117.get (by show ¬ (222 = 219 ∨ 222 = 220); decide) (f116.get (by show ¬ (222 = 216 ∨ 222 = 217); decide) (f115.ne rfl (f114.ne rfl (f113.ne rfl (f112.ne rfl (f111.ne rfl (f110.ne rfl (f109.ne rfl (f108.ne rfl (f107.ne rfl (f106.ne rfl (f105.ne rfl (f104.ne rfl (f103.ne rfl (f102.ne rfl (f101.ne rfl (f100.ne rfl (f99.ne rfl (f98.ne rfl (f97.ne rfl (f96.ne rfl (f95.ne rfl (f94.ne rfl (f93.ne rfl (f92.ne rfl (f91.ne rfl (f90.ne rfl (f89.ne rfl (f88.ne rfl (f87.ne rfl (f86.ne rfl (f85.ne rfl (f84.ne rfl (f83.ne rfl (f82.ne rfl (f81.ne rfl (f80.ne rfl (f79.ne rfl (f78.nw (f77.ne rfl (f76.ne rfl (f75.ne rfl (f74.ne rfl (f73.ne rfl (f72.ne rfl (f71.nw (f70.ne rfl (f69.ne rfl (f68.ne rfl (f67.ne rfl (f66.ne rfl (f65.ne rfl (f64.ne rfl (f63.ne rfl (f62.ne rfl (f61.nw (f60.ne rfl (f59.ne rfl (f58.ne rfl (f57.ne rfl (f56.ne rfl (f55.ne rfl (f54.ne rfl (f53.ne rfl (f52.ne rfl (f51.ne rfl (f50.nw (f49.ne rfl (f48.ne rfl (f47.ne rfl (f46.ne rfl (f45.ne rfl (f44.ne rfl (f43.nw (f42.ne rfl (f41.ne rfl (f40.ne rfl (f39.ne rfl (f38.nw (f37.ne rfl (f36.ne rfl (f35.ne rfl (f34.ne rfl (f33.ne rfl (f32.ne rfl (f31.nw (f30.ne rfl (f29.ne rfl (f28.ne rfl (f27.ne rfl (f26.ne rfl (f25.ne rfl (f24.ne rfl (f23.ne rfl (f22.ne rfl (f21.ne rfl (f20.ne rfl (f19.nw (f18.nw (f17.ne rfl (f16.ne rfl (f15.ne rfl (f14.ne rfl (f13.ne rfl (f12.ne rfl (f11.ne rfl (f10.ne rfl (f9.ne rfl (f8.nw (f7.ne rfl (f6.ne rfl (f5.ne rfl (f4.ne rfl (f3.ne rfl (f2.nw (f1.ne rfl e222)))))))))))))))))))))))))))))))))))))))))))))))))))))))))))))))))))))))))))))))))))))))))))))))))))))))))))))))))))))))))
  refine s_iastore (j := 0) rfl e222_121 (by decide) rfl (fun h122 o122 f122 => ?_)
  have s122 := s121.put f122
  refine q_aload_n rfl rfl ?_
  have e191_122 := (e191_121.ne f122 rfl)
  refine s_get (v := .ref 223) rfl e191_122 rfl rfl ?_
  refine q_aload_n rfl rfl ?_
  refine s_get (v := .int 0) rfl e191_122 rfl rfl ?_
  refine q_iload_n rfl rfl ?_
  have e223 := F.2.2.2.2.2.2.2.2.2.2.2.2.2.2.2.2.2.2.2.2.2.2.2.2.2.2.2.2.2.2.2.2.2.2.2.2.2.2.2.2.2.2.2.2.2.2.2.2.2.2.2.2.2.2.2.2.2.2.2.1
  have e223_122 := (f122.ne rfl (f121.ne rfl (f120.ne rfl (f119.ne rfl (f118.get (by show ¬ (223 = 218); decide) (f117.get (by show ¬ (223 = 219 ∨ 223 = 220); decide) (f116.get (by show ¬ (223 = 216 ∨ 223 = 217); decide) (f115.ne rfl (f114.ne rfl (f113.ne rfl (f112.ne rfl (f111.ne rfl (f110.ne rfl (f109.ne rfl (f108.ne rfl (f107.ne rfl (f106.ne rfl (f105.ne rfl (f104.ne rfl (f103.ne rfl (f102.ne rfl (f101.ne rfl (f100.ne rfl (f99.ne rfl (f98.ne rfl (f97.ne rfl (f96.ne rfl (f95.ne rfl (f94.ne rfl (f93.ne rfl (f92.ne rfl (f91.ne rfl (f90.ne rfl (f89.ne rfl (f88.ne rfl (f87.ne rfl (f86.ne rfl (f85.ne rfl (f84.ne rfl (f83.ne rfl (f82.ne rfl (f81.ne rfl (f80.ne rfl (f79.ne rfl (f78.nw (f77.ne rfl (f76.ne rfl (f75.ne rfl (f74.ne rfl (f73.ne rfl (f72.ne rfl (f71.nw (f70.ne rfl (f69.ne rfl (f68.ne rfl (f67.ne rfl (f66.ne rfl (f65.ne rfl (f64.ne rfl (f63.ne rfl (f62.ne rfl (f61.nw (f60.ne rfl (f59.ne rfl (f58.ne rfl (f57.ne rfl (f56.ne rfl (f55.ne rfl (f54.ne rfl (f53.ne rfl (f52.ne rfl (f51.ne rfl (f50.nw (f49.ne rfl (f48.ne rfl (f47.ne rfl (f46.ne rfl (f45.ne rfl (f44.ne rfl (f43.nw (f42.ne rfl (f41.ne rfl (f40.ne rfl (f39.ne rfl (f38.nw (f37.ne rfl (f36.ne rfl (f35.ne rfl (f34.ne rfl (f33.ne rfl (f32.ne rfl (f31.nw (f30.ne rfl (f29.ne rfl (f28.ne rfl (f27.ne rfl (f26.ne rfl (f25.ne rfl (f24.ne rfl (f23.ne rfl (f22.ne rfl (f21.ne rfl (f20.ne rfl (f19.nw (f18.nw (f17.ne rfl (f16.ne rfl (f15.ne rfl (f14.ne rfl (f13.ne rfl (f12.ne rfl (f11.ne rfl (f10.ne rfl (f9.ne rfl (f8.nw (f7.ne rfl (f6.ne rfl (f5.ne rfl (f4.ne rfl (f3.ne rfl (f2.nw (f1.ne rfl e223))))))))))))))))))))))))))))))))))))))))))))))))))))))))))))))))))))))))))))))))))))))))))))))))))))))))))))))))))))))))))
  refine s_iastore (j := 0) rfl e223_122 (by decide) rfl (fun h123 o123 f123 => ?_)
  have s123 := s122.put f123
  refine q_aload_n rfl rfl ?_
  refine q_dup rfl rfl ?_
  have e191_123 := (e191_122.ne f123 rfl)
  refine s_get (v := .int 0) rfl e191_123 rfl rfl ?_
  refine q_iconst rfl ?_
  refine s_iadd (k := 1) rfl (by decide) ?_
  refine s_put (vs' := [.int 0, .ref 192, .ref 193, .int 0, .ref 194, .ref 195, .ref 196, .ref 197, .ref 198, .ref 199, .ref 200, .ref 201, .ref 202, .ref 203, .ref 204, .ref 205, .int (-1), .int 1, .ref 206, .ref 207, .ref 208, .ref 209, .ref 210, .ref 211, .ref 212, .ref 213, .ref 214, .ref 215, .int 0, .int 0, .int 0, .int 0, .ref 216, .ref 217, .ref 218, .ref 219, .ref 220, .int 0, .int 0, .int 0, .int 1, .int 0, .int 0, .int 0, .ref 221, .ref 222, .ref 223, .ref 224, .int 0, .ref 225, .int 0, .ref 226, .ref 227, .int 0, .ref 228, .ref 229, .ref 230, .ref 231, .ref 232]) rfl e191_123 rfl rfl rfl rfl (fun h124 o124 f124 => ?_)
  have s124 := s123.put f124
  refine q_return rfl rfl ?_
  show aW aiP 260 14 591 11 [(0, .ref 191), (1, .int 0)] [] h124 _
  refine q_aload_n rfl rfl ?_
  refine q_iconst rfl ?_
  refine q_iload_n rfl rfl ?_
  refine q_iconst rfl ?_
  refine s_callV (as := [.int 0, .int 0, .int 0]) (rest := []) (d' := 13) (w' := 568) (lv' := [(0, .ref 191), (1, .int 0), (2, .int 0), (3, .int 0)]) rfl o124 rfl rfl rfl rfl rfl rfl ?_
  refine q_aload_n rfl rfl ?_
  refine s_get (v := .ref 221) rfl o124 rfl rfl ?_
  refine q_aload_n rfl rfl ?_
  refine s_get (v := .int 1) rfl o124 rfl rfl ?_
  refine q_iload_n rfl rfl ?_
  have e221_124 := (f124.ne rfl (f123.ne rfl (f122.ne rfl o121)))
  refine s_iastore (j := 1) rfl e221_124 (by decide) rfl (fun h125 o125 f125 => ?_)
  have s125 := s124.put f125
  refine q_aload_n rfl rfl ?_
  have e191_125 := (o124.ne f125 rfl)
  refine s_get (v := .ref 222) rfl e191_125 rfl rfl ?_
  refine q_aload_n rfl rfl ?_
  refine s_get (v := .int 1) rfl e191_125 rfl rfl ?_
  refine q_iload_n rfl rfl ?_
  have e222_125 := (f125.ne rfl (f124.ne rfl (f123.ne rfl o122)))
  refine s_iastore (j := 1) rfl e222_125 (by decide) rfl (fun h126 o126 f126 => ?_)
  have s126 := s125.put f126
  refine q_aload_n rfl rfl ?_
  have e191_126 := (e191_125.ne f126 rfl)
  refine s_get (v := .ref 223) rfl e191_126 rfl rfl ?_
  refine q_aload_n rfl rfl ?_
  refine s_get (v := .int 1) rfl e191_126 rfl rfl ?_
  refine q_iload_n rfl rfl ?_
  have e223_126 := (f126.ne rfl (f125.ne rfl (f124.ne rfl o123)))
  refine s_iastore (j := 1) rfl e223_126 (by decide) rfl (fun h127 o127 f127 => ?_)
  have s127 := s126.put f127
  refine q_aload_n rfl rfl ?_
  refine q_dup rfl rfl ?_
  have e191_127 := (e191_126.ne f127 rfl)
  refine s_get (v := .int 1) rfl e191_127 rfl rfl ?_
  refine q_iconst rfl ?_
  refine s_iadd (k := 2) rfl (by decide) ?_
  refine s_put (vs' := [.int 0, .ref 192, .ref 193, .int 0, .ref 194, .ref 195, .ref 196, .ref 197, .ref 198, .ref 199, .ref 200, .ref 201, .ref 202, .ref 203, .ref 204, .ref 205, .int (-1), .int 1, .ref 206, .ref 207, .ref 208, .ref 209, .ref 210, .ref 211, .ref 212, .ref 213, .ref 214, .ref 215, .int 0, .int 0, .int 0, .int 0, .ref 216, .ref 217, .ref 218, .ref 219, .ref 220, .int 0, .int 0, .int 0, .int 2, .int 0, .int 0, .int 0, .ref 221, .ref 222, .ref 223, .ref 224, .int 0, .ref 225, .int 0, .ref 226, .ref 227, .int 0, .ref 228, .ref 229, .ref 230, .ref 231, .ref 232]) rfl e191_127 rfl rfl rfl rfl (fun h128 o128 f128 => ?_)
  have s128 := s127.put f128
  refine q_return rfl rfl ?_
  show aW aiP 260 14 591 18 [(0, .ref 191), (1, .int 0)] [] h128 _
  refine q_iconst rfl ?_
  refine s_istore_n (lv' := [(2, .int 0), (0, .ref 191), (1, .int 0)]) rfl (by decide) rfl ?_
  refine q_iload_n rfl rfl ?_
  refine q_aload_n rfl rfl ?_
  refine s_get (v := .ref 208) rfl o128 rfl rfl ?_
  refine q_iload_n rfl rfl ?_
  have e208_128 := (f128.ne rfl (f127.ne rfl (f126.ne rfl (f125.ne rfl (f124.ne rfl (f123.ne rfl (f122.ne rfl (f121.ne rfl (f120.ne rfl (f119.ne rfl (f118.get (by show ¬ (208 = 218); decide) (f117.get (by show ¬ (208 = 219 ∨ 208 = 220); decide) (f116.get (by show ¬ (208 = 216 ∨ 208 = 217); decide) (f115.ne rfl (f114.ne rfl (f113.ne rfl (f112.ne rfl (f111.ne rfl e208_110))))))))))))))))))
  refine s_iaload (j := 0) (v := .int 0) rfl e208_128 (by decide) rfl (by first | rfl | decide) ?_
  refine q_icmp_ge rfl (fun _ => ?_) (fun c => absurd (by decide) c)
  refine q_aload_n rfl rfl ?_
  refine q_bipush rfl ?_
  refine q_iload_n rfl rfl ?_
  refine q_iconst rfl ?_
  refine s_callV (as := [.int 6, .int 0, .int 0]) (rest := []) (d' := 13) (w' := 568) (lv' := [(0, .ref 191), (1, .int 6), (2, .int 0), (3, .int 0)]) rfl o128 rfl rfl rfl rfl rfl rfl ?_
  refine q_aload_n rfl rfl ?_
  refine s_get (v := .ref 221) rfl o128 rfl rfl ?_
  refine q_aload_n rfl rfl ?_
  refine s_get (v := .int 2) rfl o128 rfl rfl ?_
  refine q_iload_n rfl rfl ?_
  have e221_128 := (f128.ne rfl (f127.ne rfl (f126.ne rfl o125)))
  refine s_iastore (j := 2) rfl e221_128 (by decide) rfl (fun h129 o129 f129 => ?_)
  have s129 := s128.put f129
  refine q_aload_n rfl rfl ?_
  have e191_129 := (o128.ne f129 rfl)
  refine s_get (v := .ref 222) rfl e191_129 rfl rfl ?_
  refine q_aload_n rfl rfl ?_
  refine s_get (v := .int 2) rfl e191_129 rfl rfl ?_
  refine q_iload_n rfl rfl ?_
  have e222_129 := (f129.ne rfl (f128.ne rfl (f127.ne rfl o126)))
  refine s_iastore (j := 2) rfl e222_129 (by decide) rfl (fun h130 o130 f130 => ?_)
  have s130 := s129.put f130
  refine q_aload_n rfl rfl ?_
  have e191_130 := (e191_129.ne f130 rfl)
  refine s_get (v := .ref 223) rfl e191_130 rfl rfl ?_
  refine q_aload_n rfl rfl ?_
  refine s_get (v := .int 2) rfl e191_130 rfl rfl ?_
  refine q_iload_n rfl rfl ?_
  have e223_130 := (f130.ne rfl (f129.ne rfl (f128.ne rfl o127)))
  refine s_iastore (j := 2) rfl e223_130 (by decide) rfl (fun h131 o131 f131 => ?_)
  have s131 := s130.put f131
  refine q_aload_n rfl rfl ?_
  refine q_dup rfl rfl ?_
  have e191_131 := (e191_130.ne f131 rfl)
  refine s_get (v := .int 2) rfl e191_131 rfl rfl ?_
  refine q_iconst rfl ?_
  refine s_iadd (k := 3) rfl (by decide) ?_
  refine s_put (vs' := [.int 0, .ref 192, .ref 193, .int 0, .ref 194, .ref 195, .ref 196, .ref 197, .ref 198, .ref 199, .ref 200, .ref 201, .ref 202, .ref 203, .ref 204, .ref 205, .int (-1), .int 1, .ref 206, .ref 207, .ref 208, .ref 209, .ref 210, .ref 211, .ref 212, .ref 213, .ref 214, .ref 215, .int 0, .int 0, .int 0, .int 0, .ref 216, .ref 217, .ref 218, .ref 219, .ref 220, .int 0, .int 0, .int 0, .int 3, .int 0, .int 0, .int 0, .ref 221, .ref 222, .ref 223, .ref 224, .int 0, .ref 225, .int 0, .ref 226, .ref 227, .int 0, .ref 228, .ref 229, .ref 230, .ref 231, .ref 232]) rfl e191_131 rfl rfl rfl rfl (fun h132 o132 f132 => ?_)
  have s132 := s131.put f132
  refine q_return rfl rfl ?_
  show aW aiP 260 14 591 116 [(2, .int 0), (0, .ref 191), (1, .int 0)] [] h132 _
  refine q_aload_n rfl rfl ?_
  refine q_iconst rfl ?_
  refine q_iload_n rfl rfl ?_
  refine q_iconst rfl ?_
  refine s_callV (as := [.int 0, .int 0, .int 0]) (rest := []) (d' := 13) (w' := 568) (lv' := [(0, .ref 191), (1, .int 0), (2, .int 0), (3, .int 0)]) rfl o132 rfl rfl rfl rfl rfl rfl ?_
  refine q_aload_n rfl rfl ?_
  refine s_get (v := .ref 221) rfl o132 rfl rfl ?_
  refine q_aload_n rfl rfl ?_
  refine s_get (v := .int 3) rfl o132 rfl rfl ?_
  refine q_iload_n rfl rfl ?_
  have e221_132 := (f132.ne rfl (f131.ne rfl (f130.ne rfl o129)))
  refine s_iastore (j := 3) rfl e221_132 (by decide) rfl (fun h133 o133 f133 => ?_)
  have s133 := s132.put f133
  refine q_aload_n rfl rfl ?_
  have e191_133 := (o132.ne f133 rfl)
  refine s_get (v := .ref 222) rfl e191_133 rfl rfl ?_
  refine q_aload_n rfl rfl ?_
  refine s_get (v := .int 3) rfl e191_133 rfl rfl ?_
  refine q_iload_n rfl rfl ?_
  have e222_133 := (f133.ne rfl (f132.ne rfl (f131.ne rfl o130)))
  refine s_iastore (j := 3) rfl e222_133 (by decide) rfl (fun h134 o134 f134 => ?_)
  have s134 := s133.put f134
  refine q_aload_n rfl rfl ?_
  have e191_134 := (e191_133.ne f134 rfl)
  refine s_get (v := .ref 223) rfl e191_134 rfl rfl ?_
  refine q_aload_n rfl rfl ?_
  refine s_get (v := .int 3) rfl e191_134 rfl rfl ?_
  refine q_iload_n rfl rfl ?_
  have e223_134 := (f134.ne rfl (f133.ne rfl (f132.ne rfl o131)))
  refine s_iastore (j := 3) rfl e223_134 (by decide) rfl (fun h135 o135 f135 => ?_)
  have s135 := s134.put f135
  refine q_aload_n rfl rfl ?_
  refine q_dup rfl rfl ?_
  have e191_135 := (e191_134.ne f135 rfl)
  refine s_get (v := .int 3) rfl e191_135 rfl rfl ?_
  refine q_iconst rfl ?_
  refine s_iadd (k := 4) rfl (by decide) ?_
  refine s_put (vs' := [.int 0, .ref 192, .ref 193, .int 0, .ref 194, .ref 195, .ref 196, .ref 197, .ref 198, .ref 199, .ref 200, .ref 201, .ref 202, .ref 203, .ref 204, .ref 205, .int (-1), .int 1, .ref 206, .ref 207, .ref 208, .ref 209, .ref 210, .ref 211, .ref 212, .ref 213, .ref 214, .ref 215, .int 0, .int 0, .int 0, .int 0, .ref 216, .ref 217, .ref 218, .ref 219, .ref 220, .int 0, .int 0, .int 0, .int 4, .int 0, .int 0, .int 0, .ref 221, .ref 222, .ref 223, .ref 224, .int 0, .ref 225, .int 0, .ref 226, .ref 227, .int 0, .ref 228, .ref 229, .ref 230, .ref 231, .ref 232]) rfl e191_135 rfl rfl rfl rfl (fun h136 o136 f136 => ?_)
  have s136 := s135.put f136
  refine q_return rfl rfl ?_
  show aW aiP 260 14 591 123 [(2, .int 0), (0, .ref 191), (1, .int 0)] [] h136 _
  refine q_aload_n rfl rfl ?_
  refine q_bipush rfl ?_
  refine q_iload_n rfl rfl ?_
  refine q_iconst rfl ?_
  refine s_callV (as := [.int 7, .int 0, .int 0]) (rest := []) (d' := 13) (w' := 568) (lv' := [(0, .ref 191), (1, .int 7), (2, .int 0), (3, .int 0)]) rfl o136 rfl rfl rfl rfl rfl rfl ?_
  refine q_aload_n rfl rfl ?_
  refine s_get (v := .ref 221) rfl o136 rfl rfl ?_
  refine q_aload_n rfl rfl ?_
  refine s_get (v := .int 4) rfl o136 rfl rfl ?_
  refine q_iload_n rfl rfl ?_
  have e221_136 := (f136.ne rfl (f135.ne rfl (f134.ne rfl o133)))
  refine s_iastore (j := 4) rfl e221_136 (by decide) rfl (fun h137 o137 f137 => ?_)
  have s137 := s136.put f137
  refine q_aload_n rfl rfl ?_
  have e191_137 := (o136.ne f137 rfl)
  refine s_get (v := .ref 222) rfl e191_137 rfl rfl ?_
  refine q_aload_n rfl rfl ?_
  refine s_get (v := .int 4) rfl e191_137 rfl rfl ?_
  refine q_iload_n rfl rfl ?_
  have e222_137 := (f137.ne rfl (f136.ne rfl (f135.ne rfl o134)))
  refine s_iastore (j := 4) rfl e222_137 (by decide) rfl (fun h138 o138 f138 => ?_)
  have s138 := s137.put f138
  refine q_aload_n rfl rfl ?_
  have e191_138 := (e191_137.ne f138 rfl)
  refine s_get (v := .ref 223) rfl e191_138 rfl rfl ?_
  refine q_aload_n rfl rfl ?_
  refine s_get (v := .int 4) rfl e191_138 rfl rfl ?_
  refine q_iload_n rfl rfl ?_
  have e223_138 := (f138.ne rfl (f137.ne rfl (f136.ne rfl o135)))
  refine s_iastore (j := 4) rfl e223_138 (by decide) rfl (fun h139 o139 f139 => ?_)
  have s139 := s138.put f139
  refine q_aload_n rfl rfl ?_
  refine q_dup rfl rfl ?_
  have e191_139 := (e191_138.ne f139 rfl)
  refine s_get (v := .int 4) rfl e191_139 rfl rfl ?_
  refine q_iconst rfl ?_
  refine s_iadd (k := 5) rfl (by decide) ?_
  refine s_put (vs' := [.int 0, .ref 192, .ref 193, .int 0, .ref 194, .ref 195, .ref 196, .ref 197, .ref 198, .ref 199, .ref 200, .ref 201, .ref 202, .ref 203, .ref 204, .ref 205, .int (-1), .int 1, .ref 206, .ref 207, .ref 208, .ref 209, .ref 210, .ref 211, .ref 212, .ref 213, .ref 214, .ref 215, .int 0, .int 0, .int 0, .int 0, .ref 216, .ref 217, .ref 218, .ref 219, .ref 220, .int 0, .int 0, .int 0, .int 5, .int 0, .int 0, .int 0, .ref 221, .ref 222, .ref 223, .ref 224, .int 0, .ref 225, .int 0, .ref 226, .ref 227, .int 0, .ref 228, .ref 229, .ref 230, .ref 231, .ref 232]) rfl e191_139 rfl rfl rfl rfl (fun h140 o140 f140 => ?_)
  have s140 := s139.put f140
  refine q_return rfl rfl ?_
  show aW aiP 260 14 591 131 [(2, .int 0), (0, .ref 191), (1, .int 0)] [] h140 _
  refine q_aload_n rfl rfl ?_
  refine q_iconst rfl ?_
  refine q_iload_n rfl rfl ?_
  refine q_iconst rfl ?_
  refine s_callV (as := [.int 0, .int 0, .int 0]) (rest := []) (d' := 13) (w' := 568) (lv' := [(0, .ref 191), (1, .int 0), (2, .int 0), (3, .int 0)]) rfl o140 rfl rfl rfl rfl rfl rfl ?_
  refine q_aload_n rfl rfl ?_
  refine s_get (v := .ref 221) rfl o140 rfl rfl ?_
  refine q_aload_n rfl rfl ?_
  refine s_get (v := .int 5) rfl o140 rfl rfl ?_
  refine q_iload_n rfl rfl ?_
  have e221_140 := (f140.ne rfl (f139.ne rfl (f138.ne rfl o137)))
  refine s_iastore (j := 5) rfl e221_140 (by decide) rfl (fun h141 o141 f141 => ?_)
  have s141 := s140.put f141
  refine q_aload_n rfl rfl ?_
  have e191_141 := (o140.ne f141 rfl)
  refine s_get (v := .ref 222) rfl e191_141 rfl rfl ?_
  refine q_aload_n rfl rfl ?_
  refine s_get (v := .int 5) rfl e191_141 rfl rfl ?_
  refine q_iload_n rfl rfl ?_
  have e222_141 := (f141.ne rfl (f140.ne rfl (f139.ne rfl o138)))
  refine s_iastore (j := 5) rfl e222_141 (by decide) rfl (fun h142 o142 f142 => ?_)
  have s142 := s141.put f142
  refine q_aload_n rfl rfl ?_
  have e191_142 := (e191_141.ne f142 rfl)
  refine s_get (v := .ref 223) rfl e191_142 rfl rfl ?_
  refine q_aload_n rfl rfl ?_
  refine s_get (v := .int 5) rfl e191_142 rfl rfl ?_
  refine q_iload_n rfl rfl ?_
  have e223_142 := (f142.ne rfl (f141.ne rfl (f140.ne rfl o139)))
  refine s_iastore (j := 5) rfl e223_142 (by decide) rfl (fun h143 o143 f143 => ?_)
  have s143 := s142.put f143
  refine q_aload_n rfl rfl ?_
  refine q_dup rfl rfl ?_
  have e191_143 := (e191_142.ne f143 rfl)
  refine s_get (v := .int 5) rfl e191_143 rfl rfl ?_
  refine q_iconst rfl ?_
  refine s_iadd (k := 6) rfl (by decide) ?_
  refine s_put (vs' := [.int 0, .ref 192, .ref 193, .int 0, .ref 194, .ref 195, .ref 196, .ref 197, .ref 198, .ref 199, .ref 200, .ref 201, .ref 202, .ref 203, .ref 204, .ref 205, .int (-1), .int 1, .ref 206, .ref 207, .ref 208, .ref 209, .ref 210, .ref 211, .ref 212, .ref 213, .ref 214, .ref 215, .int 0, .int 0, .int 0, .int 0, .ref 216, .ref 217, .ref 218, .ref 219, .ref 220, .int 0, .int 0, .int 0, .int 6, .int 0, .int 0, .int 0, .ref 221, .ref 222, .ref 223, .ref 224, .int 0, .ref 225, .int 0, .ref 226, .ref 227, .int 0, .ref 228, .ref 229, .ref 230, .ref 231, .ref 232]) rfl e191_143 rfl rfl rfl rfl (fun h144 o144 f144 => ?_)
  have s144 := s143.put f144
  refine q_return rfl rfl ?_
  show aW aiP 260 14 591 138 [(2, .int 0), (0, .ref 191), (1, .int 0)] [] h144 _
  refine q_iconst rfl ?_
  refine s_istore_n (lv' := [(2, .int 0), (0, .ref 191), (1, .int 0)]) rfl (by decide) rfl ?_
  refine q_iload_n rfl rfl ?_
  refine q_aload_n rfl rfl ?_
  refine s_get (v := .ref 208) rfl o144 rfl rfl ?_
  refine q_iload_n rfl rfl ?_
  have e208_144 := (f144.ne rfl (f143.ne rfl (f142.ne rfl (f141.ne rfl (f140.ne rfl (f139.ne rfl (f138.ne rfl (f137.ne rfl (f136.ne rfl (f135.ne rfl (f134.ne rfl (f133.ne rfl (f132.ne rfl (f131.ne rfl (f130.ne rfl (f129.ne rfl e208_128))))))))))))))))
  refine s_iaload (j := 0) (v := .int 0) rfl e208_144 (by decide) rfl (by first | rfl | decide) ?_
  refine q_icmp_ge rfl (fun _ => ?_) (fun c => absurd (by decide) c)
  refine q_aload_n rfl rfl ?_
  refine q_iconst rfl ?_
  refine q_iload_n rfl rfl ?_
  refine q_iconst rfl ?_
  refine s_callV (as := [.int 0, .int 0, .int 0]) (rest := []) (d' := 13) (w' := 568) (lv' := [(0, .ref 191), (1, .int 0), (2, .int 0), (3, .int 0)]) rfl o144 rfl rfl rfl rfl rfl rfl ?_
  refine q_aload_n rfl rfl ?_
  refine s_get (v := .ref 221) rfl o144 rfl rfl ?_
  refine q_aload_n rfl rfl ?_
  refine s_get (v := .int 6) rfl o144 rfl rfl ?_
  refine q_iload_n rfl rfl ?_
  have e221_144 := (f144.ne rfl (f143.ne rfl (f142.ne rfl o141)))
  refine s_iastore (j := 6) rfl e221_144 (by decide) rfl (fun h145 o145 f145 => ?_)
  have s145 := s144.put f145
  refine q_aload_n rfl rfl ?_
  have e191_145 := (o144.ne f145 rfl)
  refine s_get (v := .ref 222) rfl e191_145 rfl rfl ?_
  refine q_aload_n rfl rfl ?_
  refine s_get (v := .int 6) rfl e191_145 rfl rfl ?_
  refine q_iload_n rfl rfl ?_
  have e222_145 := (f145.ne rfl (f144.ne rfl (f143.ne rfl o142)))
  refine s_iastore (j := 6) rfl e222_145 (by decide) rfl (fun h146 o146 f146 => ?_)
  have s146 := s145.put f146
  refine q_aload_n rfl rfl ?_
  have e191_146 := (e191_145.ne f146 rfl)
  refine s_get (v := .ref 223) rfl e191_146 rfl rfl ?_
  refine q_aload_n rfl rfl ?_
  refine s_get (v := .int 6) rfl e191_146 rfl rfl ?_
  refine q_iload_n rfl rfl ?_
  have e223_146 := (f146.ne rfl (f145.ne rfl (f144.ne rfl o143)))
  refine s_iastore (j := 6) rfl e223_146 (by decide) rfl (fun h147 o147 f147 => ?_)
  have s147 := s146.put f147
  refine q_aload_n rfl rfl ?_
  refine q_dup rfl rfl ?_
  have e191_147 := (e191_146.ne f147 rfl)
  refine s_get (v := .int 6) rfl e191_147 rfl rfl ?_
  refine q_iconst rfl ?_
  refine s_iadd (k := 7) rfl (by decide) ?_
  refine s_put (vs' := [.int 0, .ref 192, .ref 193, .int 0, .ref 194, .ref 195, .ref 196, .ref 197, .ref 198, .ref 199, .ref 200, .ref 201, .ref 202, .ref 203, .ref 204, .ref 205, .int (-1), .int 1, .ref 206, .ref 207, .ref 208, .ref 209, .ref 210, .ref 211, .ref 212, .ref 213, .ref 214, .ref 215, .int 0, .int 0, .int 0, .int 0, .ref 216, .ref 217, .ref 218, .ref 219, .ref 220, .int 0, .int 0, .int 0, .int 7, .int 0, .int 0, .int 0, .ref 221, .ref 222, .ref 223, .ref 224, .int 0, .ref 225, .int 0, .ref 226, .ref 227, .int 0, .ref 228, .ref 229, .ref 230, .ref 231, .ref 232]) rfl e191_147 rfl rfl rfl rfl (fun h148 o148 f148 => ?_)
  have s148 := s147.put f148
  refine q_return rfl rfl ?_
  show aW aiP 260 14 591 185 [(2, .int 0), (0, .ref 191), (1, .int 0)] [] h148 _
  refine q_return rfl rfl ?_
  show aW aiP 253 15 613 54 [(3, .int 0), (2, .int (-1)), (0, .ref 191), (1, .int (xs 1))] [] h148 _
  refine q_aload_n rfl rfl ?_
  refine q_iconst rfl ?_
  refine s_put (vs' := [.int 0, .ref 192, .ref 193, .int 0, .ref 194, .ref 195, .ref 196, .ref 197, .ref 198, .ref 199, .ref 200, .ref 201, .ref 202, .ref 203, .ref 204, .ref 205, .int (-1), .int 1, .ref 206, .ref 207, .ref 208, .ref 209, .ref 210, .ref 211, .ref 212, .ref 213, .ref 214, .ref 215, .int 0, .int 0, .int 0, .int 0, .ref 216, .ref 217, .ref 218, .ref 219, .ref 220, .int 0, .int 0, .int 1, .int 7, .int 0, .int 0, .int 0, .ref 221, .ref 222, .ref 223, .ref 224, .int 0, .ref 225, .int 0, .ref 226, .ref 227, .int 0, .ref 228, .ref 229, .ref 230, .ref 231, .ref 232]) rfl o148 rfl rfl rfl rfl (fun h149 o149 f149 => ?_)
  have s149 := s148.put f149
  refine q_aload_n rfl rfl ?_
  refine s_get (v := .int 7) rfl o149 rfl rfl ?_
  refine q_ireturn rfl rfl ?_
  show aW aiP 249 16 636 54 [(2, .int 0), (0, .ref 191), (1, .int (xs 1))] [.int 7] h149 _
  refine q_ireturn rfl rfl ?_
  show aW aiP 0 17 658 576 [(5, .int 0), (4, .int 0), (3, .ref 233), (2, .ref 191), (1, .ref 6), (0, .ref 0)] [.int 7] h149 _
  refine s_istore (lv' := [(6, .int 7), (5, .int 0), (4, .int 0), (3, .ref 233), (2, .ref 191), (1, .ref 6), (0, .ref 0)]) rfl (by decide) rfl ?_
  refine q_aload_n rfl rfl ?_
  refine s_callV (as := []) (rest := []) (d' := 16) (w' := 638) (lv' := [(0, .ref 191)]) rfl o149 rfl rfl rfl rfl rfl rfl ?_
  refine q_aload_n rfl rfl ?_
  refine s_get (v := .int 0) rfl o149 rfl rfl ?_
  refine q_ireturn rfl rfl ?_
  show aW aiP 0 17 658 582 [(6, .int 7), (5, .int 0), (4, .int 0), (3, .ref 233), (2, .ref 191), (1, .ref 6), (0, .ref 0)] [.int 0] h149 _
  refine q_iload rfl rfl ?_
  refine q_icmp_eq rfl (fun _ => ?_) (fun c => absurd (by decide) c)
  refine q_iload rfl rfl ?_
  refine q_if_ne rfl (fun c => absurd c (by decide)) (fun _ => ?_)
  refine q_aload_n rfl rfl ?_
  refine q_iconst rfl ?_
  have e233_149 := (f149.ne rfl (f148.ne rfl (f147.ne rfl (f146.ne rfl (f145.ne rfl (f144.ne rfl (f143.ne rfl (f142.ne rfl (f141.ne rfl (f140.ne rfl (f139.ne rfl (f138.ne rfl (f137.ne rfl (f136.ne rfl (f135.ne rfl (f134.ne rfl (f133.ne rfl (f132.ne rfl (f131.ne rfl (f130.ne rfl (f129.ne rfl (f128.ne rfl (f127.ne rfl (f126.ne rfl (f125.ne rfl (f124.ne rfl (f123.ne rfl (f122.ne rfl (f121.ne rfl (f120.ne rfl (f119.ne rfl (f118.get (by show ¬ (233 = 218); decide) (f117.get (by show ¬ (233 = 219 ∨ 233 = 220); decide) (f116.get (by show ¬ (233 = 216 ∨ 233 = 217); decide) (f115.ne rfl (f114.ne rfl (f113.ne rfl (f112.ne rfl (f111.ne rfl (f110.ne rfl (f109.ne rfl (f108.ne rfl (f107.ne rfl (f106.ne rfl (f105.ne rfl (f104.ne rfl (f103.ne rfl (f102.ne rfl (f101.ne rfl (f100.ne rfl (f99.ne rfl (f98.ne rfl (f97.ne rfl (f96.ne rfl (f95.ne rfl (f94.ne rfl (f93.ne rfl o92)))))))))))))))))))))))))))))))))))))))))))))))))))))))))
  refine s_laload (j := 0) (v := .long 7) rfl e233_149 (by decide) rfl (by first | rfl | decide) ?_
  refine q_iload rfl rfl ?_
  refine s_i2l (k := 7) rfl (by decide) ?_
  refine s_lcmp (k := 0) rfl (by decide) ?_
  refine q_if_eq rfl (fun _ => ?_) (fun c => absurd (by decide) c)
  refine q_goto rfl ?_
  refine s_iinc (y := 6) (lv' := [(4, .int 6), (6, .int 7), (5, .int 0), (3, .ref 233), (2, .ref 191), (1, .ref 6), (0, .ref 0)]) rfl rfl (by decide) (by decide) rfl ?_
  refine q_goto rfl ?_
  refine q_iload rfl rfl ?_
  refine q_aload_n rfl rfl ?_
  have e0_149 := (f149.ne rfl (f148.ne rfl (f147.ne rfl (f146.ne rfl (f145.ne rfl (f144.ne rfl (f143.ne rfl (f142.ne rfl (f141.ne rfl (f140.ne rfl (f139.ne rfl (f138.ne rfl (f137.ne rfl (f136.ne rfl (f135.ne rfl (f134.ne rfl (f133.ne rfl (f132.ne rfl (f131.ne rfl (f130.ne rfl (f129.ne rfl (f128.ne rfl (f127.ne rfl (f126.ne rfl (f125.ne rfl (f124.ne rfl (f123.ne rfl (f122.ne rfl (f121.ne rfl (f120.ne rfl (f119.ne rfl (f118.get (by show ¬ (0 = 218); decide) (f117.get (by show ¬ (0 = 219 ∨ 0 = 220); decide) (f116.get (by show ¬ (0 = 216 ∨ 0 = 217); decide) (f115.ne rfl (f114.ne rfl (f113.ne rfl (f112.ne rfl (f111.ne rfl (f110.ne rfl (f109.ne rfl (f108.ne rfl (f107.ne rfl (f106.ne rfl (f105.ne rfl (f104.ne rfl (f103.ne rfl (f102.ne rfl (f101.ne rfl (f100.ne rfl (f99.ne rfl (f98.ne rfl (f97.ne rfl (f96.ne rfl (f95.ne rfl (f94.ne rfl (f93.ne rfl e0_92)))))))))))))))))))))))))))))))))))))))))))))))))))))))))
  refine s_alen (x := 6) rfl e0_149 rfl (by decide) ?_
  refine q_bipush rfl ?_
  refine s_isub (k := 0) rfl (by decide) ?_
  refine q_icmp_gt rfl (fun _ => ?_) (fun c => absurd (by decide) c)
  refine q_iconst rfl ?_
  refine q_ireturn rfl rfl ?_
  exact ⟨rfl, s149.bd rfl⟩
