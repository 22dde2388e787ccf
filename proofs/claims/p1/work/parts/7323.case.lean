/-! case 23 of the law; made by wip/tools/p1.py -/
set_option maxRecDepth 20000 in
set_option maxHeartbeats 4000000 in
theorem p_case23 {xs : Nat → Int32} {h : ai_H} (F : Fresh 6 xs h) (hk : xs 0 &&& 31 = 23) : aW aiP 0 17 658 33 [(4, .int 0), (3, .ref 233), (2, .ref 191), (1, .ref 6), (0, .ref 0)] [] h p_Q := by
  have s0 := F.2.2.2.2.2.2.2.2.2.2.2.2.2.2.2.2.2.2.2.2.2.2.2.2.2.2.2.2.2.2.2.2.2.2.2.2.2.2.2.2.2.2.2.2.2.2.2.2.2.2.2.2.2.2.2.2.2.2.2.2.2.2.2.2.2.2.2.2.2.2
  refine q_aload_n rfl rfl ?_
  refine q_iload rfl rfl ?_
  have e0 := F.1
  refine s_iaload (j := 0) (v := .int (xs 0)) rfl e0 (by decide) rfl (by first | rfl | decide) ?_
  refine q_bipush rfl ?_
  refine s_iand (k := ((xs 0) &&& (31 : Int32))) rfl rfl ?_
  rw [hk]
  show aW aiP 0 17 658 40 [(4, .int 0), (3, .ref 233), (2, .ref 191), (1, .ref 6), (0, .ref 0)] [.int 23] h _
  refine s_sw (tg := 1192) rfl rfl ?_
  refine q_aload_n rfl rfl ?_
  refine q_aload_n rfl rfl ?_
  refine q_iload rfl rfl ?_
  refine q_iconst rfl ?_
  refine s_iadd (k := 1) rfl (by decide) ?_
  refine s_iaload (j := 1) (v := .int (xs 1)) rfl e0 (by decide) rfl (by first | rfl | decide) ?_
  refine q_aload_n rfl rfl ?_
  refine q_iload rfl rfl ?_
  refine q_iconst rfl ?_
  refine s_iadd (k := 2) rfl (by decide) ?_
  refine s_iaload (j := 2) (v := .int (xs 2)) rfl e0 (by decide) rfl (by first | rfl | decide) ?_
  have e6 := F.2.2.2.2.2.2.1
  refine s_callV (as := [.int (xs 1), .int (xs 2)]) (rest := []) (d' := 16) (w' := 636) (lv' := [(0, .ref 6), (1, .int (xs 1)), (2, .int (xs 2))]) rfl e6 rfl rfl rfl rfl rfl rfl ?_
  refine q_aload_n rfl rfl ?_
  refine s_get (v := .ref 177) rfl e6 rfl rfl ?_
  refine q_iload_n rfl rfl ?_
  refine q_iload_n rfl rfl ?_
  have e177 := F.2.2.2.2.2.2.2.2.2.2.2.2.2.1
  refine s_callV (as := [.int (xs 1), .int (xs 2)]) (rest := []) (d' := 15) (w' := 612) (lv' := [(0, .ref 177), (1, .int (xs 1)), (2, .int (xs 2))]) rfl e177 rfl rfl rfl rfl rfl rfl ?_
  refine q_aload_n rfl rfl ?_
  refine q_iload_n rfl rfl ?_
  refine s_callV (as := [.int (xs 1)]) (rest := []) (d' := 14) (w' := 590) (lv' := [(0, .ref 177), (1, .int (xs 1))]) rfl e177 rfl rfl rfl rfl rfl rfl ?_
  refine q_iload_n rfl rfl ?_
  refine q_if_ge rfl (fun c1 => ?_) (fun c1 => ?_)
  · refine q_aload_n rfl rfl ?_
    refine q_iconst rfl ?_
    refine q_aload_n rfl rfl ?_
    refine q_iconst rfl ?_
    refine s_callV (as := [.int 5]) (rest := [.int 5, .ref 177]) (d' := 13) (w' := 567) (lv' := [(0, .ref 177), (1, .int 5)]) rfl e177 rfl rfl rfl rfl rfl rfl ?_
    refine q_iconst rfl ?_
    refine s_istore_n (lv' := [(2, .int 0), (0, .ref 177), (1, .int 5)]) rfl (by decide) rfl ?_
    refine q_iconst rfl ?_
    refine s_istore_n (lv' := [(3, .int 0), (2, .int 0), (0, .ref 177), (1, .int 5)]) rfl (by decide) rfl ?_
    refine q_iload_n rfl rfl ?_
    refine q_iload_n rfl rfl ?_
    refine q_icmp_ge rfl (fun c => absurd c (by decide)) (fun _ => ?_)
    refine q_iload_n rfl rfl ?_
    refine q_bipush rfl ?_
    refine q_icmp_ge rfl (fun c => absurd c (by decide)) (fun _ => ?_)
    refine q_iload_n rfl rfl ?_
    refine q_aload_n rfl rfl ?_
    refine s_get (v := .ref 179) rfl e177 rfl rfl ?_
    refine q_iload_n rfl rfl ?_
    have e179 := F.2.2.2.2.2.2.2.2.2.2.2.2.2.2.2.1
    refine s_iaload (j := 0) (v := .int 0) rfl e179 (by decide) rfl (by first | rfl | decide) ?_
    refine s_iadd (k := 0) rfl (by decide) ?_
    refine s_istore_n (lv' := [(2, .int 0), (3, .int 0), (0, .ref 177), (1, .int 5)]) rfl (by decide) rfl ?_
    refine s_iinc (y := 1) (lv' := [(3, .int 1), (2, .int 0), (0, .ref 177), (1, .int 5)]) rfl rfl (by decide) (by decide) rfl ?_
    refine q_goto rfl ?_
    refine q_iload_n rfl rfl ?_
    refine q_iload_n rfl rfl ?_
    refine q_icmp_ge rfl (fun c => absurd c (by decide)) (fun _ => ?_)
    refine q_iload_n rfl rfl ?_
    refine q_bipush rfl ?_
    refine q_icmp_ge rfl (fun c => absurd c (by decide)) (fun _ => ?_)
    refine q_iload_n rfl rfl ?_
    refine q_aload_n rfl rfl ?_
    refine s_get (v := .ref 179) rfl e177 rfl rfl ?_
    refine q_iload_n rfl rfl ?_
    refine s_iaload (j := 1) (v := .int 0) rfl e179 (by decide) rfl (by first | rfl | decide) ?_
    refine s_iadd (k := 0) rfl (by decide) ?_
    refine s_istore_n (lv' := [(2, .int 0), (3, .int 1), (0, .ref 177), (1, .int 5)]) rfl (by decide) rfl ?_
    refine s_iinc (y := 2) (lv' := [(3, .int 2), (2, .int 0), (0, .ref 177), (1, .int 5)]) rfl rfl (by decide) (by decide) rfl ?_
    refine q_goto rfl ?_
    refine q_iload_n rfl rfl ?_
    refine q_iload_n rfl rfl ?_
    refine q_icmp_ge rfl (fun c => absurd c (by decide)) (fun _ => ?_)
    refine q_iload_n rfl rfl ?_
    refine q_bipush rfl ?_
    refine q_icmp_ge rfl (fun c => absurd c (by decide)) (fun _ => ?_)
    refine q_iload_n rfl rfl ?_
    refine q_aload_n rfl rfl ?_
    refine s_get (v := .ref 179) rfl e177 rfl rfl ?_
    refine q_iload_n rfl rfl ?_
    refine s_iaload (j := 2) (v := .int 0) rfl e179 (by decide) rfl (by first | rfl | decide) ?_
    refine s_iadd (k := 0) rfl (by decide) ?_
    refine s_istore_n (lv' := [(2, .int 0), (3, .int 2), (0, .ref 177), (1, .int 5)]) rfl (by decide) rfl ?_
    refine s_iinc (y := 3) (lv' := [(3, .int 3), (2, .int 0), (0, .ref 177), (1, .int 5)]) rfl rfl (by decide) (by decide) rfl ?_
    refine q_goto rfl ?_
    refine q_iload_n rfl rfl ?_
    refine q_iload_n rfl rfl ?_
    refine q_icmp_ge rfl (fun c => absurd c (by decide)) (fun _ => ?_)
    refine q_iload_n rfl rfl ?_
    refine q_bipush rfl ?_
    refine q_icmp_ge rfl (fun c => absurd c (by decide)) (fun _ => ?_)
    refine q_iload_n rfl rfl ?_
    refine q_aload_n rfl rfl ?_
    refine s_get (v := .ref 179) rfl e177 rfl rfl ?_
    refine q_iload_n rfl rfl ?_
    refine s_iaload (j := 3) (v := .int 0) rfl e179 (by decide) rfl (by first | rfl | decide) ?_
    refine s_iadd (k := 0) rfl (by decide) ?_
    refine s_istore_n (lv' := [(2, .int 0), (3, .int 3), (0, .ref 177), (1, .int 5)]) rfl (by decide) rfl ?_
    refine s_iinc (y := 4) (lv' := [(3, .int 4), (2, .int 0), (0, .ref 177), (1, .int 5)]) rfl rfl (by decide) (by decide) rfl ?_
    refine q_goto rfl ?_
    refine q_iload_n rfl rfl ?_
    refine q_iload_n rfl rfl ?_
    refine q_icmp_ge rfl (fun c => absurd c (by decide)) (fun _ => ?_)
    refine q_iload_n rfl rfl ?_
    refine q_bipush rfl ?_
    refine q_icmp_ge rfl (fun c => absurd c (by decide)) (fun _ => ?_)
    refine q_iload_n rfl rfl ?_
    refine q_aload_n rfl rfl ?_
    refine s_get (v := .ref 179) rfl e177 rfl rfl ?_
    refine q_iload_n rfl rfl ?_
    refine s_iaload (j := 4) (v := .int 0) rfl e179 (by decide) rfl (by first | rfl | decide) ?_
    refine s_iadd (k := 0) rfl (by decide) ?_
    refine s_istore_n (lv' := [(2, .int 0), (3, .int 4), (0, .ref 177), (1, .int 5)]) rfl (by decide) rfl ?_
    refine s_iinc (y := 5) (lv' := [(3, .int 5), (2, .int 0), (0, .ref 177), (1, .int 5)]) rfl rfl (by decide) (by decide) rfl ?_
    refine q_goto rfl ?_
    refine q_iload_n rfl rfl ?_
    refine q_iload_n rfl rfl ?_
    refine q_icmp_ge rfl (fun _ => ?_) (fun c => absurd (by decide) c)
    refine q_iload_n rfl rfl ?_
    refine q_ireturn rfl rfl ?_
    show aW aiP 47 14 590 15 [(0, .ref 177), (1, .int (xs 1))] [.int 0, .int 5, .ref 177] h _
    refine q_iload_n rfl rfl ?_
    refine s_iadd (k := ((0 : Int32) + (xs 1))) rfl rfl ?_
    refine s_callV (as := [.int 5, .int ((0 : Int32) + (xs 1))]) (rest := []) (d' := 13) (w' := 567) (lv' := [(0, .ref 177), (1, .int 5), (2, .int ((0 : Int32) + (xs 1)))]) rfl e177 rfl rfl rfl rfl rfl rfl ?_
    refine q_iload_n rfl rfl ?_
    refine q_if_lt rfl (fun c2 => ?_) (fun c2 => ?_)
    · refine q_null rfl ?_
      refine q_areturn rfl rfl rfl ?_
      show aW aiP 47 14 590 20 [(0, .ref 177), (1, .int (xs 1))] [.null] h _
      refine s_astore_nN (lv' := [(2, .null), (0, .ref 177), (1, .int (xs 1))]) rfl (by decide) rfl ?_
      refine q_aload_nN rfl rfl ?_
      refine q_ifnonnullN rfl ?_
      refine q_iconst rfl ?_
      refine q_goto rfl ?_
      refine q_ireturn rfl rfl ?_
      show aW aiP 46 15 612 5 [(0, .ref 177), (1, .int (xs 1)), (2, .int (xs 2))] [.int (-1)] h _
      refine s_istore_n (lv' := [(3, .int (-1)), (0, .ref 177), (1, .int (xs 1)), (2, .int (xs 2))]) rfl (by decide) rfl ?_
      refine q_iload_n rfl rfl ?_
      refine q_iconst rfl ?_
      refine q_icmp_ne rfl (fun c => absurd c (by decide)) (fun _ => ?_)
      refine q_null rfl ?_
      refine q_goto rfl ?_
      refine s_astoreN (lv' := [(4, .null), (3, .int (-1)), (0, .ref 177), (1, .int (xs 1)), (2, .int (xs 2))]) rfl (by decide) rfl ?_
      refine q_aloadN rfl rfl ?_
      refine q_ifnullN rfl ?_
      refine q_iconst rfl ?_
      refine q_ireturn rfl rfl ?_
      show aW aiP 45 16 636 9 [(0, .ref 6), (1, .int (xs 1)), (2, .int (xs 2))] [.int (-1)] h _
      refine q_ireturn rfl rfl ?_
      show aW aiP 0 17 658 1208 [(4, .int 0), (3, .ref 233), (2, .ref 191), (1, .ref 6), (0, .ref 0)] [.int (-1)] h _
      refine q_aload_n rfl rfl ?_
      refine q_aload_n rfl rfl ?_
      refine q_iload rfl rfl ?_
      refine q_iconst rfl ?_
      refine s_iadd (k := 1) rfl (by decide) ?_
      refine s_iaload (j := 1) (v := .int (xs 1)) rfl e0 (by decide) rfl (by first | rfl | decide) ?_
      refine q_aload_n rfl rfl ?_
      refine q_iload rfl rfl ?_
      refine q_iconst rfl ?_
      refine s_iadd (k := 2) rfl (by decide) ?_
      refine s_iaload (j := 2) (v := .int (xs 2)) rfl e0 (by decide) rfl (by first | rfl | decide) ?_
      have e191 := F.2.2.2.2.2.2.2.2.2.2.2.2.2.2.2.2.2.2.2.2.2.2.2.2.2.2.2.1
      refine s_callV (as := [.int (xs 1), .int (xs 2)]) (rest := [.int (-1)]) (d' := 16) (w' := 635) (lv' := [(0, .ref 191), (1, .int (xs 1)), (2, .int (xs 2))]) rfl e191 rfl rfl rfl rfl rfl rfl ?_
      refine q_aload_n rfl rfl ?_
      refine q_iconst rfl ?_
      refine s_put (vs' := [.int 0, .ref 192, .ref 193, .int 0, .ref 194, .ref 195, .ref 196, .ref 197, .ref 198, .ref 199, .ref 200, .ref 201, .ref 202, .ref 203, .ref 204, .ref 205, .int (-1), .int 0, .ref 206, .ref 207, .ref 208, .ref 209, .ref 210, .ref 211, .ref 212, .ref 213, .ref 214, .ref 215, .int 0, .int 0, .int 0, .int 0, .ref 216, .ref 217, .ref 218, .ref 219, .ref 220, .int (-1), .int 0, .int 0, .int 0, .int 0, .int 0, .int 0, .ref 221, .ref 222, .ref 223, .ref 224, .int 0, .ref 225, .int 0, .ref 226, .ref 227, .int 0, .ref 228, .ref 229, .ref 230, .ref 231, .ref 232]) rfl e191 rfl rfl rfl rfl (fun h1 o1 f1 => ?_)
      have s1 := s0.put f1
      refine q_iload_n rfl rfl ?_
      refine q_if_ge rfl (fun _ => ?_) (fun c => absurd c1 c)
      refine q_aload_n rfl rfl ?_
      refine q_iload_n rfl rfl ?_
      refine s_callV (as := [.int (xs 1)]) (rest := []) (d' := 15) (w' := 612) (lv' := [(0, .ref 191), (1, .int (xs 1))]) rfl o1 rfl rfl rfl rfl rfl rfl ?_
      refine q_iload_n rfl rfl ?_
      refine s_istore_n (lv' := [(2, .int (xs 1)), (0, .ref 191), (1, .int (xs 1))]) rfl (by decide) rfl ?_
      refine q_iconst rfl ?_
      refine s_istore_n (lv' := [(3, .int 0), (2, .int (xs 1)), (0, .ref 191), (1, .int (xs 1))]) rfl (by decide) rfl ?_
      refine q_iload_n rfl rfl ?_
      refine q_aload_n rfl rfl ?_
      refine s_get (v := .int 0) rfl o1 rfl rfl ?_
      refine q_icmp_ge rfl (fun _ => ?_) (fun c => absurd (by decide) c)
      refine q_iconst rfl ?_
      refine q_ireturn rfl rfl ?_
      show aW aiP 291 16 635 18 [(0, .ref 191), (1, .int (xs 1)), (2, .int (xs 2))] [.int (-1)] h1 _
      refine s_istore_n (lv' := [(3, .int (-1)), (0, .ref 191), (1, .int (xs 1)), (2, .int (xs 2))]) rfl (by decide) rfl ?_
      refine q_iload_n rfl rfl ?_
      refine q_if_lt rfl (fun _ => ?_) (fun c => absurd (by decide) c)
      refine q_iconst rfl ?_
      refine q_goto rfl ?_
      refine q_ireturn rfl rfl ?_
      show aW aiP 0 17 658 1224 [(4, .int 0), (3, .ref 233), (2, .ref 191), (1, .ref 6), (0, .ref 0)] [.int (-1), .int (-1)] h1 _
      refine q_icmp_eq rfl (fun _ => ?_) (fun c => absurd (by decide) c)
      refine s_iinc (y := 6) (lv' := [(4, .int 6), (3, .ref 233), (2, .ref 191), (1, .ref 6), (0, .ref 0)]) rfl rfl (by decide) (by decide) rfl ?_
      refine q_goto rfl ?_
      refine q_iload rfl rfl ?_
      refine q_aload_n rfl rfl ?_
      have e0_1 := (f1.ne rfl e0)
      refine s_alen (x := 6) rfl e0_1 rfl (by decide) ?_
      refine q_bipush rfl ?_
      refine s_isub (k := 0) rfl (by decide) ?_
      refine q_icmp_gt rfl (fun _ => ?_) (fun c => absurd (by decide) c)
      refine q_iconst rfl ?_
      refine q_ireturn rfl rfl ?_
      exact ⟨rfl, s1.bd rfl⟩
    · refine q_iload_n rfl rfl ?_
      refine q_aload_n rfl rfl ?_
      refine s_get (v := .ref 178) rfl e177 rfl rfl ?_
      have e178 := F.2.2.2.2.2.2.2.2.2.2.2.2.2.2.1
      refine s_callV (as := []) (rest := [.int ((0 : Int32) + (xs 1))]) (d' := 12) (w' := 547) (lv' := [(0, .ref 178)]) rfl e178 rfl rfl rfl rfl rfl rfl ?_
      refine q_aload_n rfl rfl ?_
      refine s_get (v := .int 0) rfl e178 rfl rfl ?_
      refine q_ireturn rfl rfl ?_
      show aW aiP 49 13 567 12 [(0, .ref 177), (1, .int 5), (2, .int ((0 : Int32) + (xs 1)))] [.int 0, .int ((0 : Int32) + (xs 1))] h _
      refine q_icmp_lt rfl (fun c => absurd c c2) (fun _ => ?_)
      refine q_null rfl ?_
      refine q_areturn rfl rfl rfl ?_
      show aW aiP 47 14 590 20 [(0, .ref 177), (1, .int (xs 1))] [.null] h _
      refine s_astore_nN (lv' := [(2, .null), (0, .ref 177), (1, .int (xs 1))]) rfl (by decide) rfl ?_
      refine q_aload_nN rfl rfl ?_
      refine q_ifnonnullN rfl ?_
      refine q_iconst rfl ?_
      refine q_goto rfl ?_
      refine q_ireturn rfl rfl ?_
      show aW aiP 46 15 612 5 [(0, .ref 177), (1, .int (xs 1)), (2, .int (xs 2))] [.int (-1)] h _
      refine s_istore_n (lv' := [(3, .int (-1)), (0, .ref 177), (1, .int (xs 1)), (2, .int (xs 2))]) rfl (by decide) rfl ?_
      refine q_iload_n rfl rfl ?_
      refine q_iconst rfl ?_
      refine q_icmp_ne rfl (fun c => absurd c (by decide)) (fun _ => ?_)
      refine q_null rfl ?_
      refine q_goto rfl ?_
      refine s_astoreN (lv' := [(4, .null), (3, .int (-1)), (0, .ref 177), (1, .int (xs 1)), (2, .int (xs 2))]) rfl (by decide) rfl ?_
      refine q_aloadN rfl rfl ?_
      refine q_ifnullN rfl ?_
      refine q_iconst rfl ?_
      refine q_ireturn rfl rfl ?_
      show aW aiP 45 16 636 9 [(0, .ref 6), (1, .int (xs 1)), (2, .int (xs 2))] [.int (-1)] h _
      refine q_ireturn rfl rfl ?_
      show aW aiP 0 17 658 1208 [(4, .int 0), (3, .ref 233), (2, .ref 191), (1, .ref 6), (0, .ref 0)] [.int (-1)] h _
      refine q_aload_n rfl rfl ?_
      refine q_aload_n rfl rfl ?_
      refine q_iload rfl rfl ?_
      refine q_iconst rfl ?_
      refine s_iadd (k := 1) rfl (by decide) ?_
      refine s_iaload (j := 1) (v := .int (xs 1)) rfl e0 (by decide) rfl (by first | rfl | decide) ?_
      refine q_aload_n rfl rfl ?_
      refine q_iload rfl rfl ?_
      refine q_iconst rfl ?_
      refine s_iadd (k := 2) rfl (by decide) ?_
      refine s_iaload (j := 2) (v := .int (xs 2)) rfl e0 (by decide) rfl (by first | rfl | decide) ?_
      have e191 := F.2.2.2.2.2.2.2.2.2.2.2.2.2.2.2.2.2.2.2.2.2.2.2.2.2.2.2.1
      refine s_callV (as := [.int (xs 1), .int (xs 2)]) (rest := [.int (-1)]) (d' := 16) (w' := 635) (lv' := [(0, .ref 191), (1, .int (xs 1)), (2, .int (xs 2))]) rfl e191 rfl rfl rfl rfl rfl rfl ?_
      refine q_aload_n rfl rfl ?_
      refine q_iconst rfl ?_
      refine s_put (vs' := [.int 0, .ref 192, .ref 193, .int 0, .ref 194, .ref 195, .ref 196, .ref 197, .ref 198, .ref 199, .ref 200, .ref 201, .ref 202, .ref 203, .ref 204, .ref 205, .int (-1), .int 0, .ref 206, .ref 207, .ref 208, .ref 209, .ref 210, .ref 211, .ref 212, .ref 213, .ref 214, .ref 215, .int 0, .int 0, .int 0, .int 0, .ref 216, .ref 217, .ref 218, .ref 219, .ref 220, .int (-1), .int 0, .int 0, .int 0, .int 0, .int 0, .int 0, .ref 221, .ref 222, .ref 223, .ref 224, .int 0, .ref 225, .int 0, .ref 226, .ref 227, .int 0, .ref 228, .ref 229, .ref 230, .ref 231, .ref 232]) rfl e191 rfl rfl rfl rfl (fun h1 o1 f1 => ?_)
      have s1 := s0.put f1
      refine q_iload_n rfl rfl ?_
      refine q_if_ge rfl (fun _ => ?_) (fun c => absurd c1 c)
      refine q_aload_n rfl rfl ?_
      refine q_iload_n rfl rfl ?_
      refine s_callV (as := [.int (xs 1)]) (rest := []) (d' := 15) (w' := 612) (lv' := [(0, .ref 191), (1, .int (xs 1))]) rfl o1 rfl rfl rfl rfl rfl rfl ?_
      refine q_iload_n rfl rfl ?_
      refine s_istore_n (lv' := [(2, .int (xs 1)), (0, .ref 191), (1, .int (xs 1))]) rfl (by decide) rfl ?_
      refine q_iconst rfl ?_
      refine s_istore_n (lv' := [(3, .int 0), (2, .int (xs 1)), (0, .ref 191), (1, .int (xs 1))]) rfl (by decide) rfl ?_
      refine q_iload_n rfl rfl ?_
      refine q_aload_n rfl rfl ?_
      refine s_get (v := .int 0) rfl o1 rfl rfl ?_
      refine q_icmp_ge rfl (fun _ => ?_) (fun c => absurd (by decide) c)
      refine q_iconst rfl ?_
      refine q_ireturn rfl rfl ?_
      show aW aiP 291 16 635 18 [(0, .ref 191), (1, .int (xs 1)), (2, .int (xs 2))] [.int (-1)] h1 _
      refine s_istore_n (lv' := [(3, .int (-1)), (0, .ref 191), (1, .int (xs 1)), (2, .int (xs 2))]) rfl (by decide) rfl ?_
      refine q_iload_n rfl rfl ?_
      refine q_if_lt rfl (fun _ => ?_) (fun c => absurd (by decide) c)
      refine q_iconst rfl ?_
      refine q_goto rfl ?_
      refine q_ireturn rfl rfl ?_
      show aW aiP 0 17 658 1224 [(4, .int 0), (3, .ref 233), (2, .ref 191), (1, .ref 6), (0, .ref 0)] [.int (-1), .int (-1)] h1 _
      refine q_icmp_eq rfl (fun _ => ?_) (fun c => absurd (by decide) c)
      refine s_iinc (y := 6) (lv' := [(4, .int 6), (3, .ref 233), (2, .ref 191), (1, .ref 6), (0, .ref 0)]) rfl rfl (by decide) (by decide) rfl ?_
      refine q_goto rfl ?_
      refine q_iload rfl rfl ?_
      refine q_aload_n rfl rfl ?_
      have e0_1 := (f1.ne rfl e0)
      refine s_alen (x := 6) rfl e0_1 rfl (by decide) ?_
      refine q_bipush rfl ?_
      refine s_isub (k := 0) rfl (by decide) ?_
      refine q_icmp_gt rfl (fun _ => ?_) (fun c => absurd (by decide) c)
      refine q_iconst rfl ?_
      refine q_ireturn rfl rfl ?_
      exact ⟨rfl, s1.bd rfl⟩
  · refine q_null rfl ?_
    refine q_goto rfl ?_
    refine s_astore_nN (lv' := [(2, .null), (0, .ref 177), (1, .int (xs 1))]) rfl (by decide) rfl ?_
    refine q_aload_nN rfl rfl ?_
    refine q_ifnonnullN rfl ?_
    refine q_iconst rfl ?_
    refine q_goto rfl ?_
    refine q_ireturn rfl rfl ?_
    show aW aiP 46 15 612 5 [(0, .ref 177), (1, .int (xs 1)), (2, .int (xs 2))] [.int (-1)] h _
    refine s_istore_n (lv' := [(3, .int (-1)), (0, .ref 177), (1, .int (xs 1)), (2, .int (xs 2))]) rfl (by decide) rfl ?_
    refine q_iload_n rfl rfl ?_
    refine q_iconst rfl ?_
    refine q_icmp_ne rfl (fun c => absurd c (by decide)) (fun _ => ?_)
    refine q_null rfl ?_
    refine q_goto rfl ?_
    refine s_astoreN (lv' := [(4, .null), (3, .int (-1)), (0, .ref 177), (1, .int (xs 1)), (2, .int (xs 2))]) rfl (by decide) rfl ?_
    refine q_aloadN rfl rfl ?_
    refine q_ifnullN rfl ?_
    refine q_iconst rfl ?_
    refine q_ireturn rfl rfl ?_
    show aW aiP 45 16 636 9 [(0, .ref 6), (1, .int (xs 1)), (2, .int (xs 2))] [.int (-1)] h _
    refine q_ireturn rfl rfl ?_
    show aW aiP 0 17 658 1208 [(4, .int 0), (3, .ref 233), (2, .ref 191), (1, .ref 6), (0, .ref 0)] [.int (-1)] h _
    refine q_aload_n rfl rfl ?_
    refine q_aload_n rfl rfl ?_
    refine q_iload rfl rfl ?_
    refine q_iconst rfl ?_
    refine s_iadd (k := 1) rfl (by decide) ?_
    refine s_iaload (j := 1) (v := .int (xs 1)) rfl e0 (by decide) rfl (by first | rfl | decide) ?_
    refine q_aload_n rfl rfl ?_
    refine q_iload rfl rfl ?_
    refine q_iconst rfl ?_
    refine s_iadd (k := 2) rfl (by decide) ?_
    refine s_iaload (j := 2) (v := .int (xs 2)) rfl e0 (by decide) rfl (by first | rfl | decide) ?_
    have e191 := F.2.2.2.2.2.2.2.2.2.2.2.2.2.2.2.2.2.2.2.2.2.2.2.2.2.2.2.1
    refine s_callV (as := [.int (xs 1), .int (xs 2)]) (rest := [.int (-1)]) (d' := 16) (w' := 635) (lv' := [(0, .ref 191), (1, .int (xs 1)), (2, .int (xs 2))]) rfl e191 rfl rfl rfl rfl rfl rfl ?_
    refine q_aload_n rfl rfl ?_
    refine q_iconst rfl ?_
    refine s_put (vs' := [.int 0, .ref 192, .ref 193, .int 0, .ref 194, .ref 195, .ref 196, .ref 197, .ref 198, .ref 199, .ref 200, .ref 201, .ref 202, .ref 203, .ref 204, .ref 205, .int (-1), .int 0, .ref 206, .ref 207, .ref 208, .ref 209, .ref 210, .ref 211, .ref 212, .ref 213, .ref 214, .ref 215, .int 0, .int 0, .int 0, .int 0, .ref 216, .ref 217, .ref 218, .ref 219, .ref 220, .int (-1), .int 0, .int 0, .int 0, .int 0, .int 0, .int 0, .ref 221, .ref 222, .ref 223, .ref 224, .int 0, .ref 225, .int 0, .ref 226, .ref 227, .int 0, .ref 228, .ref 229, .ref 230, .ref 231, .ref 232]) rfl e191 rfl rfl rfl rfl (fun h1 o1 f1 => ?_)
    have s1 := s0.put f1
    refine q_iload_n rfl rfl ?_
    refine q_if_ge rfl (fun c => absurd c c1) (fun _ => ?_)
    refine q_iconst rfl ?_
    refine q_goto rfl ?_
    refine s_istore_n (lv' := [(3, .int (-1)), (0, .ref 191), (1, .int (xs 1)), (2, .int (xs 2))]) rfl (by decide) rfl ?_
    refine q_iload_n rfl rfl ?_
    refine q_if_lt rfl (fun _ => ?_) (fun c => absurd (by decide) c)
    refine q_iconst rfl ?_
    refine q_goto rfl ?_
    refine q_ireturn rfl rfl ?_
    show aW aiP 0 17 658 1224 [(4, .int 0), (3, .ref 233), (2, .ref 191), (1, .ref 6), (0, .ref 0)] [.int (-1), .int (-1)] h1 _
    refine q_icmp_eq rfl (fun _ => ?_) (fun c => absurd (by decide) c)
    refine s_iinc (y := 6) (lv' := [(4, .int 6), (3, .ref 233), (2, .ref 191), (1, .ref 6), (0, .ref 0)]) rfl rfl (by decide) (by decide) rfl ?_
    refine q_goto rfl ?_
    refine q_iload rfl rfl ?_
    refine q_aload_n rfl rfl ?_
    have e0_1 := (f1.ne rfl e0)
    refine s_alen (x := 6) rfl e0_1 rfl (by decide) ?_
    refine q_bipush rfl ?_
    refine s_isub (k := 0) rfl (by decide) ?_
    refine q_icmp_gt rfl (fun _ => ?_) (fun c => absurd (by decide) c)
    refine q_iconst rfl ?_
    refine q_ireturn rfl rfl ?_
    exact ⟨rfl, s1.bd rfl⟩
