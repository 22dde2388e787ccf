/-! case 15 of the law; made by wip/tools/p1.py -/
set_option maxRecDepth 20000 in
set_option maxHeartbeats 4000000 in
theorem p_case15 {xs : Nat → Int32} {h : ai_H} (F : Fresh 6 xs h) (hk : xs 0 &&& 31 = 15) : aW aiP 0 17 658 33 [(4, .int 0), (3, .ref 233), (2, .ref 191), (1, .ref 6), (0, .ref 0)] [] h p_Q := by
  have s0 := F.2.2.2.2.2.2.2.2.2.2.2.2.2.2.2.2.2.2.2.2.2.2.2.2.2.2.2.2.2.2.2.2.2.2.2.2.2.2.2.2.2.2.2.2.2.2.2.2.2.2.2.2.2.2.2.2.2.2.2.2.2.2.2.2.2.2.2.2.2.2
  refine q_aload_n rfl rfl ?_
  refine q_iload rfl rfl ?_
  have e0 := F.1
  refine s_iaload (j := 0) (v := .int (xs 0)) rfl e0 (by decide) rfl (by first | rfl | decide) ?_
  refine q_bipush rfl ?_
  refine s_iand (k := ((xs 0) &&& (31 : Int32))) rfl rfl ?_
  rw [hk]
  show aW aiP 0 17 658 40 [(4, .int 0), (3, .ref 233), (2, .ref 191), (1, .ref 6), (0, .ref 0)] [.int 15] h _
  refine s_sw (tg := 897) rfl rfl ?_
  refine q_aload_n rfl rfl ?_
  refine q_aload_n rfl rfl ?_
  refine q_iload rfl rfl ?_
  refine q_iconst rfl ?_
  refine s_iadd (k := 1) rfl (by decide) ?_
  refine s_iaload (j := 1) (v := .int (xs 1)) rfl e0 (by decide) rfl (by first | rfl | decide) ?_
  refine q_aload_n rfl rfl ?_
  refine q_iload rfl rfl ?_
  refine q_iconst rfl ?_
  refine s_iadd (k := 2) rfl (by decide) ?_
  refine s_iaload (j := 2) (v := .int (xs 2)) rfl e0 (by decide) rfl (by first | rfl | decide) ?_
  refine q_aload_n rfl rfl ?_
  refine q_iload rfl rfl ?_
  refine q_iconst rfl ?_
  refine s_iadd (k := 3) rfl (by decide) ?_
  refine s_iaload (j := 3) (v := .int (xs 3)) rfl e0 (by decide) rfl (by first | rfl | decide) ?_
  have e6 := F.2.2.2.2.2.2.1
  refine s_callV (as := [.int (xs 1), .int (xs 2), .int (xs 3)]) (rest := []) (d' := 16) (w' := 634) (lv' := [(0, .ref 6), (1, .int (xs 1)), (2, .int (xs 2)), (3, .int (xs 3))]) rfl e6 rfl rfl rfl rfl rfl rfl ?_
  refine q_aload_n rfl rfl ?_
  refine q_iload_n rfl rfl ?_
  refine q_iload_n rfl rfl ?_
  refine s_callV (as := [.int (xs 1), .int (xs 2)]) (rest := []) (d' := 15) (w' := 612) (lv' := [(0, .ref 6), (1, .int (xs 1)), (2, .int (xs 2))]) rfl e6 rfl rfl rfl rfl rfl rfl ?_
  refine q_iload_n rfl rfl ?_
  refine q_if_ne rfl (fun c1 => ?_) (fun c1 => ?_)
  · refine q_iload_n rfl rfl ?_
    refine q_iconst rfl ?_
    refine q_icmp_ne rfl (fun c2 => ?_) (fun c2 => ?_)
    · refine q_null rfl ?_
      refine q_areturn rfl rfl rfl ?_
      show aW aiP 26 16 634 6 [(0, .ref 6), (1, .int (xs 1)), (2, .int (xs 2)), (3, .int (xs 3))] [.null] h _
      refine s_astoreN (lv' := [(4, .null), (0, .ref 6), (1, .int (xs 1)), (2, .int (xs 2)), (3, .int (xs 3))]) rfl (by decide) rfl ?_
      refine q_aloadN rfl rfl ?_
      refine q_ifnonnullN rfl ?_
      refine q_iconst rfl ?_
      refine q_ireturn rfl rfl ?_
      show aW aiP 0 17 658 919 [(4, .int 0), (3, .ref 233), (2, .ref 191), (1, .ref 6), (0, .ref 0)] [.int (-1)] h _
      refine q_aload_n rfl rfl ?_
      refine q_aload_n rfl rfl ?_
      refine q_iload rfl rfl ?_
      refine q_iconst rfl ?_
      refine s_iadd (k := 1) rfl (by decide) ?_
      refine s_iaload (j := 1) (v := .int (xs 1)) rfl e0 (by decide) rfl (by first | rfl | decide) ?_
      refine q_aload_n rfl rfl ?_
      refine q_iload rfl rfl ?_
      refine q_iconst rfl ?_
      refine s_iadd (k := 2) rfl (by decide) ?_
      refine s_iaload (j := 2) (v := .int (xs 2)) rfl e0 (by decide) rfl (by first | rfl | decide) ?_
      refine q_aload_n rfl rfl ?_
      refine q_iload rfl rfl ?_
      refine q_iconst rfl ?_
      refine s_iadd (k := 3) rfl (by decide) ?_
      refine s_iaload (j := 3) (v := .int (xs 3)) rfl e0 (by decide) rfl (by first | rfl | decide) ?_
      have e191 := F.2.2.2.2.2.2.2.2.2.2.2.2.2.2.2.2.2.2.2.2.2.2.2.2.2.2.2.1
      refine s_callV (as := [.int (xs 1), .int (xs 2), .int (xs 3)]) (rest := [.int (-1)]) (d' := 16) (w' := 634) (lv' := [(0, .ref 191), (1, .int (xs 1)), (2, .int (xs 2)), (3, .int (xs 3))]) rfl e191 rfl rfl rfl rfl rfl rfl ?_
      refine q_aload_n rfl rfl ?_
      refine q_iconst rfl ?_
      refine s_put (vs' := [.int 0, .ref 192, .ref 193, .int 0, .ref 194, .ref 195, .ref 196, .ref 197, .ref 198, .ref 199, .ref 200, .ref 201, .ref 202, .ref 203, .ref 204, .ref 205, .int (-1), .int 0, .ref 206, .ref 207, .ref 208, .ref 209, .ref 210, .ref 211, .ref 212, .ref 213, .ref 214, .ref 215, .int 0, .int 0, .int 0, .int 0, .ref 216, .ref 217, .ref 218, .ref 219, .ref 220, .int (-1), .int 0, .int 0, .int 0, .int 0, .int 0, .int 0, .ref 221, .ref 222, .ref 223, .ref 224, .int 0, .ref 225, .int 0, .ref 226, .ref 227, .int 0, .ref 228, .ref 229, .ref 230, .ref 231, .ref 232]) rfl e191 rfl rfl rfl rfl (fun h1 o1 f1 => ?_)
      have s1 := s0.put f1
      refine q_aload_n rfl rfl ?_
      refine q_iload_n rfl rfl ?_
      refine q_iload_n rfl rfl ?_
      refine s_callV (as := [.int (xs 1), .int (xs 2)]) (rest := []) (d' := 15) (w' := 611) (lv' := [(0, .ref 191), (1, .int (xs 1)), (2, .int (xs 2))]) rfl o1 rfl rfl rfl rfl rfl rfl ?_
      refine q_iload_n rfl rfl ?_
      refine q_if_ne rfl (fun _ => ?_) (fun c => absurd c1 c)
      refine q_iload_n rfl rfl ?_
      refine q_iconst rfl ?_
      refine q_icmp_ne rfl (fun _ => ?_) (fun c => absurd c2 c)
      refine q_iconst rfl ?_
      refine s_istore_n (lv' := [(3, .int (-1)), (0, .ref 191), (1, .int (xs 1)), (2, .int (xs 2))]) rfl (by decide) rfl ?_
      refine q_iload_n rfl rfl ?_
      refine q_if_lt rfl (fun _ => ?_) (fun c => absurd (by decide) c)
      refine q_iconst rfl ?_
      refine q_goto rfl ?_
      refine q_ireturn rfl rfl ?_
      show aW aiP 281 16 634 11 [(0, .ref 191), (1, .int (xs 1)), (2, .int (xs 2)), (3, .int (xs 3))] [.int (-1)] h1 _
      refine s_istore (lv' := [(4, .int (-1)), (0, .ref 191), (1, .int (xs 1)), (2, .int (xs 2)), (3, .int (xs 3))]) rfl (by decide) rfl ?_
      refine q_iload rfl rfl ?_
      refine q_if_ge rfl (fun c => absurd c (by decide)) (fun _ => ?_)
      refine q_iconst rfl ?_
      refine q_ireturn rfl rfl ?_
      show aW aiP 0 17 658 941 [(4, .int 0), (3, .ref 233), (2, .ref 191), (1, .ref 6), (0, .ref 0)] [.int (-1), .int (-1)] h1 _
      refine q_icmp_eq rfl (fun _ => ?_) (fun c => absurd (by decide) c)
      refine s_iinc (y := 6) (lv' := [(4, .int 6), (3, .ref 233), (2, .ref 191), (1, .ref 6), (0, .ref 0)]) rfl rfl (by decide) (by decide) rfl ?_
      refine q_goto rfl ?_
      refine q_iload rfl rfl ?_
      refine q_aload_n rfl rfl ?_
      have e0_1 := (f1.ne rfl e0)
      refine s_alen (x := 6) rfl e0_1 rfl (by decide) ?_
      refine q_bipush rfl ?_
      refine s_isub (k := 0) rfl (by decide) ?_
      refine q_icmp_gt rfl (fun _ => ?_) (fun c => absurd (by decide) c)
      refine q_iconst rfl ?_
      refine q_ireturn rfl rfl ?_
      exact ⟨rfl, s1.bd rfl⟩
    · refine q_aload_n rfl rfl ?_
      refine s_get (v := .ref 51) rfl e6 rfl rfl ?_
      refine q_iload_n rfl rfl ?_
      have e51 := F.2.2.2.2.2.2.2.2.2.2.1
      refine s_callV (as := [.int (xs 2)]) (rest := []) (d' := 14) (w' := 591) (lv' := [(0, .ref 51), (1, .int (xs 2))]) rfl e51 rfl rfl rfl rfl rfl rfl ?_
      refine q_iload_n rfl rfl ?_
      refine q_if_lt rfl (fun c3 => ?_) (fun c3 => ?_)
      · refine q_null rfl ?_
        refine q_goto rfl ?_
        refine q_areturn rfl rfl rfl ?_
        show aW aiP 27 15 612 28 [(0, .ref 6), (1, .int (xs 1)), (2, .int (xs 2))] [.null] h _
        refine q_goto rfl ?_
        refine q_areturn rfl rfl rfl ?_
        show aW aiP 26 16 634 6 [(0, .ref 6), (1, .int (xs 1)), (2, .int (xs 2)), (3, .int (xs 3))] [.null] h _
        refine s_astoreN (lv' := [(4, .null), (0, .ref 6), (1, .int (xs 1)), (2, .int (xs 2)), (3, .int (xs 3))]) rfl (by decide) rfl ?_
        refine q_aloadN rfl rfl ?_
        refine q_ifnonnullN rfl ?_
        refine q_iconst rfl ?_
        refine q_ireturn rfl rfl ?_
        show aW aiP 0 17 658 919 [(4, .int 0), (3, .ref 233), (2, .ref 191), (1, .ref 6), (0, .ref 0)] [.int (-1)] h _
        refine q_aload_n rfl rfl ?_
        refine q_aload_n rfl rfl ?_
        refine q_iload rfl rfl ?_
        refine q_iconst rfl ?_
        refine s_iadd (k := 1) rfl (by decide) ?_
        refine s_iaload (j := 1) (v := .int (xs 1)) rfl e0 (by decide) rfl (by first | rfl | decide) ?_
        refine q_aload_n rfl rfl ?_
        refine q_iload rfl rfl ?_
        refine q_iconst rfl ?_
        refine s_iadd (k := 2) rfl (by decide) ?_
        refine s_iaload (j := 2) (v := .int (xs 2)) rfl e0 (by decide) rfl (by first | rfl | decide) ?_
        refine q_aload_n rfl rfl ?_
        refine q_iload rfl rfl ?_
        refine q_iconst rfl ?_
        refine s_iadd (k := 3) rfl (by decide) ?_
        refine s_iaload (j := 3) (v := .int (xs 3)) rfl e0 (by decide) rfl (by first | rfl | decide) ?_
        have e191 := F.2.2.2.2.2.2.2.2.2.2.2.2.2.2.2.2.2.2.2.2.2.2.2.2.2.2.2.1
        refine s_callV (as := [.int (xs 1), .int (xs 2), .int (xs 3)]) (rest := [.int (-1)]) (d' := 16) (w' := 634) (lv' := [(0, .ref 191), (1, .int (xs 1)), (2, .int (xs 2)), (3, .int (xs 3))]) rfl e191 rfl rfl rfl rfl rfl rfl ?_
        refine q_aload_n rfl rfl ?_
        refine q_iconst rfl ?_
        refine s_put (vs' := [.int 0, .ref 192, .ref 193, .int 0, .ref 194, .ref 195, .ref 196, .ref 197, .ref 198, .ref 199, .ref 200, .ref 201, .ref 202, .ref 203, .ref 204, .ref 205, .int (-1), .int 0, .ref 206, .ref 207, .ref 208, .ref 209, .ref 210, .ref 211, .ref 212, .ref 213, .ref 214, .ref 215, .int 0, .int 0, .int 0, .int 0, .ref 216, .ref 217, .ref 218, .ref 219, .ref 220, .int (-1), .int 0, .int 0, .int 0, .int 0, .int 0, .int 0, .ref 221, .ref 222, .ref 223, .ref 224, .int 0, .ref 225, .int 0, .ref 226, .ref 227, .int 0, .ref 228, .ref 229, .ref 230, .ref 231, .ref 232]) rfl e191 rfl rfl rfl rfl (fun h1 o1 f1 => ?_)
        have s1 := s0.put f1
        refine q_aload_n rfl rfl ?_
        refine q_iload_n rfl rfl ?_
        refine q_iload_n rfl rfl ?_
        refine s_callV (as := [.int (xs 1), .int (xs 2)]) (rest := []) (d' := 15) (w' := 611) (lv' := [(0, .ref 191), (1, .int (xs 1)), (2, .int (xs 2))]) rfl o1 rfl rfl rfl rfl rfl rfl ?_
        refine q_iload_n rfl rfl ?_
        refine q_if_ne rfl (fun _ => ?_) (fun c => absurd c1 c)
        refine q_iload_n rfl rfl ?_
        refine q_iconst rfl ?_
        refine q_icmp_ne rfl (fun c => absurd c (fun z => z (Decidable.of_not_not c2))) (fun _ => ?_)
        refine q_bipush rfl ?_
        refine q_goto rfl ?_
        refine s_istore_n (lv' := [(3, .int 31), (0, .ref 191), (1, .int (xs 1)), (2, .int (xs 2))]) rfl (by decide) rfl ?_
        refine q_iload_n rfl rfl ?_
        refine q_if_lt rfl (fun c => absurd c (by decide)) (fun _ => ?_)
        refine q_iload_n rfl rfl ?_
        refine q_aload_n rfl rfl ?_
        refine s_get (v := .ref 194) rfl o1 rfl rfl ?_
        refine q_iload_n rfl rfl ?_
        refine q_if_ge rfl (fun _ => ?_) (fun c => absurd (by decide) c)
        refine q_iload_n rfl rfl ?_
        have e194 := F.2.2.2.2.2.2.2.2.2.2.2.2.2.2.2.2.2.2.2.2.2.2.2.2.2.2.2.2.2.2.1
        have e194_1 := (f1.ne rfl e194)
        refine s_iaload (j := 31) (v := .int 0) rfl e194_1 (by decide) rfl (by first | rfl | decide) ?_
        refine s_callS (as := [.int (xs 2), .int 0]) (rest := []) (d' := 14) (w' := 590) (lv' := [(0, .int (xs 2)), (1, .int 0)]) rfl rfl rfl rfl rfl rfl rfl rfl ?_
        refine q_iload_n rfl rfl ?_
        refine q_if_lt rfl (fun _ => ?_) (fun c => absurd c3 c)
        refine q_iconst rfl ?_
        refine q_ireturn rfl rfl ?_
        show aW aiP 282 15 611 43 [(3, .int 31), (0, .ref 191), (1, .int (xs 1)), (2, .int (xs 2))] [.int 0] h1 _
        refine q_if_ne rfl (fun c => absurd c (by decide)) (fun _ => ?_)
        refine q_iconst rfl ?_
        refine q_goto rfl ?_
        refine q_ireturn rfl rfl ?_
        show aW aiP 281 16 634 11 [(0, .ref 191), (1, .int (xs 1)), (2, .int (xs 2)), (3, .int (xs 3))] [.int (-1)] h1 _
        refine s_istore (lv' := [(4, .int (-1)), (0, .ref 191), (1, .int (xs 1)), (2, .int (xs 2)), (3, .int (xs 3))]) rfl (by decide) rfl ?_
        refine q_iload rfl rfl ?_
        refine q_if_ge rfl (fun c => absurd c (by decide)) (fun _ => ?_)
        refine q_iconst rfl ?_
        refine q_ireturn rfl rfl ?_
        show aW aiP 0 17 658 941 [(4, .int 0), (3, .ref 233), (2, .ref 191), (1, .ref 6), (0, .ref 0)] [.int (-1), .int (-1)] h1 _
        refine q_icmp_eq rfl (fun _ => ?_) (fun c => absurd (by decide) c)
        refine s_iinc (y := 6) (lv' := [(4, .int 6), (3, .ref 233), (2, .ref 191), (1, .ref 6), (0, .ref 0)]) rfl rfl (by decide) (by decide) rfl ?_
        refine q_goto rfl ?_
        refine q_iload rfl rfl ?_
        refine q_aload_n rfl rfl ?_
        have e0_1 := (f1.ne rfl e0)
        refine s_alen (x := 6) rfl e0_1 rfl (by decide) ?_
        refine q_bipush rfl ?_
        refine s_isub (k := 0) rfl (by decide) ?_
        refine q_icmp_gt rfl (fun _ => ?_) (fun c => absurd (by decide) c)
        refine q_iconst rfl ?_
        refine q_ireturn rfl rfl ?_
        exact ⟨rfl, s1.bd rfl⟩
      · refine q_iload_n rfl rfl ?_
        refine q_aload_n rfl rfl ?_
        refine s_get (v := .int 0) rfl e51 rfl rfl ?_
        refine q_icmp_ge rfl (fun _ => ?_) (fun c => absurd (Int32.not_lt.mp c3) c)
        refine q_null rfl ?_
        refine q_goto rfl ?_
        refine q_areturn rfl rfl rfl ?_
        show aW aiP 27 15 612 28 [(0, .ref 6), (1, .int (xs 1)), (2, .int (xs 2))] [.null] h _
        refine q_goto rfl ?_
        refine q_areturn rfl rfl rfl ?_
        show aW aiP 26 16 634 6 [(0, .ref 6), (1, .int (xs 1)), (2, .int (xs 2)), (3, .int (xs 3))] [.null] h _
        refine s_astoreN (lv' := [(4, .null), (0, .ref 6), (1, .int (xs 1)), (2, .int (xs 2)), (3, .int (xs 3))]) rfl (by decide) rfl ?_
        refine q_aloadN rfl rfl ?_
        refine q_ifnonnullN rfl ?_
        refine q_iconst rfl ?_
        refine q_ireturn rfl rfl ?_
        show aW aiP 0 17 658 919 [(4, .int 0), (3, .ref 233), (2, .ref 191), (1, .ref 6), (0, .ref 0)] [.int (-1)] h _
        refine q_aload_n rfl rfl ?_
        refine q_aload_n rfl rfl ?_
        refine q_iload rfl rfl ?_
        refine q_iconst rfl ?_
        refine s_iadd (k := 1) rfl (by decide) ?_
        refine s_iaload (j := 1) (v := .int (xs 1)) rfl e0 (by decide) rfl (by first | rfl | decide) ?_
        refine q_aload_n rfl rfl ?_
        refine q_iload rfl rfl ?_
        refine q_iconst rfl ?_
        refine s_iadd (k := 2) rfl (by decide) ?_
        refine s_iaload (j := 2) (v := .int (xs 2)) rfl e0 (by decide) rfl (by first | rfl | decide) ?_
        refine q_aload_n rfl rfl ?_
        refine q_iload rfl rfl ?_
        refine q_iconst rfl ?_
        refine s_iadd (k := 3) rfl (by decide) ?_
        refine s_iaload (j := 3) (v := .int (xs 3)) rfl e0 (by decide) rfl (by first | rfl | decide) ?_
        have e191 := F.2.2.2.2.2.2.2.2.2.2.2.2.2.2.2.2.2.2.2.2.2.2.2.2.2.2.2.1
        refine s_callV (as := [.int (xs 1), .int (xs 2), .int (xs 3)]) (rest := [.int (-1)]) (d' := 16) (w' := 634) (lv' := [(0, .ref 191), (1, .int (xs 1)), (2, .int (xs 2)), (3, .int (xs 3))]) rfl e191 rfl rfl rfl rfl rfl rfl ?_
        refine q_aload_n rfl rfl ?_
        refine q_iconst rfl ?_
        refine s_put (vs' := [.int 0, .ref 192, .ref 193, .int 0, .ref 194, .ref 195, .ref 196, .ref 197, .ref 198, .ref 199, .ref 200, .ref 201, .ref 202, .ref 203, .ref 204, .ref 205, .int (-1), .int 0, .ref 206, .ref 207, .ref 208, .ref 209, .ref 210, .ref 211, .ref 212, .ref 213, .ref 214, .ref 215, .int 0, .int 0, .int 0, .int 0, .ref 216, .ref 217, .ref 218, .ref 219, .ref 220, .int (-1), .int 0, .int 0, .int 0, .int 0, .int 0, .int 0, .ref 221, .ref 222, .ref 223, .ref 224, .int 0, .ref 225, .int 0, .ref 226, .ref 227, .int 0, .ref 228, .ref 229, .ref 230, .ref 231, .ref 232]) rfl e191 rfl rfl rfl rfl (fun h1 o1 f1 => ?_)
        have s1 := s0.put f1
        refine q_aload_n rfl rfl ?_
        refine q_iload_n rfl rfl ?_
        refine q_iload_n rfl rfl ?_
        refine s_callV (as := [.int (xs 1), .int (xs 2)]) (rest := []) (d' := 15) (w' := 611) (lv' := [(0, .ref 191), (1, .int (xs 1)), (2, .int (xs 2))]) rfl o1 rfl rfl rfl rfl rfl rfl ?_
        refine q_iload_n rfl rfl ?_
        refine q_if_ne rfl (fun _ => ?_) (fun c => absurd c1 c)
        refine q_iload_n rfl rfl ?_
        refine q_iconst rfl ?_
        refine q_icmp_ne rfl (fun c => absurd c (fun z => z (Decidable.of_not_not c2))) (fun _ => ?_)
        refine q_bipush rfl ?_
        refine q_goto rfl ?_
        refine s_istore_n (lv' := [(3, .int 31), (0, .ref 191), (1, .int (xs 1)), (2, .int (xs 2))]) rfl (by decide) rfl ?_
        refine q_iload_n rfl rfl ?_
        refine q_if_lt rfl (fun c => absurd c (by decide)) (fun _ => ?_)
        refine q_iload_n rfl rfl ?_
        refine q_aload_n rfl rfl ?_
        refine s_get (v := .ref 194) rfl o1 rfl rfl ?_
        refine q_iload_n rfl rfl ?_
        refine q_if_ge rfl (fun _ => ?_) (fun c => absurd (by decide) c)
        refine q_iload_n rfl rfl ?_
        have e194 := F.2.2.2.2.2.2.2.2.2.2.2.2.2.2.2.2.2.2.2.2.2.2.2.2.2.2.2.2.2.2.1
        have e194_1 := (f1.ne rfl e194)
        refine s_iaload (j := 31) (v := .int 0) rfl e194_1 (by decide) rfl (by first | rfl | decide) ?_
        refine s_callS (as := [.int (xs 2), .int 0]) (rest := []) (d' := 14) (w' := 590) (lv' := [(0, .int (xs 2)), (1, .int 0)]) rfl rfl rfl rfl rfl rfl rfl rfl ?_
        refine q_iload_n rfl rfl ?_
        refine q_if_lt rfl (fun c => absurd c c3) (fun _ => ?_)
        refine q_iload_n rfl rfl ?_
        refine q_iload_n rfl rfl ?_
        refine q_icmp_ge rfl (fun _ => ?_) (fun c => absurd (Int32.not_lt.mp c3) c)
        refine q_iconst rfl ?_
        refine q_ireturn rfl rfl ?_
        show aW aiP 282 15 611 43 [(3, .int 31), (0, .ref 191), (1, .int (xs 1)), (2, .int (xs 2))] [.int 0] h1 _
        refine q_if_ne rfl (fun c => absurd c (by decide)) (fun _ => ?_)
        refine q_iconst rfl ?_
        refine q_goto rfl ?_
        refine q_ireturn rfl rfl ?_
        show aW aiP 281 16 634 11 [(0, .ref 191), (1, .int (xs 1)), (2, .int (xs 2)), (3, .int (xs 3))] [.int (-1)] h1 _
        refine s_istore (lv' := [(4, .int (-1)), (0, .ref 191), (1, .int (xs 1)), (2, .int (xs 2)), (3, .int (xs 3))]) rfl (by decide) rfl ?_
        refine q_iload rfl rfl ?_
        refine q_if_ge rfl (fun c => absurd c (by decide)) (fun _ => ?_)
        refine q_iconst rfl ?_
        refine q_ireturn rfl rfl ?_
        show aW aiP 0 17 658 941 [(4, .int 0), (3, .ref 233), (2, .ref 191), (1, .ref 6), (0, .ref 0)] [.int (-1), .int (-1)] h1 _
        refine q_icmp_eq rfl (fun _ => ?_) (fun c => absurd (by decide) c)
        refine s_iinc (y := 6) (lv' := [(4, .int 6), (3, .ref 233), (2, .ref 191), (1, .ref 6), (0, .ref 0)]) rfl rfl (by decide) (by decide) rfl ?_
        refine q_goto rfl ?_
        refine q_iload rfl rfl ?_
        refine q_aload_n rfl rfl ?_
        have e0_1 := (f1.ne rfl e0)
        refine s_alen (x := 6) rfl e0_1 rfl (by decide) ?_
        refine q_bipush rfl ?_
        refine s_isub (k := 0) rfl (by decide) ?_
        refine q_icmp_gt rfl (fun _ => ?_) (fun c => absurd (by decide) c)
        refine q_iconst rfl ?_
        refine q_ireturn rfl rfl ?_
        exact ⟨rfl, s1.bd rfl⟩
  · refine q_aload_n rfl rfl ?_
    refine s_get (v := .ref 9) rfl e6 rfl rfl ?_
    refine q_iload_n rfl rfl ?_
    have e9 := F.2.2.2.2.2.2.2.2.2.1
    refine s_callV (as := [.int (xs 2)]) (rest := []) (d' := 14) (w' := 591) (lv' := [(0, .ref 9), (1, .int (xs 2))]) rfl e9 rfl rfl rfl rfl rfl rfl ?_
    refine q_iload_n rfl rfl ?_
    refine q_if_lt rfl (fun c4 => ?_) (fun c4 => ?_)
    · refine q_null rfl ?_
      refine q_goto rfl ?_
      refine q_areturn rfl rfl rfl ?_
      show aW aiP 27 15 612 12 [(0, .ref 6), (1, .int (xs 1)), (2, .int (xs 2))] [.null] h _
      refine q_goto rfl ?_
      refine q_areturn rfl rfl rfl ?_
      show aW aiP 26 16 634 6 [(0, .ref 6), (1, .int (xs 1)), (2, .int (xs 2)), (3, .int (xs 3))] [.null] h _
      refine s_astoreN (lv' := [(4, .null), (0, .ref 6), (1, .int (xs 1)), (2, .int (xs 2)), (3, .int (xs 3))]) rfl (by decide) rfl ?_
      refine q_aloadN rfl rfl ?_
      refine q_ifnonnullN rfl ?_
      refine q_iconst rfl ?_
      refine q_ireturn rfl rfl ?_
      show aW aiP 0 17 658 919 [(4, .int 0), (3, .ref 233), (2, .ref 191), (1, .ref 6), (0, .ref 0)] [.int (-1)] h _
      refine q_aload_n rfl rfl ?_
      refine q_aload_n rfl rfl ?_
      refine q_iload rfl rfl ?_
      refine q_iconst rfl ?_
      refine s_iadd (k := 1) rfl (by decide) ?_
      refine s_iaload (j := 1) (v := .int (xs 1)) rfl e0 (by decide) rfl (by first | rfl | decide) ?_
      refine q_aload_n rfl rfl ?_
      refine q_iload rfl rfl ?_
      refine q_iconst rfl ?_
      refine s_iadd (k := 2) rfl (by decide) ?_
      refine s_iaload (j := 2) (v := .int (xs 2)) rfl e0 (by decide) rfl (by first | rfl | decide) ?_
      refine q_aload_n rfl rfl ?_
      refine q_iload rfl rfl ?_
      refine q_iconst rfl ?_
      refine s_iadd (k := 3) rfl (by decide) ?_
      refine s_iaload (j := 3) (v := .int (xs 3)) rfl e0 (by decide) rfl (by first | rfl | decide) ?_
      have e191 := F.2.2.2.2.2.2.2.2.2.2.2.2.2.2.2.2.2.2.2.2.2.2.2.2.2.2.2.1
      refine s_callV (as := [.int (xs 1), .int (xs 2), .int (xs 3)]) (rest := [.int (-1)]) (d' := 16) (w' := 634) (lv' := [(0, .ref 191), (1, .int (xs 1)), (2, .int (xs 2)), (3, .int (xs 3))]) rfl e191 rfl rfl rfl rfl rfl rfl ?_
      refine q_aload_n rfl rfl ?_
      refine q_iconst rfl ?_
      refine s_put (vs' := [.int 0, .ref 192, .ref 193, .int 0, .ref 194, .ref 195, .ref 196, .ref 197, .ref 198, .ref 199, .ref 200, .ref 201, .ref 202, .ref 203, .ref 204, .ref 205, .int (-1), .int 0, .ref 206, .ref 207, .ref 208, .ref 209, .ref 210, .ref 211, .ref 212, .ref 213, .ref 214, .ref 215, .int 0, .int 0, .int 0, .int 0, .ref 216, .ref 217, .ref 218, .ref 219, .ref 220, .int (-1), .int 0, .int 0, .int 0, .int 0, .int 0, .int 0, .ref 221, .ref 222, .ref 223, .ref 224, .int 0, .ref 225, .int 0, .ref 226, .ref 227, .int 0, .ref 228, .ref 229, .ref 230, .ref 231, .ref 232]) rfl e191 rfl rfl rfl rfl (fun h1 o1 f1 => ?_)
      have s1 := s0.put f1
      refine q_aload_n rfl rfl ?_
      refine q_iload_n rfl rfl ?_
      refine q_iload_n rfl rfl ?_
      refine s_callV (as := [.int (xs 1), .int (xs 2)]) (rest := []) (d' := 15) (w' := 611) (lv' := [(0, .ref 191), (1, .int (xs 1)), (2, .int (xs 2))]) rfl o1 rfl rfl rfl rfl rfl rfl ?_
      refine q_iload_n rfl rfl ?_
      refine q_if_ne rfl (fun c => absurd c (fun z => z (Decidable.of_not_not c1))) (fun _ => ?_)
      refine q_bipush rfl ?_
      refine q_goto rfl ?_
      refine s_istore_n (lv' := [(3, .int 32), (0, .ref 191), (1, .int (xs 1)), (2, .int (xs 2))]) rfl (by decide) rfl ?_
      refine q_iload_n rfl rfl ?_
      refine q_if_lt rfl (fun c => absurd c (by decide)) (fun _ => ?_)
      refine q_iload_n rfl rfl ?_
      refine q_aload_n rfl rfl ?_
      refine s_get (v := .ref 194) rfl o1 rfl rfl ?_
      refine q_iload_n rfl rfl ?_
      refine q_if_ge rfl (fun _ => ?_) (fun c => absurd (by decide) c)
      refine q_iload_n rfl rfl ?_
      have e194 := F.2.2.2.2.2.2.2.2.2.2.2.2.2.2.2.2.2.2.2.2.2.2.2.2.2.2.2.2.2.2.1
      have e194_1 := (f1.ne rfl e194)
      refine s_iaload (j := 32) (v := .int 0) rfl e194_1 (by decide) rfl (by first | rfl | decide) ?_
      refine s_callS (as := [.int (xs 2), .int 0]) (rest := []) (d' := 14) (w' := 590) (lv' := [(0, .int (xs 2)), (1, .int 0)]) rfl rfl rfl rfl rfl rfl rfl rfl ?_
      refine q_iload_n rfl rfl ?_
      refine q_if_lt rfl (fun _ => ?_) (fun c => absurd c4 c)
      refine q_iconst rfl ?_
      refine q_ireturn rfl rfl ?_
      show aW aiP 282 15 611 43 [(3, .int 32), (0, .ref 191), (1, .int (xs 1)), (2, .int (xs 2))] [.int 0] h1 _
      refine q_if_ne rfl (fun c => absurd c (by decide)) (fun _ => ?_)
      refine q_iconst rfl ?_
      refine q_goto rfl ?_
      refine q_ireturn rfl rfl ?_
      show aW aiP 281 16 634 11 [(0, .ref 191), (1, .int (xs 1)), (2, .int (xs 2)), (3, .int (xs 3))] [.int (-1)] h1 _
      refine s_istore (lv' := [(4, .int (-1)), (0, .ref 191), (1, .int (xs 1)), (2, .int (xs 2)), (3, .int (xs 3))]) rfl (by decide) rfl ?_
      refine q_iload rfl rfl ?_
      refine q_if_ge rfl (fun c => absurd c (by decide)) (fun _ => ?_)
      refine q_iconst rfl ?_
      refine q_ireturn rfl rfl ?_
      show aW aiP 0 17 658 941 [(4, .int 0), (3, .ref 233), (2, .ref 191), (1, .ref 6), (0, .ref 0)] [.int (-1), .int (-1)] h1 _
      refine q_icmp_eq rfl (fun _ => ?_) (fun c => absurd (by decide) c)
      refine s_iinc (y := 6) (lv' := [(4, .int 6), (3, .ref 233), (2, .ref 191), (1, .ref 6), (0, .ref 0)]) rfl rfl (by decide) (by decide) rfl ?_
      refine q_goto rfl ?_
      refine q_iload rfl rfl ?_
      refine q_aload_n rfl rfl ?_
      have e0_1 := (f1.ne rfl e0)
      refine s_alen (x := 6) rfl e0_1 rfl (by decide) ?_
      refine q_bipush rfl ?_
      refine s_isub (k := 0) rfl (by decide) ?_
      refine q_icmp_gt rfl (fun _ => ?_) (fun c => absurd (by decide) c)
      refine q_iconst rfl ?_
      refine q_ireturn rfl rfl ?_
      exact ⟨rfl, s1.bd rfl⟩
    · refine q_iload_n rfl rfl ?_
      refine q_aload_n rfl rfl ?_
      refine s_get (v := .int 0) rfl e9 rfl rfl ?_
      refine q_icmp_ge rfl (fun _ => ?_) (fun c => absurd (Int32.not_lt.mp c4) c)
      refine q_null rfl ?_
      refine q_goto rfl ?_
      refine q_areturn rfl rfl rfl ?_
      show aW aiP 27 15 612 12 [(0, .ref 6), (1, .int (xs 1)), (2, .int (xs 2))] [.null] h _
      refine q_goto rfl ?_
      refine q_areturn rfl rfl rfl ?_
      show aW aiP 26 16 634 6 [(0, .ref 6), (1, .int (xs 1)), (2, .int (xs 2)), (3, .int (xs 3))] [.null] h _
      refine s_astoreN (lv' := [(4, .null), (0, .ref 6), (1, .int (xs 1)), (2, .int (xs 2)), (3, .int (xs 3))]) rfl (by decide) rfl ?_
      refine q_aloadN rfl rfl ?_
      refine q_ifnonnullN rfl ?_
      refine q_iconst rfl ?_
      refine q_ireturn rfl rfl ?_
      show aW aiP 0 17 658 919 [(4, .int 0), (3, .ref 233), (2, .ref 191), (1, .ref 6), (0, .ref 0)] [.int (-1)] h _
      refine q_aload_n rfl rfl ?_
      refine q_aload_n rfl rfl ?_
      refine q_iload rfl rfl ?_
      refine q_iconst rfl ?_
      refine s_iadd (k := 1) rfl (by decide) ?_
      refine s_iaload (j := 1) (v := .int (xs 1)) rfl e0 (by decide) rfl (by first | rfl | decide) ?_
      refine q_aload_n rfl rfl ?_
      refine q_iload rfl rfl ?_
      refine q_iconst rfl ?_
      refine s_iadd (k := 2) rfl (by decide) ?_
      refine s_iaload (j := 2) (v := .int (xs 2)) rfl e0 (by decide) rfl (by first | rfl | decide) ?_
      refine q_aload_n rfl rfl ?_
      refine q_iload rfl rfl ?_
      refine q_iconst rfl ?_
      refine s_iadd (k := 3) rfl (by decide) ?_
      refine s_iaload (j := 3) (v := .int (xs 3)) rfl e0 (by decide) rfl (by first | rfl | decide) ?_
      have e191 := F.2.2.2.2.2.2.2.2.2.2.2.2.2.2.2.2.2.2.2.2.2.2.2.2.2.2.2.1
      refine s_callV (as := [.int (xs 1), .int (xs 2), .int (xs 3)]) (rest := [.int (-1)]) (d' := 16) (w' := 634) (lv' := [(0, .ref 191), (1, .int (xs 1)), (2, .int (xs 2)), (3, .int (xs 3))]) rfl e191 rfl rfl rfl rfl rfl rfl ?_
      refine q_aload_n rfl rfl ?_
      refine q_iconst rfl ?_
      refine s_put (vs' := [.int 0, .ref 192, .ref 193, .int 0, .ref 194, .ref 195, .ref 196, .ref 197, .ref 198, .ref 199, .ref 200, .ref 201, .ref 202, .ref 203, .ref 204, .ref 205, .int (-1), .int 0, .ref 206, .ref 207, .ref 208, .ref 209, .ref 210, .ref 211, .ref 212, .ref 213, .ref 214, .ref 215, .int 0, .int 0, .int 0, .int 0, .ref 216, .ref 217, .ref 218, .ref 219, .ref 220, .int (-1), .int 0, .int 0, .int 0, .int 0, .int 0, .int 0, .ref 221, .ref 222, .ref 223, .ref 224, .int 0, .ref 225, .int 0, .ref 226, .ref 227, .int 0, .ref 228, .ref 229, .ref 230, .ref 231, .ref 232]) rfl e191 rfl rfl rfl rfl (fun h1 o1 f1 => ?_)
      have s1 := s0.put f1
      refine q_aload_n rfl rfl ?_
      refine q_iload_n rfl rfl ?_
      refine q_iload_n rfl rfl ?_
      refine s_callV (as := [.int (xs 1), .int (xs 2)]) (rest := []) (d' := 15) (w' := 611) (lv' := [(0, .ref 191), (1, .int (xs 1)), (2, .int (xs 2))]) rfl o1 rfl rfl rfl rfl rfl rfl ?_
      refine q_iload_n rfl rfl ?_
      refine q_if_ne rfl (fun c => absurd c (fun z => z (Decidable.of_not_not c1))) (fun _ => ?_)
      refine q_bipush rfl ?_
      refine q_goto rfl ?_
      refine s_istore_n (lv' := [(3, .int 32), (0, .ref 191), (1, .int (xs 1)), (2, .int (xs 2))]) rfl (by decide) rfl ?_
      refine q_iload_n rfl rfl ?_
      refine q_if_lt rfl (fun c => absurd c (by decide)) (fun _ => ?_)
      refine q_iload_n rfl rfl ?_
      refine q_aload_n rfl rfl ?_
      refine s_get (v := .ref 194) rfl o1 rfl rfl ?_
      refine q_iload_n rfl rfl ?_
      refine q_if_ge rfl (fun _ => ?_) (fun c => absurd (by decide) c)
      refine q_iload_n rfl rfl ?_
      have e194 := F.2.2.2.2.2.2.2.2.2.2.2.2.2.2.2.2.2.2.2.2.2.2.2.2.2.2.2.2.2.2.1
      have e194_1 := (f1.ne rfl e194)
      refine s_iaload (j := 32) (v := .int 0) rfl e194_1 (by decide) rfl (by first | rfl | decide) ?_
      refine s_callS (as := [.int (xs 2), .int 0]) (rest := []) (d' := 14) (w' := 590) (lv' := [(0, .int (xs 2)), (1, .int 0)]) rfl rfl rfl rfl rfl rfl rfl rfl ?_
      refine q_iload_n rfl rfl ?_
      refine q_if_lt rfl (fun c => absurd c c4) (fun _ => ?_)
      refine q_iload_n rfl rfl ?_
      refine q_iload_n rfl rfl ?_
      refine q_icmp_ge rfl (fun _ => ?_) (fun c => absurd (Int32.not_lt.mp c4) c)
      refine q_iconst rfl ?_
      refine q_ireturn rfl rfl ?_
      show aW aiP 282 15 611 43 [(3, .int 32), (0, .ref 191), (1, .int (xs 1)), (2, .int (xs 2))] [.int 0] h1 _
      refine q_if_ne rfl (fun c => absurd c (by decide)) (fun _ => ?_)
      refine q_iconst rfl ?_
      refine q_goto rfl ?_
      refine q_ireturn rfl rfl ?_
      show aW aiP 281 16 634 11 [(0, .ref 191), (1, .int (xs 1)), (2, .int (xs 2)), (3, .int (xs 3))] [.int (-1)] h1 _
      refine s_istore (lv' := [(4, .int (-1)), (0, .ref 191), (1, .int (xs 1)), (2, .int (xs 2)), (3, .int (xs 3))]) rfl (by decide) rfl ?_
      refine q_iload rfl rfl ?_
      refine q_if_ge rfl (fun c => absurd c (by decide)) (fun _ => ?_)
      refine q_iconst rfl ?_
      refine q_ireturn rfl rfl ?_
      show aW aiP 0 17 658 941 [(4, .int 0), (3, .ref 233), (2, .ref 191), (1, .ref 6), (0, .ref 0)] [.int (-1), .int (-1)] h1 _
      refine q_icmp_eq rfl (fun _ => ?_) (fun c => absurd (by decide) c)
      refine s_iinc (y := 6) (lv' := [(4, .int 6), (3, .ref 233), (2, .ref 191), (1, .ref 6), (0, .ref 0)]) rfl rfl (by decide) (by decide) rfl ?_
      refine q_goto rfl ?_
      refine q_iload rfl rfl ?_
      refine q_aload_n rfl rfl ?_
      have e0_1 := (f1.ne rfl e0)
      refine s_alen (x := 6) rfl e0_1 rfl (by decide) ?_
      refine q_bipush rfl ?_
      refine s_isub (k := 0) rfl (by decide) ?_
      refine q_icmp_gt rfl (fun _ => ?_) (fun c => absurd (by decide) c)
      refine q_iconst rfl ?_
      refine q_ireturn rfl rfl ?_
      exact ⟨rfl, s1.bd rfl⟩
