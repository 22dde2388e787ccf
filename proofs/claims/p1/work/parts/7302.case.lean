/-! case 2 of the law; made by wip/tools/p1.py -/
set_option maxRecDepth 20000 in
set_option maxHeartbeats 4000000 in
theorem p_case2 {xs : Nat → Int32} {h : ai_H} (F : Fresh 6 xs h) (hk : xs 0 &&& 31 = 2) : aW aiP 0 17 658 33 [(4, .int 0), (3, .ref 233), (2, .ref 191), (1, .ref 6), (0, .ref 0)] [] h p_Q := by
  have s0 := F.2.2.2.2.2.2.2.2.2.2.2.2.2.2.2.2.2.2.2.2.2.2.2.2.2.2.2.2.2.2.2.2.2.2.2.2.2.2.2.2.2.2.2.2.2.2.2.2.2.2.2.2.2.2.2.2.2.2.2.2.2.2.2.2.2.2.2.2.2.2
  refine q_aload_n rfl rfl ?_
  refine q_iload rfl rfl ?_
  have e0 := F.1
  refine s_iaload (j := 0) (v := .int (xs 0)) rfl e0 (by decide) rfl (by first | rfl | decide) ?_
  refine q_bipush rfl ?_
  refine s_iand (k := ((xs 0) &&& (31 : Int32))) rfl rfl ?_
  rw [hk]
  show aW aiP 0 17 658 40 [(4, .int 0), (3, .ref 233), (2, .ref 191), (1, .ref 6), (0, .ref 0)] [.int 2] h _
  refine s_sw (tg := 248) rfl rfl ?_
  refine q_aload_n rfl rfl ?_
  refine q_aload_n rfl rfl ?_
  refine q_iload rfl rfl ?_
  refine q_iconst rfl ?_
  refine s_iadd (k := 1) rfl (by decide) ?_
  refine s_iaload (j := 1) (v := .int (xs 1)) rfl e0 (by decide) rfl (by first | rfl | decide) ?_
  refine q_aload_n rfl rfl ?_
  refine q_iload rfl rfl ?_
  refine q_iconst rfl ?_
  refine s_iadd (k := 2) rfl (by decide) ?_
  refine s_iaload (j := 2) (v := .int (xs 2)) rfl e0 (by decide) rfl (by first | rfl | decide) ?_
  refine q_aload_n rfl rfl ?_
  refine q_iload rfl rfl ?_
  refine q_iconst rfl ?_
  refine s_iadd (k := 3) rfl (by decide) ?_
  refine s_iaload (j := 3) (v := .int (xs 3)) rfl e0 (by decide) rfl (by first | rfl | decide) ?_
  refine q_aload_n rfl rfl ?_
  refine s_callS (as := [.ref 6, .int (xs 1), .int (xs 2), .int (xs 3), .ref 233]) (rest := []) (d' := 16) (w' := 633) (lv' := [(0, .ref 6), (1, .int (xs 1)), (2, .int (xs 2)), (3, .int (xs 3)), (4, .ref 233)]) rfl rfl rfl rfl rfl rfl rfl rfl ?_
  refine q_aload rfl rfl ?_
  refine q_iconst rfl ?_
  refine q_aload_n rfl rfl ?_
  refine q_iload_n rfl rfl ?_
  refine q_iload_n rfl rfl ?_
  refine q_iload_n rfl rfl ?_
  have e6 := F.2.2.2.2.2.2.1
  refine s_callV (as := [.int (xs 1), .int (xs 2), .int (xs 3)]) (rest := [.int 0, .ref 233]) (d' := 15) (w' := 607) (lv' := [(0, .ref 6), (1, .int (xs 1)), (2, .int (xs 2)), (3, .int (xs 3))]) rfl e6 rfl rfl rfl rfl rfl rfl ?_
  refine q_aload_n rfl rfl ?_
  refine s_get (v := .int 0) rfl e6 rfl rfl ?_
  refine q_iconst rfl ?_
  refine q_icmp_ne rfl (fun _ => ?_) (fun c => absurd (by decide) c)
  refine q_aload_n rfl rfl ?_
  refine s_callV (as := []) (rest := []) (d' := 14) (w' := 586) (lv' := [(0, .ref 6)]) rfl e6 rfl rfl rfl rfl rfl rfl ?_
  refine q_aload_n rfl rfl ?_
  refine s_get (v := .ref 8) rfl e6 rfl rfl ?_
  refine q_aload_n rfl rfl ?_
  refine s_get (v := .int 0) rfl e6 rfl rfl ?_
  refine s_callS (as := [.ref 8, .int 0]) (rest := []) (d' := 13) (w' := 564) (lv' := [(0, .ref 8), (1, .int 0)]) rfl rfl rfl rfl rfl rfl rfl rfl ?_
  refine q_iload_n rfl rfl ?_
  refine q_aload_n rfl rfl ?_
  have e8 := F.2.2.2.2.2.2.2.2.1
  refine s_alen (x := 400) rfl e8 rfl (by decide) ?_
  refine q_icmp_ne rfl (fun _ => ?_) (fun c => absurd (by decide) c)
  refine q_iload_n rfl rfl ?_
  refine s_newa (k := 0) (n' := 235) (q' := 511456) (v0 := .int 0) rfl (by decide) rfl s0 rfl rfl rfl (fun h1 o1 f1 s1 => ?_)
  refine s_astore_n (lv' := [(2, .ref 234), (0, .ref 8), (1, .int 0)]) rfl (by decide) rfl ?_
  refine q_aload_n rfl rfl ?_
  refine q_iconst rfl ?_
  refine q_aload_n rfl rfl ?_
  refine q_iconst rfl ?_
  refine q_aload_n rfl rfl ?_
  have e8_1 := (f1.nw e8)
  refine s_alen (x := 400) rfl e8_1 rfl (by decide) ?_
  refine q_iload_n rfl rfl ?_
  refine s_min (k := 0) rfl rfl (by decide) ?_
  refine s_copy (sp := 0) (dp := 0) (k := 0) rfl e8_1 o1 (by decide) (by decide) (by decide) rfl (by decide) (by decide) (by decide) (fun i hi => absurd hi (Nat.not_lt_zero i)) (fun h2 o2 f2 => ?_)
  have s2 := s1.put f2
  refine q_aload_n rfl rfl ?_
  refine q_areturn rfl rfl rfl ?_
  show aW aiP 18 14 586 11 [(0, .ref 6)] [.ref 234] h2 _
  refine s_astore_n (lv' := [(1, .ref 234), (0, .ref 6)]) rfl (by decide) rfl ?_
  refine q_aload_n rfl rfl ?_
  refine q_iconst rfl ?_
  have e6_2 := ((e6.nw f1).ne f2 rfl)
  refine s_put (vs' := [.ref 7, .ref 8, .int 0, .ref 9, .int (-1), .ref 51, .ref 93, .ref 135, .ref 177, .ref 180, .int 0, .ref 183, .ref 186, .ref 189]) rfl e6_2 rfl rfl rfl rfl (fun h3 o3 f3 => ?_)
  have s3 := s2.put f3
  refine q_aload_n rfl rfl ?_
  refine q_areturn rfl rfl rfl ?_
  show aW aiP 61 15 607 20 [(0, .ref 6), (1, .int (xs 1)), (2, .int (xs 2)), (3, .int (xs 3))] [.ref 234] h3 _
  refine s_astore (lv' := [(4, .ref 234), (0, .ref 6), (1, .int (xs 1)), (2, .int (xs 2)), (3, .int (xs 3))]) rfl (by decide) rfl ?_
  refine q_iload_n rfl rfl ?_
  refine q_iconst rfl ?_
  refine q_icmp_lt rfl (fun c1 => ?_) (fun c1 => ?_)
  · refine s_thr rfl rfl rfl ?_
    refine ⟨rfl, Or.inl ⟨15, rfl, fun h4 f4 l4 => ?_⟩⟩
    have s4 := Hs.exc s3 f4 l4
    show aW aiP 60 16 633 15 [(0, .ref 6), (1, .int (xs 1)), (2, .int (xs 2)), (3, .int (xs 3)), (4, .ref 233)] [.ref (h3.length)] h4 _
    refine s_astore (lv' := [(5, .ref (h3.length)), (0, .ref 6), (1, .int (xs 1)), (2, .int (xs 2)), (3, .int (xs 3)), (4, .ref 233)]) rfl (by decide) rfl ?_
    refine q_iconst rfl ?_
    refine q_ireturn rfl rfl ?_
    show aW aiP 0 17 658 271 [(4, .int 0), (3, .ref 233), (2, .ref 191), (1, .ref 6), (0, .ref 0)] [.int 1] h4 _
    refine s_istore (lv' := [(5, .int 1), (4, .int 0), (3, .ref 233), (2, .ref 191), (1, .ref 6), (0, .ref 0)]) rfl (by decide) rfl ?_
    refine q_aload_n rfl rfl ?_
    refine q_aload_n rfl rfl ?_
    refine q_iload rfl rfl ?_
    refine q_iconst rfl ?_
    refine s_iadd (k := 1) rfl (by decide) ?_
    have e0_4 := (f4.nw (f3.ne rfl (f2.ne rfl (f1.nw e0))))
    refine s_iaload (j := 1) (v := .int (xs 1)) rfl e0_4 (by decide) rfl (by first | rfl | decide) ?_
    refine q_aload_n rfl rfl ?_
    refine q_iload rfl rfl ?_
    refine q_iconst rfl ?_
    refine s_iadd (k := 2) rfl (by decide) ?_
    refine s_iaload (j := 2) (v := .int (xs 2)) rfl e0_4 (by decide) rfl (by first | rfl | decide) ?_
    refine q_aload_n rfl rfl ?_
    refine q_iload rfl rfl ?_
    refine q_iconst rfl ?_
    refine s_iadd (k := 3) rfl (by decide) ?_
    refine s_iaload (j := 3) (v := .int (xs 3)) rfl e0_4 (by decide) rfl (by first | rfl | decide) ?_
    have e191 := F.2.2.2.2.2.2.2.2.2.2.2.2.2.2.2.2.2.2.2.2.2.2.2.2.2.2.2.1
    have e191_4 := ((((e191.nw f1).ne f2 rfl).ne f3 rfl).nw f4)
    refine s_callV (as := [.int (xs 1), .int (xs 2), .int (xs 3)]) (rest := []) (d' := 16) (w' := 631) (lv' := [(0, .ref 191), (1, .int (xs 1)), (2, .int (xs 2)), (3, .int (xs 3))]) rfl e191_4 rfl rfl rfl rfl rfl rfl ?_
    refine q_aload_n rfl rfl ?_
    refine s_get (v := .int 0) rfl e191_4 rfl rfl ?_
    refine q_iconst rfl ?_
    refine q_icmp_ne rfl (fun _ => ?_) (fun c => absurd (by decide) c)
    refine q_aload_n rfl rfl ?_
    refine s_callV (as := []) (rest := []) (d' := 15) (w' := 610) (lv' := [(0, .ref 191)]) rfl e191_4 rfl rfl rfl rfl rfl rfl ?_
    refine q_iconst rfl ?_
    refine s_istore_n (lv' := [(1, .int 0), (0, .ref 191)]) rfl (by decide) rfl ?_
    refine q_iload_n rfl rfl ?_
    refine q_aload_n rfl rfl ?_
    refine s_get (v := .int 0) rfl e191_4 rfl rfl ?_
    refine q_icmp_ge rfl (fun _ => ?_) (fun c => absurd (by decide) c)
    refine q_aload_n rfl rfl ?_
    refine q_aload_n rfl rfl ?_
    refine s_get (v := .int 0) rfl e191_4 rfl rfl ?_
    refine s_put (vs' := [.int 0, .ref 192, .ref 193, .int 0, .ref 194, .ref 195, .ref 196, .ref 197, .ref 198, .ref 199, .ref 200, .ref 201, .ref 202, .ref 203, .ref 204, .ref 205, .int (-1), .int 0, .ref 206, .ref 207, .ref 208, .ref 209, .ref 210, .ref 211, .ref 212, .ref 213, .ref 214, .ref 215, .int 0, .int 0, .int 0, .int 0, .ref 216, .ref 217, .ref 218, .ref 219, .ref 220, .int (-1), .int 0, .int 0, .int 0, .int 0, .int 0, .int 0, .ref 221, .ref 222, .ref 223, .ref 224, .int 0, .ref 225, .int 0, .ref 226, .ref 227, .int 0, .ref 228, .ref 229, .ref 230, .ref 231, .ref 232]) rfl e191_4 rfl rfl rfl rfl (fun h5 o5 f5 => ?_)
    have s5 := s4.put f5
    refine q_aload_n rfl rfl ?_
    refine q_iconst rfl ?_
    refine s_put (vs' := [.int 0, .ref 192, .ref 193, .int 0, .ref 194, .ref 195, .ref 196, .ref 197, .ref 198, .ref 199, .ref 200, .ref 201, .ref 202, .ref 203, .ref 204, .ref 205, .int (-1), .int 0, .ref 206, .ref 207, .ref 208, .ref 209, .ref 210, .ref 211, .ref 212, .ref 213, .ref 214, .ref 215, .int 0, .int 0, .int 0, .int 0, .ref 216, .ref 217, .ref 218, .ref 219, .ref 220, .int (-1), .int 0, .int 0, .int 0, .int 0, .int 0, .int 0, .ref 221, .ref 222, .ref 223, .ref 224, .int 0, .ref 225, .int 0, .ref 226, .ref 227, .int 0, .ref 228, .ref 229, .ref 230, .ref 231, .ref 232]) rfl o5 rfl rfl rfl rfl (fun h6 o6 f6 => ?_)
    have s6 := s5.put f6
    refine q_return rfl rfl ?_
    show aW aiP 218 16 631 18 [(0, .ref 191), (1, .int (xs 1)), (2, .int (xs 2)), (3, .int (xs 3))] [] h6 _
    refine q_iload_n rfl rfl ?_
    refine q_iconst rfl ?_
    refine q_icmp_lt rfl (fun _ => ?_) (fun c => absurd c1 c)
    refine q_iconst rfl ?_
    refine q_goto rfl ?_
    refine s_istore (lv' := [(4, .int 1), (0, .ref 191), (1, .int (xs 1)), (2, .int (xs 2)), (3, .int (xs 3))]) rfl (by decide) rfl ?_
    refine q_aload_n rfl rfl ?_
    refine q_iload rfl rfl ?_
    refine q_iload rfl rfl ?_
    refine q_if_ne rfl (fun _ => ?_) (fun c => absurd (by decide) c)
    refine q_iconst rfl ?_
    refine s_callV (as := [.int 1, .int 0]) (rest := []) (d' := 15) (w' := 609) (lv' := [(0, .ref 191), (1, .int 1), (2, .int 0)]) rfl o6 rfl rfl rfl rfl rfl rfl ?_
    refine q_aload_n rfl rfl ?_
    refine q_iload_n rfl rfl ?_
    refine q_if_eq rfl (fun c => absurd c (by decide)) (fun _ => ?_)
    refine q_iconst rfl ?_
    refine q_goto rfl ?_
    refine s_put (vs' := [.int 1, .ref 192, .ref 193, .int 0, .ref 194, .ref 195, .ref 196, .ref 197, .ref 198, .ref 199, .ref 200, .ref 201, .ref 202, .ref 203, .ref 204, .ref 205, .int (-1), .int 0, .ref 206, .ref 207, .ref 208, .ref 209, .ref 210, .ref 211, .ref 212, .ref 213, .ref 214, .ref 215, .int 0, .int 0, .int 0, .int 0, .ref 216, .ref 217, .ref 218, .ref 219, .ref 220, .int (-1), .int 0, .int 0, .int 0, .int 0, .int 0, .int 0, .ref 221, .ref 222, .ref 223, .ref 224, .int 0, .ref 225, .int 0, .ref 226, .ref 227, .int 0, .ref 228, .ref 229, .ref 230, .ref 231, .ref 232]) rfl o6 rfl rfl rfl rfl (fun h7 o7 f7 => ?_)
    have s7 := s6.put f7
    refine q_aload_n rfl rfl ?_
    refine s_get (v := .int 1) rfl o7 rfl rfl ?_
    refine q_if_le rfl (fun c => absurd c (by decide)) (fun _ => ?_)
    refine q_iconst rfl ?_
    refine q_goto rfl ?_
    refine q_ireturn rfl rfl ?_
    show aW aiP 218 16 631 104 [(4, .int 1), (0, .ref 191), (1, .int (xs 1)), (2, .int (xs 2)), (3, .int (xs 3))] [.int 1] h7 _
    refine q_if_eq rfl (fun c => absurd c (by decide)) (fun _ => ?_)
    refine q_iconst rfl ?_
    refine q_ireturn rfl rfl ?_
    show aW aiP 0 17 658 295 [(5, .int 1), (4, .int 0), (3, .ref 233), (2, .ref 191), (1, .ref 6), (0, .ref 0)] [.int 0] h7 _
    refine s_istore (lv' := [(6, .int 0), (5, .int 1), (4, .int 0), (3, .ref 233), (2, .ref 191), (1, .ref 6), (0, .ref 0)]) rfl (by decide) rfl ?_
    refine q_aload_n rfl rfl ?_
    refine s_callV (as := []) (rest := []) (d' := 16) (w' := 638) (lv' := [(0, .ref 191)]) rfl o7 rfl rfl rfl rfl rfl rfl ?_
    refine q_aload_n rfl rfl ?_
    refine s_get (v := .int 1) rfl o7 rfl rfl ?_
    refine q_ireturn rfl rfl ?_
    show aW aiP 0 17 658 301 [(6, .int 0), (5, .int 1), (4, .int 0), (3, .ref 233), (2, .ref 191), (1, .ref 6), (0, .ref 0)] [.int 1] h7 _
    refine q_iload rfl rfl ?_
    refine q_icmp_eq rfl (fun _ => ?_) (fun c => absurd (by decide) c)
    refine q_iload rfl rfl ?_
    refine q_if_ne rfl (fun _ => ?_) (fun c => absurd (by decide) c)
    refine q_goto rfl ?_
    refine s_iinc (y := 6) (lv' := [(4, .int 6), (6, .int 0), (5, .int 1), (3, .ref 233), (2, .ref 191), (1, .ref 6), (0, .ref 0)]) rfl rfl (by decide) (by decide) rfl ?_
    refine q_goto rfl ?_
    refine q_iload rfl rfl ?_
    refine q_aload_n rfl rfl ?_
    have e0_7 := (f7.ne rfl (f6.ne rfl (f5.ne rfl e0_4)))
    refine s_alen (x := 6) rfl e0_7 rfl (by decide) ?_
    refine q_bipush rfl ?_
    refine s_isub (k := 0) rfl (by decide) ?_
    refine q_icmp_gt rfl (fun _ => ?_) (fun c => absurd (by decide) c)
    refine q_iconst rfl ?_
    refine q_ireturn rfl rfl ?_
    exact ⟨rfl, s7.bd rfl⟩
  · refine q_iload_n rfl rfl ?_
    refine q_iconst rfl ?_
    refine q_icmp_gt rfl (fun c2 => ?_) (fun c2 => ?_)
    · refine s_thr rfl rfl rfl ?_
      refine ⟨rfl, Or.inl ⟨15, rfl, fun h4 f4 l4 => ?_⟩⟩
      have s4 := Hs.exc s3 f4 l4
      show aW aiP 60 16 633 15 [(0, .ref 6), (1, .int (xs 1)), (2, .int (xs 2)), (3, .int (xs 3)), (4, .ref 233)] [.ref (h3.length)] h4 _
      refine s_astore (lv' := [(5, .ref (h3.length)), (0, .ref 6), (1, .int (xs 1)), (2, .int (xs 2)), (3, .int (xs 3)), (4, .ref 233)]) rfl (by decide) rfl ?_
      refine q_iconst rfl ?_
      refine q_ireturn rfl rfl ?_
      show aW aiP 0 17 658 271 [(4, .int 0), (3, .ref 233), (2, .ref 191), (1, .ref 6), (0, .ref 0)] [.int 1] h4 _
      refine s_istore (lv' := [(5, .int 1), (4, .int 0), (3, .ref 233), (2, .ref 191), (1, .ref 6), (0, .ref 0)]) rfl (by decide) rfl ?_
      refine q_aload_n rfl rfl ?_
      refine q_aload_n rfl rfl ?_
      refine q_iload rfl rfl ?_
      refine q_iconst rfl ?_
      refine s_iadd (k := 1) rfl (by decide) ?_
      have e0_4 := (f4.nw (f3.ne rfl (f2.ne rfl (f1.nw e0))))
      refine s_iaload (j := 1) (v := .int (xs 1)) rfl e0_4 (by decide) rfl (by first | rfl | decide) ?_
      refine q_aload_n rfl rfl ?_
      refine q_iload rfl rfl ?_
      refine q_iconst rfl ?_
      refine s_iadd (k := 2) rfl (by decide) ?_
      refine s_iaload (j := 2) (v := .int (xs 2)) rfl e0_4 (by decide) rfl (by first | rfl | decide) ?_
      refine q_aload_n rfl rfl ?_
      refine q_iload rfl rfl ?_
      refine q_iconst rfl ?_
      refine s_iadd (k := 3) rfl (by decide) ?_
      refine s_iaload (j := 3) (v := .int (xs 3)) rfl e0_4 (by decide) rfl (by first | rfl | decide) ?_
      have e191 := F.2.2.2.2.2.2.2.2.2.2.2.2.2.2.2.2.2.2.2.2.2.2.2.2.2.2.2.1
      have e191_4 := ((((e191.nw f1).ne f2 rfl).ne f3 rfl).nw f4)
      refine s_callV (as := [.int (xs 1), .int (xs 2), .int (xs 3)]) (rest := []) (d' := 16) (w' := 631) (lv' := [(0, .ref 191), (1, .int (xs 1)), (2, .int (xs 2)), (3, .int (xs 3))]) rfl e191_4 rfl rfl rfl rfl rfl rfl ?_
      refine q_aload_n rfl rfl ?_
      refine s_get (v := .int 0) rfl e191_4 rfl rfl ?_
      refine q_iconst rfl ?_
      refine q_icmp_ne rfl (fun _ => ?_) (fun c => absurd (by decide) c)
      refine q_aload_n rfl rfl ?_
      refine s_callV (as := []) (rest := []) (d' := 15) (w' := 610) (lv' := [(0, .ref 191)]) rfl e191_4 rfl rfl rfl rfl rfl rfl ?_
      refine q_iconst rfl ?_
      refine s_istore_n (lv' := [(1, .int 0), (0, .ref 191)]) rfl (by decide) rfl ?_
      refine q_iload_n rfl rfl ?_
      refine q_aload_n rfl rfl ?_
      refine s_get (v := .int 0) rfl e191_4 rfl rfl ?_
      refine q_icmp_ge rfl (fun _ => ?_) (fun c => absurd (by decide) c)
      refine q_aload_n rfl rfl ?_
      refine q_aload_n rfl rfl ?_
      refine s_get (v := .int 0) rfl e191_4 rfl rfl ?_
      refine s_put (vs' := [.int 0, .ref 192, .ref 193, .int 0, .ref 194, .ref 195, .ref 196, .ref 197, .ref 198, .ref 199, .ref 200, .ref 201, .ref 202, .ref 203, .ref 204, .ref 205, .int (-1), .int 0, .ref 206, .ref 207, .ref 208, .ref 209, .ref 210, .ref 211, .ref 212, .ref 213, .ref 214, .ref 215, .int 0, .int 0, .int 0, .int 0, .ref 216, .ref 217, .ref 218, .ref 219, .ref 220, .int (-1), .int 0, .int 0, .int 0, .int 0, .int 0, .int 0, .ref 221, .ref 222, .ref 223, .ref 224, .int 0, .ref 225, .int 0, .ref 226, .ref 227, .int 0, .ref 228, .ref 229, .ref 230, .ref 231, .ref 232]) rfl e191_4 rfl rfl rfl rfl (fun h5 o5 f5 => ?_)
      have s5 := s4.put f5
      refine q_aload_n rfl rfl ?_
      refine q_iconst rfl ?_
      refine s_put (vs' := [.int 0, .ref 192, .ref 193, .int 0, .ref 194, .ref 195, .ref 196, .ref 197, .ref 198, .ref 199, .ref 200, .ref 201, .ref 202, .ref 203, .ref 204, .ref 205, .int (-1), .int 0, .ref 206, .ref 207, .ref 208, .ref 209, .ref 210, .ref 211, .ref 212, .ref 213, .ref 214, .ref 215, .int 0, .int 0, .int 0, .int 0, .ref 216, .ref 217, .ref 218, .ref 219, .ref 220, .int (-1), .int 0, .int 0, .int 0, .int 0, .int 0, .int 0, .ref 221, .ref 222, .ref 223, .ref 224, .int 0, .ref 225, .int 0, .ref 226, .ref 227, .int 0, .ref 228, .ref 229, .ref 230, .ref 231, .ref 232]) rfl o5 rfl rfl rfl rfl (fun h6 o6 f6 => ?_)
      have s6 := s5.put f6
      refine q_return rfl rfl ?_
      show aW aiP 218 16 631 18 [(0, .ref 191), (1, .int (xs 1)), (2, .int (xs 2)), (3, .int (xs 3))] [] h6 _
      refine q_iload_n rfl rfl ?_
      refine q_iconst rfl ?_
      refine q_icmp_lt rfl (fun c => absurd c c1) (fun _ => ?_)
      refine q_iload_n rfl rfl ?_
      refine q_iconst rfl ?_
      refine q_icmp_gt rfl (fun _ => ?_) (fun c => absurd c2 c)
      refine q_iconst rfl ?_
      refine q_goto rfl ?_
      refine s_istore (lv' := [(4, .int 1), (0, .ref 191), (1, .int (xs 1)), (2, .int (xs 2)), (3, .int (xs 3))]) rfl (by decide) rfl ?_
      refine q_aload_n rfl rfl ?_
      refine q_iload rfl rfl ?_
      refine q_iload rfl rfl ?_
      refine q_if_ne rfl (fun _ => ?_) (fun c => absurd (by decide) c)
      refine q_iconst rfl ?_
      refine s_callV (as := [.int 1, .int 0]) (rest := []) (d' := 15) (w' := 609) (lv' := [(0, .ref 191), (1, .int 1), (2, .int 0)]) rfl o6 rfl rfl rfl rfl rfl rfl ?_
      refine q_aload_n rfl rfl ?_
      refine q_iload_n rfl rfl ?_
      refine q_if_eq rfl (fun c => absurd c (by decide)) (fun _ => ?_)
      refine q_iconst rfl ?_
      refine q_goto rfl ?_
      refine s_put (vs' := [.int 1, .ref 192, .ref 193, .int 0, .ref 194, .ref 195, .ref 196, .ref 197, .ref 198, .ref 199, .ref 200, .ref 201, .ref 202, .ref 203, .ref 204, .ref 205, .int (-1), .int 0, .ref 206, .ref 207, .ref 208, .ref 209, .ref 210, .ref 211, .ref 212, .ref 213, .ref 214, .ref 215, .int 0, .int 0, .int 0, .int 0, .ref 216, .ref 217, .ref 218, .ref 219, .ref 220, .int (-1), .int 0, .int 0, .int 0, .int 0, .int 0, .int 0, .ref 221, .ref 222, .ref 223, .ref 224, .int 0, .ref 225, .int 0, .ref 226, .ref 227, .int 0, .ref 228, .ref 229, .ref 230, .ref 231, .ref 232]) rfl o6 rfl rfl rfl rfl (fun h7 o7 f7 => ?_)
      have s7 := s6.put f7
      refine q_aload_n rfl rfl ?_
      refine s_get (v := .int 1) rfl o7 rfl rfl ?_
      refine q_if_le rfl (fun c => absurd c (by decide)) (fun _ => ?_)
      refine q_iconst rfl ?_
      refine q_goto rfl ?_
      refine q_ireturn rfl rfl ?_
      show aW aiP 218 16 631 104 [(4, .int 1), (0, .ref 191), (1, .int (xs 1)), (2, .int (xs 2)), (3, .int (xs 3))] [.int 1] h7 _
      refine q_if_eq rfl (fun c => absurd c (by decide)) (fun _ => ?_)
      refine q_iconst rfl ?_
      refine q_ireturn rfl rfl ?_
      show aW aiP 0 17 658 295 [(5, .int 1), (4, .int 0), (3, .ref 233), (2, .ref 191), (1, .ref 6), (0, .ref 0)] [.int 0] h7 _
      refine s_istore (lv' := [(6, .int 0), (5, .int 1), (4, .int 0), (3, .ref 233), (2, .ref 191), (1, .ref 6), (0, .ref 0)]) rfl (by decide) rfl ?_
      refine q_aload_n rfl rfl ?_
      refine s_callV (as := []) (rest := []) (d' := 16) (w' := 638) (lv' := [(0, .ref 191)]) rfl o7 rfl rfl rfl rfl rfl rfl ?_
      refine q_aload_n rfl rfl ?_
      refine s_get (v := .int 1) rfl o7 rfl rfl ?_
      refine q_ireturn rfl rfl ?_
      show aW aiP 0 17 658 301 [(6, .int 0), (5, .int 1), (4, .int 0), (3, .ref 233), (2, .ref 191), (1, .ref 6), (0, .ref 0)] [.int 1] h7 _
      refine q_iload rfl rfl ?_
      refine q_icmp_eq rfl (fun _ => ?_) (fun c => absurd (by decide) c)
      refine q_iload rfl rfl ?_
      refine q_if_ne rfl (fun _ => ?_) (fun c => absurd (by decide) c)
      refine q_goto rfl ?_
      refine s_iinc (y := 6) (lv' := [(4, .int 6), (6, .int 0), (5, .int 1), (3, .ref 233), (2, .ref 191), (1, .ref 6), (0, .ref 0)]) rfl rfl (by decide) (by decide) rfl ?_
      refine q_goto rfl ?_
      refine q_iload rfl rfl ?_
      refine q_aload_n rfl rfl ?_
      have e0_7 := (f7.ne rfl (f6.ne rfl (f5.ne rfl e0_4)))
      refine s_alen (x := 6) rfl e0_7 rfl (by decide) ?_
      refine q_bipush rfl ?_
      refine s_isub (k := 0) rfl (by decide) ?_
      refine q_icmp_gt rfl (fun _ => ?_) (fun c => absurd (by decide) c)
      refine q_iconst rfl ?_
      refine q_ireturn rfl rfl ?_
      exact ⟨rfl, s7.bd rfl⟩
    · refine q_iload_n rfl rfl ?_
      refine q_iload_n rfl rfl ?_
      refine s_callS (as := [.int (xs 2), .int (xs 3)]) (rest := []) (d' := 14) (w' := 586) (lv' := [(0, .int (xs 2)), (1, .int (xs 3))]) rfl rfl rfl rfl rfl rfl rfl rfl ?_
      refine q_iload_n rfl rfl ?_
      refine q_if_lt rfl (fun c3 => ?_) (fun c3 => ?_)
      · refine q_iconst rfl ?_
        refine q_ireturn rfl rfl ?_
        show aW aiP 61 15 607 37 [(4, .ref 234), (0, .ref 6), (1, .int (xs 1)), (2, .int (xs 2)), (3, .int (xs 3))] [.int 0] h3 _
        refine q_if_eq rfl (fun _ => ?_) (fun c => absurd (by decide) c)
        refine s_thr rfl rfl rfl ?_
        refine ⟨rfl, Or.inl ⟨15, rfl, fun h4 f4 l4 => ?_⟩⟩
        have s4 := Hs.exc s3 f4 l4
        show aW aiP 60 16 633 15 [(0, .ref 6), (1, .int (xs 1)), (2, .int (xs 2)), (3, .int (xs 3)), (4, .ref 233)] [.ref (h3.length)] h4 _
        refine s_astore (lv' := [(5, .ref (h3.length)), (0, .ref 6), (1, .int (xs 1)), (2, .int (xs 2)), (3, .int (xs 3)), (4, .ref 233)]) rfl (by decide) rfl ?_
        refine q_iconst rfl ?_
        refine q_ireturn rfl rfl ?_
        show aW aiP 0 17 658 271 [(4, .int 0), (3, .ref 233), (2, .ref 191), (1, .ref 6), (0, .ref 0)] [.int 1] h4 _
        refine s_istore (lv' := [(5, .int 1), (4, .int 0), (3, .ref 233), (2, .ref 191), (1, .ref 6), (0, .ref 0)]) rfl (by decide) rfl ?_
        refine q_aload_n rfl rfl ?_
        refine q_aload_n rfl rfl ?_
        refine q_iload rfl rfl ?_
        refine q_iconst rfl ?_
        refine s_iadd (k := 1) rfl (by decide) ?_
        have e0_4 := (f4.nw (f3.ne rfl (f2.ne rfl (f1.nw e0))))
        refine s_iaload (j := 1) (v := .int (xs 1)) rfl e0_4 (by decide) rfl (by first | rfl | decide) ?_
        refine q_aload_n rfl rfl ?_
        refine q_iload rfl rfl ?_
        refine q_iconst rfl ?_
        refine s_iadd (k := 2) rfl (by decide) ?_
        refine s_iaload (j := 2) (v := .int (xs 2)) rfl e0_4 (by decide) rfl (by first | rfl | decide) ?_
        refine q_aload_n rfl rfl ?_
        refine q_iload rfl rfl ?_
        refine q_iconst rfl ?_
        refine s_iadd (k := 3) rfl (by decide) ?_
        refine s_iaload (j := 3) (v := .int (xs 3)) rfl e0_4 (by decide) rfl (by first | rfl | decide) ?_
        have e191 := F.2.2.2.2.2.2.2.2.2.2.2.2.2.2.2.2.2.2.2.2.2.2.2.2.2.2.2.1
        have e191_4 := ((((e191.nw f1).ne f2 rfl).ne f3 rfl).nw f4)
        refine s_callV (as := [.int (xs 1), .int (xs 2), .int (xs 3)]) (rest := []) (d' := 16) (w' := 631) (lv' := [(0, .ref 191), (1, .int (xs 1)), (2, .int (xs 2)), (3, .int (xs 3))]) rfl e191_4 rfl rfl rfl rfl rfl rfl ?_
        refine q_aload_n rfl rfl ?_
        refine s_get (v := .int 0) rfl e191_4 rfl rfl ?_
        refine q_iconst rfl ?_
        refine q_icmp_ne rfl (fun _ => ?_) (fun c => absurd (by decide) c)
        refine q_aload_n rfl rfl ?_
        refine s_callV (as := []) (rest := []) (d' := 15) (w' := 610) (lv' := [(0, .ref 191)]) rfl e191_4 rfl rfl rfl rfl rfl rfl ?_
        refine q_iconst rfl ?_
        refine s_istore_n (lv' := [(1, .int 0), (0, .ref 191)]) rfl (by decide) rfl ?_
        refine q_iload_n rfl rfl ?_
        refine q_aload_n rfl rfl ?_
        refine s_get (v := .int 0) rfl e191_4 rfl rfl ?_
        refine q_icmp_ge rfl (fun _ => ?_) (fun c => absurd (by decide) c)
        refine q_aload_n rfl rfl ?_
        refine q_aload_n rfl rfl ?_
        refine s_get (v := .int 0) rfl e191_4 rfl rfl ?_
        refine s_put (vs' := [.int 0, .ref 192, .ref 193, .int 0, .ref 194, .ref 195, .ref 196, .ref 197, .ref 198, .ref 199, .ref 200, .ref 201, .ref 202, .ref 203, .ref 204, .ref 205, .int (-1), .int 0, .ref 206, .ref 207, .ref 208, .ref 209, .ref 210, .ref 211, .ref 212, .ref 213, .ref 214, .ref 215, .int 0, .int 0, .int 0, .int 0, .ref 216, .ref 217, .ref 218, .ref 219, .ref 220, .int (-1), .int 0, .int 0, .int 0, .int 0, .int 0, .int 0, .ref 221, .ref 222, .ref 223, .ref 224, .int 0, .ref 225, .int 0, .ref 226, .ref 227, .int 0, .ref 228, .ref 229, .ref 230, .ref 231, .ref 232]) rfl e191_4 rfl rfl rfl rfl (fun h5 o5 f5 => ?_)
        have s5 := s4.put f5
        refine q_aload_n rfl rfl ?_
        refine q_iconst rfl ?_
        refine s_put (vs' := [.int 0, .ref 192, .ref 193, .int 0, .ref 194, .ref 195, .ref 196, .ref 197, .ref 198, .ref 199, .ref 200, .ref 201, .ref 202, .ref 203, .ref 204, .ref 205, .int (-1), .int 0, .ref 206, .ref 207, .ref 208, .ref 209, .ref 210, .ref 211, .ref 212, .ref 213, .ref 214, .ref 215, .int 0, .int 0, .int 0, .int 0, .ref 216, .ref 217, .ref 218, .ref 219, .ref 220, .int (-1), .int 0, .int 0, .int 0, .int 0, .int 0, .int 0, .ref 221, .ref 222, .ref 223, .ref 224, .int 0, .ref 225, .int 0, .ref 226, .ref 227, .int 0, .ref 228, .ref 229, .ref 230, .ref 231, .ref 232]) rfl o5 rfl rfl rfl rfl (fun h6 o6 f6 => ?_)
        have s6 := s5.put f6
        refine q_return rfl rfl ?_
        show aW aiP 218 16 631 18 [(0, .ref 191), (1, .int (xs 1)), (2, .int (xs 2)), (3, .int (xs 3))] [] h6 _
        refine q_iload_n rfl rfl ?_
        refine q_iconst rfl ?_
        refine q_icmp_lt rfl (fun c => absurd c c1) (fun _ => ?_)
        refine q_iload_n rfl rfl ?_
        refine q_iconst rfl ?_
        refine q_icmp_gt rfl (fun c => absurd c c2) (fun _ => ?_)
        refine q_iload_n rfl rfl ?_
        refine q_sipush rfl ?_
        refine s_callS (as := [.int (xs 2), .int 4096]) (rest := []) (d' := 15) (w' := 610) (lv' := [(0, .int (xs 2)), (1, .int 4096)]) rfl rfl rfl rfl rfl rfl rfl rfl ?_
        refine q_iload_n rfl rfl ?_
        refine q_if_lt rfl (fun _ => ?_) (fun c => absurd c3 c)
        refine q_iconst rfl ?_
        refine q_ireturn rfl rfl ?_
        show aW aiP 218 16 631 35 [(0, .ref 191), (1, .int (xs 1)), (2, .int (xs 2)), (3, .int (xs 3))] [.int 0] h6 _
        refine q_if_eq rfl (fun _ => ?_) (fun c => absurd (by decide) c)
        refine q_iconst rfl ?_
        refine q_goto rfl ?_
        refine s_istore (lv' := [(4, .int 1), (0, .ref 191), (1, .int (xs 1)), (2, .int (xs 2)), (3, .int (xs 3))]) rfl (by decide) rfl ?_
        refine q_aload_n rfl rfl ?_
        refine q_iload rfl rfl ?_
        refine q_iload rfl rfl ?_
        refine q_if_ne rfl (fun _ => ?_) (fun c => absurd (by decide) c)
        refine q_iconst rfl ?_
        refine s_callV (as := [.int 1, .int 0]) (rest := []) (d' := 15) (w' := 609) (lv' := [(0, .ref 191), (1, .int 1), (2, .int 0)]) rfl o6 rfl rfl rfl rfl rfl rfl ?_
        refine q_aload_n rfl rfl ?_
        refine q_iload_n rfl rfl ?_
        refine q_if_eq rfl (fun c => absurd c (by decide)) (fun _ => ?_)
        refine q_iconst rfl ?_
        refine q_goto rfl ?_
        refine s_put (vs' := [.int 1, .ref 192, .ref 193, .int 0, .ref 194, .ref 195, .ref 196, .ref 197, .ref 198, .ref 199, .ref 200, .ref 201, .ref 202, .ref 203, .ref 204, .ref 205, .int (-1), .int 0, .ref 206, .ref 207, .ref 208, .ref 209, .ref 210, .ref 211, .ref 212, .ref 213, .ref 214, .ref 215, .int 0, .int 0, .int 0, .int 0, .ref 216, .ref 217, .ref 218, .ref 219, .ref 220, .int (-1), .int 0, .int 0, .int 0, .int 0, .int 0, .int 0, .ref 221, .ref 222, .ref 223, .ref 224, .int 0, .ref 225, .int 0, .ref 226, .ref 227, .int 0, .ref 228, .ref 229, .ref 230, .ref 231, .ref 232]) rfl o6 rfl rfl rfl rfl (fun h7 o7 f7 => ?_)
        have s7 := s6.put f7
        refine q_aload_n rfl rfl ?_
        refine s_get (v := .int 1) rfl o7 rfl rfl ?_
        refine q_if_le rfl (fun c => absurd c (by decide)) (fun _ => ?_)
        refine q_iconst rfl ?_
        refine q_goto rfl ?_
        refine q_ireturn rfl rfl ?_
        show aW aiP 218 16 631 104 [(4, .int 1), (0, .ref 191), (1, .int (xs 1)), (2, .int (xs 2)), (3, .int (xs 3))] [.int 1] h7 _
        refine q_if_eq rfl (fun c => absurd c (by decide)) (fun _ => ?_)
        refine q_iconst rfl ?_
        refine q_ireturn rfl rfl ?_
        show aW aiP 0 17 658 295 [(5, .int 1), (4, .int 0), (3, .ref 233), (2, .ref 191), (1, .ref 6), (0, .ref 0)] [.int 0] h7 _
        refine s_istore (lv' := [(6, .int 0), (5, .int 1), (4, .int 0), (3, .ref 233), (2, .ref 191), (1, .ref 6), (0, .ref 0)]) rfl (by decide) rfl ?_
        refine q_aload_n rfl rfl ?_
        refine s_callV (as := []) (rest := []) (d' := 16) (w' := 638) (lv' := [(0, .ref 191)]) rfl o7 rfl rfl rfl rfl rfl rfl ?_
        refine q_aload_n rfl rfl ?_
        refine s_get (v := .int 1) rfl o7 rfl rfl ?_
        refine q_ireturn rfl rfl ?_
        show aW aiP 0 17 658 301 [(6, .int 0), (5, .int 1), (4, .int 0), (3, .ref 233), (2, .ref 191), (1, .ref 6), (0, .ref 0)] [.int 1] h7 _
        refine q_iload rfl rfl ?_
        refine q_icmp_eq rfl (fun _ => ?_) (fun c => absurd (by decide) c)
        refine q_iload rfl rfl ?_
        refine q_if_ne rfl (fun _ => ?_) (fun c => absurd (by decide) c)
        refine q_goto rfl ?_
        refine s_iinc (y := 6) (lv' := [(4, .int 6), (6, .int 0), (5, .int 1), (3, .ref 233), (2, .ref 191), (1, .ref 6), (0, .ref 0)]) rfl rfl (by decide) (by decide) rfl ?_
        refine q_goto rfl ?_
        refine q_iload rfl rfl ?_
        refine q_aload_n rfl rfl ?_
        have e0_7 := (f7.ne rfl (f6.ne rfl (f5.ne rfl e0_4)))
        refine s_alen (x := 6) rfl e0_7 rfl (by decide) ?_
        refine q_bipush rfl ?_
        refine s_isub (k := 0) rfl (by decide) ?_
        refine q_icmp_gt rfl (fun _ => ?_) (fun c => absurd (by decide) c)
        refine q_iconst rfl ?_
        refine q_ireturn rfl rfl ?_
        exact ⟨rfl, s7.bd rfl⟩
      · refine q_iload_n rfl rfl ?_
        refine q_sipush rfl ?_
        refine q_icmp_gt rfl (fun c4 => ?_) (fun c4 => ?_)
        · refine q_iconst rfl ?_
          refine q_ireturn rfl rfl ?_
          show aW aiP 61 15 607 37 [(4, .ref 234), (0, .ref 6), (1, .int (xs 1)), (2, .int (xs 2)), (3, .int (xs 3))] [.int 0] h3 _
          refine q_if_eq rfl (fun _ => ?_) (fun c => absurd (by decide) c)
          refine s_thr rfl rfl rfl ?_
          refine ⟨rfl, Or.inl ⟨15, rfl, fun h4 f4 l4 => ?_⟩⟩
          have s4 := Hs.exc s3 f4 l4
          show aW aiP 60 16 633 15 [(0, .ref 6), (1, .int (xs 1)), (2, .int (xs 2)), (3, .int (xs 3)), (4, .ref 233)] [.ref (h3.length)] h4 _
          refine s_astore (lv' := [(5, .ref (h3.length)), (0, .ref 6), (1, .int (xs 1)), (2, .int (xs 2)), (3, .int (xs 3)), (4, .ref 233)]) rfl (by decide) rfl ?_
          refine q_iconst rfl ?_
          refine q_ireturn rfl rfl ?_
          show aW aiP 0 17 658 271 [(4, .int 0), (3, .ref 233), (2, .ref 191), (1, .ref 6), (0, .ref 0)] [.int 1] h4 _
          refine s_istore (lv' := [(5, .int 1), (4, .int 0), (3, .ref 233), (2, .ref 191), (1, .ref 6), (0, .ref 0)]) rfl (by decide) rfl ?_
          refine q_aload_n rfl rfl ?_
          refine q_aload_n rfl rfl ?_
          refine q_iload rfl rfl ?_
          refine q_iconst rfl ?_
          refine s_iadd (k := 1) rfl (by decide) ?_
          have e0_4 := (f4.nw (f3.ne rfl (f2.ne rfl (f1.nw e0))))
          refine s_iaload (j := 1) (v := .int (xs 1)) rfl e0_4 (by decide) rfl (by first | rfl | decide) ?_
          refine q_aload_n rfl rfl ?_
          refine q_iload rfl rfl ?_
          refine q_iconst rfl ?_
          refine s_iadd (k := 2) rfl (by decide) ?_
          refine s_iaload (j := 2) (v := .int (xs 2)) rfl e0_4 (by decide) rfl (by first | rfl | decide) ?_
          refine q_aload_n rfl rfl ?_
          refine q_iload rfl rfl ?_
          refine q_iconst rfl ?_
          refine s_iadd (k := 3) rfl (by decide) ?_
          refine s_iaload (j := 3) (v := .int (xs 3)) rfl e0_4 (by decide) rfl (by first | rfl | decide) ?_
          have e191 := F.2.2.2.2.2.2.2.2.2.2.2.2.2.2.2.2.2.2.2.2.2.2.2.2.2.2.2.1
          have e191_4 := ((((e191.nw f1).ne f2 rfl).ne f3 rfl).nw f4)
          refine s_callV (as := [.int (xs 1), .int (xs 2), .int (xs 3)]) (rest := []) (d' := 16) (w' := 631) (lv' := [(0, .ref 191), (1, .int (xs 1)), (2, .int (xs 2)), (3, .int (xs 3))]) rfl e191_4 rfl rfl rfl rfl rfl rfl ?_
          refine q_aload_n rfl rfl ?_
          refine s_get (v := .int 0) rfl e191_4 rfl rfl ?_
          refine q_iconst rfl ?_
          refine q_icmp_ne rfl (fun _ => ?_) (fun c => absurd (by decide) c)
          refine q_aload_n rfl rfl ?_
          refine s_callV (as := []) (rest := []) (d' := 15) (w' := 610) (lv' := [(0, .ref 191)]) rfl e191_4 rfl rfl rfl rfl rfl rfl ?_
          refine q_iconst rfl ?_
          refine s_istore_n (lv' := [(1, .int 0), (0, .ref 191)]) rfl (by decide) rfl ?_
          refine q_iload_n rfl rfl ?_
          refine q_aload_n rfl rfl ?_
          refine s_get (v := .int 0) rfl e191_4 rfl rfl ?_
          refine q_icmp_ge rfl (fun _ => ?_) (fun c => absurd (by decide) c)
          refine q_aload_n rfl rfl ?_
          refine q_aload_n rfl rfl ?_
          refine s_get (v := .int 0) rfl e191_4 rfl rfl ?_
          refine s_put (vs' := [.int 0, .ref 192, .ref 193, .int 0, .ref 194, .ref 195, .ref 196, .ref 197, .ref 198, .ref 199, .ref 200, .ref 201, .ref 202, .ref 203, .ref 204, .ref 205, .int (-1), .int 0, .ref 206, .ref 207, .ref 208, .ref 209, .ref 210, .ref 211, .ref 212, .ref 213, .ref 214, .ref 215, .int 0, .int 0, .int 0, .int 0, .ref 216, .ref 217, .ref 218, .ref 219, .ref 220, .int (-1), .int 0, .int 0, .int 0, .int 0, .int 0, .int 0, .ref 221, .ref 222, .ref 223, .ref 224, .int 0, .ref 225, .int 0, .ref 226, .ref 227, .int 0, .ref 228, .ref 229, .ref 230, .ref 231, .ref 232]) rfl e191_4 rfl rfl rfl rfl (fun h5 o5 f5 => ?_)
          have s5 := s4.put f5
          refine q_aload_n rfl rfl ?_
          refine q_iconst rfl ?_
          refine s_put (vs' := [.int 0, .ref 192, .ref 193, .int 0, .ref 194, .ref 195, .ref 196, .ref 197, .ref 198, .ref 199, .ref 200, .ref 201, .ref 202, .ref 203, .ref 204, .ref 205, .int (-1), .int 0, .ref 206, .ref 207, .ref 208, .ref 209, .ref 210, .ref 211, .ref 212, .ref 213, .ref 214, .ref 215, .int 0, .int 0, .int 0, .int 0, .ref 216, .ref 217, .ref 218, .ref 219, .ref 220, .int (-1), .int 0, .int 0, .int 0, .int 0, .int 0, .int 0, .ref 221, .ref 222, .ref 223, .ref 224, .int 0, .ref 225, .int 0, .ref 226, .ref 227, .int 0, .ref 228, .ref 229, .ref 230, .ref 231, .ref 232]) rfl o5 rfl rfl rfl rfl (fun h6 o6 f6 => ?_)
          have s6 := s5.put f6
          refine q_return rfl rfl ?_
          show aW aiP 218 16 631 18 [(0, .ref 191), (1, .int (xs 1)), (2, .int (xs 2)), (3, .int (xs 3))] [] h6 _
          refine q_iload_n rfl rfl ?_
          refine q_iconst rfl ?_
          refine q_icmp_lt rfl (fun c => absurd c c1) (fun _ => ?_)
          refine q_iload_n rfl rfl ?_
          refine q_iconst rfl ?_
          refine q_icmp_gt rfl (fun c => absurd c c2) (fun _ => ?_)
          refine q_iload_n rfl rfl ?_
          refine q_sipush rfl ?_
          refine s_callS (as := [.int (xs 2), .int 4096]) (rest := []) (d' := 15) (w' := 610) (lv' := [(0, .int (xs 2)), (1, .int 4096)]) rfl rfl rfl rfl rfl rfl rfl rfl ?_
          refine q_iload_n rfl rfl ?_
          refine q_if_lt rfl (fun c => absurd c c3) (fun _ => ?_)
          refine q_iload_n rfl rfl ?_
          refine q_iload_n rfl rfl ?_
          refine q_icmp_ge rfl (fun c5 => ?_) (fun c5 => ?_)
          · refine q_iconst rfl ?_
            refine q_ireturn rfl rfl ?_
            show aW aiP 218 16 631 35 [(0, .ref 191), (1, .int (xs 1)), (2, .int (xs 2)), (3, .int (xs 3))] [.int 0] h6 _
            refine q_if_eq rfl (fun _ => ?_) (fun c => absurd (by decide) c)
            refine q_iconst rfl ?_
            refine q_goto rfl ?_
            refine s_istore (lv' := [(4, .int 1), (0, .ref 191), (1, .int (xs 1)), (2, .int (xs 2)), (3, .int (xs 3))]) rfl (by decide) rfl ?_
            refine q_aload_n rfl rfl ?_
            refine q_iload rfl rfl ?_
            refine q_iload rfl rfl ?_
            refine q_if_ne rfl (fun _ => ?_) (fun c => absurd (by decide) c)
            refine q_iconst rfl ?_
            refine s_callV (as := [.int 1, .int 0]) (rest := []) (d' := 15) (w' := 609) (lv' := [(0, .ref 191), (1, .int 1), (2, .int 0)]) rfl o6 rfl rfl rfl rfl rfl rfl ?_
            refine q_aload_n rfl rfl ?_
            refine q_iload_n rfl rfl ?_
            refine q_if_eq rfl (fun c => absurd c (by decide)) (fun _ => ?_)
            refine q_iconst rfl ?_
            refine q_goto rfl ?_
            refine s_put (vs' := [.int 1, .ref 192, .ref 193, .int 0, .ref 194, .ref 195, .ref 196, .ref 197, .ref 198, .ref 199, .ref 200, .ref 201, .ref 202, .ref 203, .ref 204, .ref 205, .int (-1), .int 0, .ref 206, .ref 207, .ref 208, .ref 209, .ref 210, .ref 211, .ref 212, .ref 213, .ref 214, .ref 215, .int 0, .int 0, .int 0, .int 0, .ref 216, .ref 217, .ref 218, .ref 219, .ref 220, .int (-1), .int 0, .int 0, .int 0, .int 0, .int 0, .int 0, .ref 221, .ref 222, .ref 223, .ref 224, .int 0, .ref 225, .int 0, .ref 226, .ref 227, .int 0, .ref 228, .ref 229, .ref 230, .ref 231, .ref 232]) rfl o6 rfl rfl rfl rfl (fun h7 o7 f7 => ?_)
            have s7 := s6.put f7
            refine q_aload_n rfl rfl ?_
            refine s_get (v := .int 1) rfl o7 rfl rfl ?_
            refine q_if_le rfl (fun c => absurd c (by decide)) (fun _ => ?_)
            refine q_iconst rfl ?_
            refine q_goto rfl ?_
            refine q_ireturn rfl rfl ?_
            show aW aiP 218 16 631 104 [(4, .int 1), (0, .ref 191), (1, .int (xs 1)), (2, .int (xs 2)), (3, .int (xs 3))] [.int 1] h7 _
            refine q_if_eq rfl (fun c => absurd c (by decide)) (fun _ => ?_)
            refine q_iconst rfl ?_
            refine q_ireturn rfl rfl ?_
            show aW aiP 0 17 658 295 [(5, .int 1), (4, .int 0), (3, .ref 233), (2, .ref 191), (1, .ref 6), (0, .ref 0)] [.int 0] h7 _
            refine s_istore (lv' := [(6, .int 0), (5, .int 1), (4, .int 0), (3, .ref 233), (2, .ref 191), (1, .ref 6), (0, .ref 0)]) rfl (by decide) rfl ?_
            refine q_aload_n rfl rfl ?_
            refine s_callV (as := []) (rest := []) (d' := 16) (w' := 638) (lv' := [(0, .ref 191)]) rfl o7 rfl rfl rfl rfl rfl rfl ?_
            refine q_aload_n rfl rfl ?_
            refine s_get (v := .int 1) rfl o7 rfl rfl ?_
            refine q_ireturn rfl rfl ?_
            show aW aiP 0 17 658 301 [(6, .int 0), (5, .int 1), (4, .int 0), (3, .ref 233), (2, .ref 191), (1, .ref 6), (0, .ref 0)] [.int 1] h7 _
            refine q_iload rfl rfl ?_
            refine q_icmp_eq rfl (fun _ => ?_) (fun c => absurd (by decide) c)
            refine q_iload rfl rfl ?_
            refine q_if_ne rfl (fun _ => ?_) (fun c => absurd (by decide) c)
            refine q_goto rfl ?_
            refine s_iinc (y := 6) (lv' := [(4, .int 6), (6, .int 0), (5, .int 1), (3, .ref 233), (2, .ref 191), (1, .ref 6), (0, .ref 0)]) rfl rfl (by decide) (by decide) rfl ?_
            refine q_goto rfl ?_
            refine q_iload rfl rfl ?_
            refine q_aload_n rfl rfl ?_
            have e0_7 := (f7.ne rfl (f6.ne rfl (f5.ne rfl e0_4)))
            refine s_alen (x := 6) rfl e0_7 rfl (by decide) ?_
            refine q_bipush rfl ?_
            refine s_isub (k := 0) rfl (by decide) ?_
            refine q_icmp_gt rfl (fun _ => ?_) (fun c => absurd (by decide) c)
            refine q_iconst rfl ?_
            refine q_ireturn rfl rfl ?_
            exact ⟨rfl, s7.bd rfl⟩
          · refine q_iconst rfl ?_
            refine q_goto rfl ?_
            refine q_ireturn rfl rfl ?_
            show aW aiP 218 16 631 35 [(0, .ref 191), (1, .int (xs 1)), (2, .int (xs 2)), (3, .int (xs 3))] [.int 1] h6 _
            refine q_if_eq rfl (fun c => absurd c (by decide)) (fun _ => ?_)
            refine q_iload_n rfl rfl ?_
            refine q_if_lt rfl (fun c6 => ?_) (fun c6 => ?_)
            · refine q_iconst rfl ?_
              refine q_goto rfl ?_
              refine s_istore (lv' := [(4, .int 1), (0, .ref 191), (1, .int (xs 1)), (2, .int (xs 2)), (3, .int (xs 3))]) rfl (by decide) rfl ?_
              refine q_aload_n rfl rfl ?_
              refine q_iload rfl rfl ?_
              refine q_iload rfl rfl ?_
              refine q_if_ne rfl (fun _ => ?_) (fun c => absurd (by decide) c)
              refine q_iconst rfl ?_
              refine s_callV (as := [.int 1, .int 0]) (rest := []) (d' := 15) (w' := 609) (lv' := [(0, .ref 191), (1, .int 1), (2, .int 0)]) rfl o6 rfl rfl rfl rfl rfl rfl ?_
              refine q_aload_n rfl rfl ?_
              refine q_iload_n rfl rfl ?_
              refine q_if_eq rfl (fun c => absurd c (by decide)) (fun _ => ?_)
              refine q_iconst rfl ?_
              refine q_goto rfl ?_
              refine s_put (vs' := [.int 1, .ref 192, .ref 193, .int 0, .ref 194, .ref 195, .ref 196, .ref 197, .ref 198, .ref 199, .ref 200, .ref 201, .ref 202, .ref 203, .ref 204, .ref 205, .int (-1), .int 0, .ref 206, .ref 207, .ref 208, .ref 209, .ref 210, .ref 211, .ref 212, .ref 213, .ref 214, .ref 215, .int 0, .int 0, .int 0, .int 0, .ref 216, .ref 217, .ref 218, .ref 219, .ref 220, .int (-1), .int 0, .int 0, .int 0, .int 0, .int 0, .int 0, .ref 221, .ref 222, .ref 223, .ref 224, .int 0, .ref 225, .int 0, .ref 226, .ref 227, .int 0, .ref 228, .ref 229, .ref 230, .ref 231, .ref 232]) rfl o6 rfl rfl rfl rfl (fun h7 o7 f7 => ?_)
              have s7 := s6.put f7
              refine q_aload_n rfl rfl ?_
              refine s_get (v := .int 1) rfl o7 rfl rfl ?_
              refine q_if_le rfl (fun c => absurd c (by decide)) (fun _ => ?_)
              refine q_iconst rfl ?_
              refine q_goto rfl ?_
              refine q_ireturn rfl rfl ?_
              show aW aiP 218 16 631 104 [(4, .int 1), (0, .ref 191), (1, .int (xs 1)), (2, .int (xs 2)), (3, .int (xs 3))] [.int 1] h7 _
              refine q_if_eq rfl (fun c => absurd c (by decide)) (fun _ => ?_)
              refine q_iconst rfl ?_
              refine q_ireturn rfl rfl ?_
              show aW aiP 0 17 658 295 [(5, .int 1), (4, .int 0), (3, .ref 233), (2, .ref 191), (1, .ref 6), (0, .ref 0)] [.int 0] h7 _
              refine s_istore (lv' := [(6, .int 0), (5, .int 1), (4, .int 0), (3, .ref 233), (2, .ref 191), (1, .ref 6), (0, .ref 0)]) rfl (by decide) rfl ?_
              refine q_aload_n rfl rfl ?_
              refine s_callV (as := []) (rest := []) (d' := 16) (w' := 638) (lv' := [(0, .ref 191)]) rfl o7 rfl rfl rfl rfl rfl rfl ?_
              refine q_aload_n rfl rfl ?_
              refine s_get (v := .int 1) rfl o7 rfl rfl ?_
              refine q_ireturn rfl rfl ?_
              show aW aiP 0 17 658 301 [(6, .int 0), (5, .int 1), (4, .int 0), (3, .ref 233), (2, .ref 191), (1, .ref 6), (0, .ref 0)] [.int 1] h7 _
              refine q_iload rfl rfl ?_
              refine q_icmp_eq rfl (fun _ => ?_) (fun c => absurd (by decide) c)
              refine q_iload rfl rfl ?_
              refine q_if_ne rfl (fun _ => ?_) (fun c => absurd (by decide) c)
              refine q_goto rfl ?_
              refine s_iinc (y := 6) (lv' := [(4, .int 6), (6, .int 0), (5, .int 1), (3, .ref 233), (2, .ref 191), (1, .ref 6), (0, .ref 0)]) rfl rfl (by decide) (by decide) rfl ?_
              refine q_goto rfl ?_
              refine q_iload rfl rfl ?_
              refine q_aload_n rfl rfl ?_
              have e0_7 := (f7.ne rfl (f6.ne rfl (f5.ne rfl e0_4)))
              refine s_alen (x := 6) rfl e0_7 rfl (by decide) ?_
              refine q_bipush rfl ?_
              refine s_isub (k := 0) rfl (by decide) ?_
              refine q_icmp_gt rfl (fun _ => ?_) (fun c => absurd (by decide) c)
              refine q_iconst rfl ?_
              refine q_ireturn rfl rfl ?_
              exact ⟨rfl, s7.bd rfl⟩
            · refine q_aload_n rfl rfl ?_
              refine s_callV (as := []) (rest := []) (d' := 15) (w' := 606) (lv' := [(0, .ref 191)]) rfl o6 rfl rfl rfl rfl rfl rfl ?_
              refine q_iconst rfl ?_
              refine s_istore_n (lv' := [(1, .int 1), (0, .ref 191)]) rfl (by decide) rfl ?_
              refine q_iconst rfl ?_
              refine s_istore_n (lv' := [(2, .int 0), (1, .int 1), (0, .ref 191)]) rfl (by decide) rfl ?_
              refine q_iconst rfl ?_
              refine s_istore_n (lv' := [(3, .int 0), (2, .int 0), (1, .int 1), (0, .ref 191)]) rfl (by decide) rfl ?_
              refine q_iload_n rfl rfl ?_
              refine q_aload_n rfl rfl ?_
              refine s_get (v := .int 0) rfl o6 rfl rfl ?_
              refine q_icmp_gt rfl (fun c => absurd c (by decide)) (fun _ => ?_)
              refine q_iload_n rfl rfl ?_
              refine q_aload_n rfl rfl ?_
              refine s_get (v := .int 0) rfl o6 rfl rfl ?_
              refine q_icmp_ge rfl (fun _ => ?_) (fun c => absurd (by decide) c)
              refine q_iload_n rfl rfl ?_
              refine q_aload_n rfl rfl ?_
              refine s_get (v := .int 0) rfl o6 rfl rfl ?_
              refine q_icmp_ge rfl (fun _ => ?_) (fun c => absurd (by decide) c)
              refine q_iload_n rfl rfl ?_
              refine q_iload_n rfl rfl ?_
              refine s_isub (k := 0) rfl (by decide) ?_
              refine s_istore (lv' := [(4, .int 0), (3, .int 0), (2, .int 0), (1, .int 1), (0, .ref 191)]) rfl (by decide) rfl ?_
              refine q_iload rfl rfl ?_
              refine q_iconst rfl ?_
              refine q_icmp_ge rfl (fun c => absurd c (by decide)) (fun _ => ?_)
              refine q_iload rfl rfl ?_
              refine q_if_le rfl (fun _ => ?_) (fun c => absurd (by decide) c)
              refine q_iconst rfl ?_
              refine s_istore (lv' := [(5, .int 0), (4, .int 0), (3, .int 0), (2, .int 0), (1, .int 1), (0, .ref 191)]) rfl (by decide) rfl ?_
              refine q_iload rfl rfl ?_
              refine q_iconst rfl ?_
              refine q_icmp_lt rfl (fun _ => ?_) (fun c => absurd (by decide) c)
              refine q_iconst rfl ?_
              refine q_ireturn rfl rfl ?_
              show aW aiP 218 16 631 46 [(0, .ref 191), (1, .int (xs 1)), (2, .int (xs 2)), (3, .int (xs 3))] [.int 0] h6 _
              refine q_if_ne rfl (fun c => absurd c (by decide)) (fun _ => ?_)
              refine q_iconst rfl ?_
              refine q_goto rfl ?_
              refine s_istore (lv' := [(4, .int 1), (0, .ref 191), (1, .int (xs 1)), (2, .int (xs 2)), (3, .int (xs 3))]) rfl (by decide) rfl ?_
              refine q_aload_n rfl rfl ?_
              refine q_iload rfl rfl ?_
              refine q_iload rfl rfl ?_
              refine q_if_ne rfl (fun _ => ?_) (fun c => absurd (by decide) c)
              refine q_iconst rfl ?_
              refine s_callV (as := [.int 1, .int 0]) (rest := []) (d' := 15) (w' := 609) (lv' := [(0, .ref 191), (1, .int 1), (2, .int 0)]) rfl o6 rfl rfl rfl rfl rfl rfl ?_
              refine q_aload_n rfl rfl ?_
              refine q_iload_n rfl rfl ?_
              refine q_if_eq rfl (fun c => absurd c (by decide)) (fun _ => ?_)
              refine q_iconst rfl ?_
              refine q_goto rfl ?_
              refine s_put (vs' := [.int 1, .ref 192, .ref 193, .int 0, .ref 194, .ref 195, .ref 196, .ref 197, .ref 198, .ref 199, .ref 200, .ref 201, .ref 202, .ref 203, .ref 204, .ref 205, .int (-1), .int 0, .ref 206, .ref 207, .ref 208, .ref 209, .ref 210, .ref 211, .ref 212, .ref 213, .ref 214, .ref 215, .int 0, .int 0, .int 0, .int 0, .ref 216, .ref 217, .ref 218, .ref 219, .ref 220, .int (-1), .int 0, .int 0, .int 0, .int 0, .int 0, .int 0, .ref 221, .ref 222, .ref 223, .ref 224, .int 0, .ref 225, .int 0, .ref 226, .ref 227, .int 0, .ref 228, .ref 229, .ref 230, .ref 231, .ref 232]) rfl o6 rfl rfl rfl rfl (fun h7 o7 f7 => ?_)
              have s7 := s6.put f7
              refine q_aload_n rfl rfl ?_
              refine s_get (v := .int 1) rfl o7 rfl rfl ?_
              refine q_if_le rfl (fun c => absurd c (by decide)) (fun _ => ?_)
              refine q_iconst rfl ?_
              refine q_goto rfl ?_
              refine q_ireturn rfl rfl ?_
              show aW aiP 218 16 631 104 [(4, .int 1), (0, .ref 191), (1, .int (xs 1)), (2, .int (xs 2)), (3, .int (xs 3))] [.int 1] h7 _
              refine q_if_eq rfl (fun c => absurd c (by decide)) (fun _ => ?_)
              refine q_iconst rfl ?_
              refine q_ireturn rfl rfl ?_
              show aW aiP 0 17 658 295 [(5, .int 1), (4, .int 0), (3, .ref 233), (2, .ref 191), (1, .ref 6), (0, .ref 0)] [.int 0] h7 _
              refine s_istore (lv' := [(6, .int 0), (5, .int 1), (4, .int 0), (3, .ref 233), (2, .ref 191), (1, .ref 6), (0, .ref 0)]) rfl (by decide) rfl ?_
              refine q_aload_n rfl rfl ?_
              refine s_callV (as := []) (rest := []) (d' := 16) (w' := 638) (lv' := [(0, .ref 191)]) rfl o7 rfl rfl rfl rfl rfl rfl ?_
              refine q_aload_n rfl rfl ?_
              refine s_get (v := .int 1) rfl o7 rfl rfl ?_
              refine q_ireturn rfl rfl ?_
              show aW aiP 0 17 658 301 [(6, .int 0), (5, .int 1), (4, .int 0), (3, .ref 233), (2, .ref 191), (1, .ref 6), (0, .ref 0)] [.int 1] h7 _
              refine q_iload rfl rfl ?_
              refine q_icmp_eq rfl (fun _ => ?_) (fun c => absurd (by decide) c)
              refine q_iload rfl rfl ?_
              refine q_if_ne rfl (fun _ => ?_) (fun c => absurd (by decide) c)
              refine q_goto rfl ?_
              refine s_iinc (y := 6) (lv' := [(4, .int 6), (6, .int 0), (5, .int 1), (3, .ref 233), (2, .ref 191), (1, .ref 6), (0, .ref 0)]) rfl rfl (by decide) (by decide) rfl ?_
              refine q_goto rfl ?_
              refine q_iload rfl rfl ?_
              refine q_aload_n rfl rfl ?_
              have e0_7 := (f7.ne rfl (f6.ne rfl (f5.ne rfl e0_4)))
              refine s_alen (x := 6) rfl e0_7 rfl (by decide) ?_
              refine q_bipush rfl ?_
              refine s_isub (k := 0) rfl (by decide) ?_
              refine q_icmp_gt rfl (fun _ => ?_) (fun c => absurd (by decide) c)
              refine q_iconst rfl ?_
              refine q_ireturn rfl rfl ?_
              exact ⟨rfl, s7.bd rfl⟩
        · refine q_iload_n rfl rfl ?_
          refine q_if_lt rfl (fun c7 => ?_) (fun c7 => ?_)
          · refine q_iconst rfl ?_
            refine q_ireturn rfl rfl ?_
            show aW aiP 61 15 607 37 [(4, .ref 234), (0, .ref 6), (1, .int (xs 1)), (2, .int (xs 2)), (3, .int (xs 3))] [.int 0] h3 _
            refine q_if_eq rfl (fun _ => ?_) (fun c => absurd (by decide) c)
            refine s_thr rfl rfl rfl ?_
            refine ⟨rfl, Or.inl ⟨15, rfl, fun h4 f4 l4 => ?_⟩⟩
            have s4 := Hs.exc s3 f4 l4
            show aW aiP 60 16 633 15 [(0, .ref 6), (1, .int (xs 1)), (2, .int (xs 2)), (3, .int (xs 3)), (4, .ref 233)] [.ref (h3.length)] h4 _
            refine s_astore (lv' := [(5, .ref (h3.length)), (0, .ref 6), (1, .int (xs 1)), (2, .int (xs 2)), (3, .int (xs 3)), (4, .ref 233)]) rfl (by decide) rfl ?_
            refine q_iconst rfl ?_
            refine q_ireturn rfl rfl ?_
            show aW aiP 0 17 658 271 [(4, .int 0), (3, .ref 233), (2, .ref 191), (1, .ref 6), (0, .ref 0)] [.int 1] h4 _
            refine s_istore (lv' := [(5, .int 1), (4, .int 0), (3, .ref 233), (2, .ref 191), (1, .ref 6), (0, .ref 0)]) rfl (by decide) rfl ?_
            refine q_aload_n rfl rfl ?_
            refine q_aload_n rfl rfl ?_
            refine q_iload rfl rfl ?_
            refine q_iconst rfl ?_
            refine s_iadd (k := 1) rfl (by decide) ?_
            have e0_4 := (f4.nw (f3.ne rfl (f2.ne rfl (f1.nw e0))))
            refine s_iaload (j := 1) (v := .int (xs 1)) rfl e0_4 (by decide) rfl (by first | rfl | decide) ?_
            refine q_aload_n rfl rfl ?_
            refine q_iload rfl rfl ?_
            refine q_iconst rfl ?_
            refine s_iadd (k := 2) rfl (by decide) ?_
            refine s_iaload (j := 2) (v := .int (xs 2)) rfl e0_4 (by decide) rfl (by first | rfl | decide) ?_
            refine q_aload_n rfl rfl ?_
            refine q_iload rfl rfl ?_
            refine q_iconst rfl ?_
            refine s_iadd (k := 3) rfl (by decide) ?_
            refine s_iaload (j := 3) (v := .int (xs 3)) rfl e0_4 (by decide) rfl (by first | rfl | decide) ?_
            have e191 := F.2.2.2.2.2.2.2.2.2.2.2.2.2.2.2.2.2.2.2.2.2.2.2.2.2.2.2.1
            have e191_4 := ((((e191.nw f1).ne f2 rfl).ne f3 rfl).nw f4)
            refine s_callV (as := [.int (xs 1), .int (xs 2), .int (xs 3)]) (rest := []) (d' := 16) (w' := 631) (lv' := [(0, .ref 191), (1, .int (xs 1)), (2, .int (xs 2)), (3, .int (xs 3))]) rfl e191_4 rfl rfl rfl rfl rfl rfl ?_
            refine q_aload_n rfl rfl ?_
            refine s_get (v := .int 0) rfl e191_4 rfl rfl ?_
            refine q_iconst rfl ?_
            refine q_icmp_ne rfl (fun _ => ?_) (fun c => absurd (by decide) c)
            refine q_aload_n rfl rfl ?_
            refine s_callV (as := []) (rest := []) (d' := 15) (w' := 610) (lv' := [(0, .ref 191)]) rfl e191_4 rfl rfl rfl rfl rfl rfl ?_
            refine q_iconst rfl ?_
            refine s_istore_n (lv' := [(1, .int 0), (0, .ref 191)]) rfl (by decide) rfl ?_
            refine q_iload_n rfl rfl ?_
            refine q_aload_n rfl rfl ?_
            refine s_get (v := .int 0) rfl e191_4 rfl rfl ?_
            refine q_icmp_ge rfl (fun _ => ?_) (fun c => absurd (by decide) c)
            refine q_aload_n rfl rfl ?_
            refine q_aload_n rfl rfl ?_
            refine s_get (v := .int 0) rfl e191_4 rfl rfl ?_
            refine s_put (vs' := [.int 0, .ref 192, .ref 193, .int 0, .ref 194, .ref 195, .ref 196, .ref 197, .ref 198, .ref 199, .ref 200, .ref 201, .ref 202, .ref 203, .ref 204, .ref 205, .int (-1), .int 0, .ref 206, .ref 207, .ref 208, .ref 209, .ref 210, .ref 211, .ref 212, .ref 213, .ref 214, .ref 215, .int 0, .int 0, .int 0, .int 0, .ref 216, .ref 217, .ref 218, .ref 219, .ref 220, .int (-1), .int 0, .int 0, .int 0, .int 0, .int 0, .int 0, .ref 221, .ref 222, .ref 223, .ref 224, .int 0, .ref 225, .int 0, .ref 226, .ref 227, .int 0, .ref 228, .ref 229, .ref 230, .ref 231, .ref 232]) rfl e191_4 rfl rfl rfl rfl (fun h5 o5 f5 => ?_)
            have s5 := s4.put f5
            refine q_aload_n rfl rfl ?_
            refine q_iconst rfl ?_
            refine s_put (vs' := [.int 0, .ref 192, .ref 193, .int 0, .ref 194, .ref 195, .ref 196, .ref 197, .ref 198, .ref 199, .ref 200, .ref 201, .ref 202, .ref 203, .ref 204, .ref 205, .int (-1), .int 0, .ref 206, .ref 207, .ref 208, .ref 209, .ref 210, .ref 211, .ref 212, .ref 213, .ref 214, .ref 215, .int 0, .int 0, .int 0, .int 0, .ref 216, .ref 217, .ref 218, .ref 219, .ref 220, .int (-1), .int 0, .int 0, .int 0, .int 0, .int 0, .int 0, .ref 221, .ref 222, .ref 223, .ref 224, .int 0, .ref 225, .int 0, .ref 226, .ref 227, .int 0, .ref 228, .ref 229, .ref 230, .ref 231, .ref 232]) rfl o5 rfl rfl rfl rfl (fun h6 o6 f6 => ?_)
            have s6 := s5.put f6
            refine q_return rfl rfl ?_
            show aW aiP 218 16 631 18 [(0, .ref 191), (1, .int (xs 1)), (2, .int (xs 2)), (3, .int (xs 3))] [] h6 _
            refine q_iload_n rfl rfl ?_
            refine q_iconst rfl ?_
            refine q_icmp_lt rfl (fun c => absurd c c1) (fun _ => ?_)
            refine q_iload_n rfl rfl ?_
            refine q_iconst rfl ?_
            refine q_icmp_gt rfl (fun c => absurd c c2) (fun _ => ?_)
            refine q_iload_n rfl rfl ?_
            refine q_sipush rfl ?_
            refine s_callS (as := [.int (xs 2), .int 4096]) (rest := []) (d' := 15) (w' := 610) (lv' := [(0, .int (xs 2)), (1, .int 4096)]) rfl rfl rfl rfl rfl rfl rfl rfl ?_
            refine q_iload_n rfl rfl ?_
            refine q_if_lt rfl (fun c => absurd c c3) (fun _ => ?_)
            refine q_iload_n rfl rfl ?_
            refine q_iload_n rfl rfl ?_
            refine q_icmp_ge rfl (fun c8 => ?_) (fun c8 => ?_)
            · refine q_iconst rfl ?_
              refine q_ireturn rfl rfl ?_
              show aW aiP 218 16 631 35 [(0, .ref 191), (1, .int (xs 1)), (2, .int (xs 2)), (3, .int (xs 3))] [.int 0] h6 _
              refine q_if_eq rfl (fun _ => ?_) (fun c => absurd (by decide) c)
              refine q_iconst rfl ?_
              refine q_goto rfl ?_
              refine s_istore (lv' := [(4, .int 1), (0, .ref 191), (1, .int (xs 1)), (2, .int (xs 2)), (3, .int (xs 3))]) rfl (by decide) rfl ?_
              refine q_aload_n rfl rfl ?_
              refine q_iload rfl rfl ?_
              refine q_iload rfl rfl ?_
              refine q_if_ne rfl (fun _ => ?_) (fun c => absurd (by decide) c)
              refine q_iconst rfl ?_
              refine s_callV (as := [.int 1, .int 0]) (rest := []) (d' := 15) (w' := 609) (lv' := [(0, .ref 191), (1, .int 1), (2, .int 0)]) rfl o6 rfl rfl rfl rfl rfl rfl ?_
              refine q_aload_n rfl rfl ?_
              refine q_iload_n rfl rfl ?_
              refine q_if_eq rfl (fun c => absurd c (by decide)) (fun _ => ?_)
              refine q_iconst rfl ?_
              refine q_goto rfl ?_
              refine s_put (vs' := [.int 1, .ref 192, .ref 193, .int 0, .ref 194, .ref 195, .ref 196, .ref 197, .ref 198, .ref 199, .ref 200, .ref 201, .ref 202, .ref 203, .ref 204, .ref 205, .int (-1), .int 0, .ref 206, .ref 207, .ref 208, .ref 209, .ref 210, .ref 211, .ref 212, .ref 213, .ref 214, .ref 215, .int 0, .int 0, .int 0, .int 0, .ref 216, .ref 217, .ref 218, .ref 219, .ref 220, .int (-1), .int 0, .int 0, .int 0, .int 0, .int 0, .int 0, .ref 221, .ref 222, .ref 223, .ref 224, .int 0, .ref 225, .int 0, .ref 226, .ref 227, .int 0, .ref 228, .ref 229, .ref 230, .ref 231, .ref 232]) rfl o6 rfl rfl rfl rfl (fun h7 o7 f7 => ?_)
              have s7 := s6.put f7
              refine q_aload_n rfl rfl ?_
              refine s_get (v := .int 1) rfl o7 rfl rfl ?_
              refine q_if_le rfl (fun c => absurd c (by decide)) (fun _ => ?_)
              refine q_iconst rfl ?_
              refine q_goto rfl ?_
              refine q_ireturn rfl rfl ?_
              show aW aiP 218 16 631 104 [(4, .int 1), (0, .ref 191), (1, .int (xs 1)), (2, .int (xs 2)), (3, .int (xs 3))] [.int 1] h7 _
              refine q_if_eq rfl (fun c => absurd c (by decide)) (fun _ => ?_)
              refine q_iconst rfl ?_
              refine q_ireturn rfl rfl ?_
              show aW aiP 0 17 658 295 [(5, .int 1), (4, .int 0), (3, .ref 233), (2, .ref 191), (1, .ref 6), (0, .ref 0)] [.int 0] h7 _
              refine s_istore (lv' := [(6, .int 0), (5, .int 1), (4, .int 0), (3, .ref 233), (2, .ref 191), (1, .ref 6), (0, .ref 0)]) rfl (by decide) rfl ?_
              refine q_aload_n rfl rfl ?_
              refine s_callV (as := []) (rest := []) (d' := 16) (w' := 638) (lv' := [(0, .ref 191)]) rfl o7 rfl rfl rfl rfl rfl rfl ?_
              refine q_aload_n rfl rfl ?_
              refine s_get (v := .int 1) rfl o7 rfl rfl ?_
              refine q_ireturn rfl rfl ?_
              show aW aiP 0 17 658 301 [(6, .int 0), (5, .int 1), (4, .int 0), (3, .ref 233), (2, .ref 191), (1, .ref 6), (0, .ref 0)] [.int 1] h7 _
              refine q_iload rfl rfl ?_
              refine q_icmp_eq rfl (fun _ => ?_) (fun c => absurd (by decide) c)
              refine q_iload rfl rfl ?_
              refine q_if_ne rfl (fun _ => ?_) (fun c => absurd (by decide) c)
              refine q_goto rfl ?_
              refine s_iinc (y := 6) (lv' := [(4, .int 6), (6, .int 0), (5, .int 1), (3, .ref 233), (2, .ref 191), (1, .ref 6), (0, .ref 0)]) rfl rfl (by decide) (by decide) rfl ?_
              refine q_goto rfl ?_
              refine q_iload rfl rfl ?_
              refine q_aload_n rfl rfl ?_
              have e0_7 := (f7.ne rfl (f6.ne rfl (f5.ne rfl e0_4)))
              refine s_alen (x := 6) rfl e0_7 rfl (by decide) ?_
              refine q_bipush rfl ?_
              refine s_isub (k := 0) rfl (by decide) ?_
              refine q_icmp_gt rfl (fun _ => ?_) (fun c => absurd (by decide) c)
              refine q_iconst rfl ?_
              refine q_ireturn rfl rfl ?_
              exact ⟨rfl, s7.bd rfl⟩
            · refine q_iconst rfl ?_
              refine q_goto rfl ?_
              refine q_ireturn rfl rfl ?_
              show aW aiP 218 16 631 35 [(0, .ref 191), (1, .int (xs 1)), (2, .int (xs 2)), (3, .int (xs 3))] [.int 1] h6 _
              refine q_if_eq rfl (fun c => absurd c (by decide)) (fun _ => ?_)
              refine q_iload_n rfl rfl ?_
              refine q_if_lt rfl (fun _ => ?_) (fun c => absurd c7 c)
              refine q_iconst rfl ?_
              refine q_goto rfl ?_
              refine s_istore (lv' := [(4, .int 1), (0, .ref 191), (1, .int (xs 1)), (2, .int (xs 2)), (3, .int (xs 3))]) rfl (by decide) rfl ?_
              refine q_aload_n rfl rfl ?_
              refine q_iload rfl rfl ?_
              refine q_iload rfl rfl ?_
              refine q_if_ne rfl (fun _ => ?_) (fun c => absurd (by decide) c)
              refine q_iconst rfl ?_
              refine s_callV (as := [.int 1, .int 0]) (rest := []) (d' := 15) (w' := 609) (lv' := [(0, .ref 191), (1, .int 1), (2, .int 0)]) rfl o6 rfl rfl rfl rfl rfl rfl ?_
              refine q_aload_n rfl rfl ?_
              refine q_iload_n rfl rfl ?_
              refine q_if_eq rfl (fun c => absurd c (by decide)) (fun _ => ?_)
              refine q_iconst rfl ?_
              refine q_goto rfl ?_
              refine s_put (vs' := [.int 1, .ref 192, .ref 193, .int 0, .ref 194, .ref 195, .ref 196, .ref 197, .ref 198, .ref 199, .ref 200, .ref 201, .ref 202, .ref 203, .ref 204, .ref 205, .int (-1), .int 0, .ref 206, .ref 207, .ref 208, .ref 209, .ref 210, .ref 211, .ref 212, .ref 213, .ref 214, .ref 215, .int 0, .int 0, .int 0, .int 0, .ref 216, .ref 217, .ref 218, .ref 219, .ref 220, .int (-1), .int 0, .int 0, .int 0, .int 0, .int 0, .int 0, .ref 221, .ref 222, .ref 223, .ref 224, .int 0, .ref 225, .int 0, .ref 226, .ref 227, .int 0, .ref 228, .ref 229, .ref 230, .ref 231, .ref 232]) rfl o6 rfl rfl rfl rfl (fun h7 o7 f7 => ?_)
              have s7 := s6.put f7
              refine q_aload_n rfl rfl ?_
              refine s_get (v := .int 1) rfl o7 rfl rfl ?_
              refine q_if_le rfl (fun c => absurd c (by decide)) (fun _ => ?_)
              refine q_iconst rfl ?_
              refine q_goto rfl ?_
              refine q_ireturn rfl rfl ?_
              show aW aiP 218 16 631 104 [(4, .int 1), (0, .ref 191), (1, .int (xs 1)), (2, .int (xs 2)), (3, .int (xs 3))] [.int 1] h7 _
              refine q_if_eq rfl (fun c => absurd c (by decide)) (fun _ => ?_)
              refine q_iconst rfl ?_
              refine q_ireturn rfl rfl ?_
              show aW aiP 0 17 658 295 [(5, .int 1), (4, .int 0), (3, .ref 233), (2, .ref 191), (1, .ref 6), (0, .ref 0)] [.int 0] h7 _
              refine s_istore (lv' := [(6, .int 0), (5, .int 1), (4, .int 0), (3, .ref 233), (2, .ref 191), (1, .ref 6), (0, .ref 0)]) rfl (by decide) rfl ?_
              refine q_aload_n rfl rfl ?_
              refine s_callV (as := []) (rest := []) (d' := 16) (w' := 638) (lv' := [(0, .ref 191)]) rfl o7 rfl rfl rfl rfl rfl rfl ?_
              refine q_aload_n rfl rfl ?_
              refine s_get (v := .int 1) rfl o7 rfl rfl ?_
              refine q_ireturn rfl rfl ?_
              show aW aiP 0 17 658 301 [(6, .int 0), (5, .int 1), (4, .int 0), (3, .ref 233), (2, .ref 191), (1, .ref 6), (0, .ref 0)] [.int 1] h7 _
              refine q_iload rfl rfl ?_
              refine q_icmp_eq rfl (fun _ => ?_) (fun c => absurd (by decide) c)
              refine q_iload rfl rfl ?_
              refine q_if_ne rfl (fun _ => ?_) (fun c => absurd (by decide) c)
              refine q_goto rfl ?_
              refine s_iinc (y := 6) (lv' := [(4, .int 6), (6, .int 0), (5, .int 1), (3, .ref 233), (2, .ref 191), (1, .ref 6), (0, .ref 0)]) rfl rfl (by decide) (by decide) rfl ?_
              refine q_goto rfl ?_
              refine q_iload rfl rfl ?_
              refine q_aload_n rfl rfl ?_
              have e0_7 := (f7.ne rfl (f6.ne rfl (f5.ne rfl e0_4)))
              refine s_alen (x := 6) rfl e0_7 rfl (by decide) ?_
              refine q_bipush rfl ?_
              refine s_isub (k := 0) rfl (by decide) ?_
              refine q_icmp_gt rfl (fun _ => ?_) (fun c => absurd (by decide) c)
              refine q_iconst rfl ?_
              refine q_ireturn rfl rfl ?_
              exact ⟨rfl, s7.bd rfl⟩
          · refine q_iconst rfl ?_
            refine q_goto rfl ?_
            refine q_ireturn rfl rfl ?_
            show aW aiP 61 15 607 37 [(4, .ref 234), (0, .ref 6), (1, .int (xs 1)), (2, .int (xs 2)), (3, .int (xs 3))] [.int 1] h3 _
            refine q_if_eq rfl (fun c => absurd c (by decide)) (fun _ => ?_)
            refine q_aload rfl rfl ?_
            refine s_callS (as := [.ref 234]) (rest := []) (d' := 14) (w' := 584) (lv' := [(0, .ref 234)]) rfl rfl rfl rfl rfl rfl rfl rfl ?_
            refine q_iconst rfl ?_
            refine s_istore_n (lv' := [(1, .int 0), (0, .ref 234)]) rfl (by decide) rfl ?_
            refine q_iconst rfl ?_
            refine s_istore_n (lv' := [(2, .int 0), (1, .int 0), (0, .ref 234)]) rfl (by decide) rfl ?_
            refine q_iconst rfl ?_
            refine s_istore_n (lv' := [(3, .int 0), (2, .int 0), (1, .int 0), (0, .ref 234)]) rfl (by decide) rfl ?_
            refine q_iload_n rfl rfl ?_
            refine q_aload_n rfl rfl ?_
            have e234_3 := (f3.ne rfl o2)
            refine s_alen (x := 0) rfl e234_3 rfl (by decide) ?_
            refine q_icmp_gt rfl (fun c => absurd c (by decide)) (fun _ => ?_)
            refine q_iload_n rfl rfl ?_
            refine q_aload_n rfl rfl ?_
            refine s_alen (x := 0) rfl e234_3 rfl (by decide) ?_
            refine q_icmp_eq rfl (fun _ => ?_) (fun c => absurd (by decide) c)
            refine q_aload_n rfl rfl ?_
            refine q_iload_n rfl rfl ?_
            refine q_iload_n rfl rfl ?_
            refine s_callS (as := [.ref 234, .int 0, .int 0]) (rest := []) (d' := 13) (w' := 559) (lv' := [(0, .ref 234), (1, .int 0), (2, .int 0)]) rfl rfl rfl rfl rfl rfl rfl rfl ?_
            refine q_iload_n rfl rfl ?_
            refine q_iload_n rfl rfl ?_
            refine s_isub (k := 0) rfl (by decide) ?_
            refine s_istore_n (lv' := [(3, .int 0), (0, .ref 234), (1, .int 0), (2, .int 0)]) rfl (by decide) rfl ?_
            refine q_iload_n rfl rfl ?_
            refine q_iconst rfl ?_
            refine q_icmp_lt rfl (fun _ => ?_) (fun c => absurd (by decide) c)
            refine q_iconst rfl ?_
            refine q_ireturn rfl rfl ?_
            show aW aiP 21 14 584 32 [(3, .int 0), (2, .int 0), (1, .int 0), (0, .ref 234)] [.int 0] h3 _
            refine q_if_ne rfl (fun c => absurd c (by decide)) (fun _ => ?_)
            refine q_iconst rfl ?_
            refine q_ireturn rfl rfl ?_
            show aW aiP 61 15 607 45 [(4, .ref 234), (0, .ref 6), (1, .int (xs 1)), (2, .int (xs 2)), (3, .int (xs 3))] [.int 0] h3 _
            refine q_if_ne rfl (fun c => absurd c (by decide)) (fun _ => ?_)
            refine s_thr rfl rfl rfl ?_
            refine ⟨rfl, Or.inl ⟨15, rfl, fun h4 f4 l4 => ?_⟩⟩
            have s4 := Hs.exc s3 f4 l4
            show aW aiP 60 16 633 15 [(0, .ref 6), (1, .int (xs 1)), (2, .int (xs 2)), (3, .int (xs 3)), (4, .ref 233)] [.ref (h3.length)] h4 _
            refine s_astore (lv' := [(5, .ref (h3.length)), (0, .ref 6), (1, .int (xs 1)), (2, .int (xs 2)), (3, .int (xs 3)), (4, .ref 233)]) rfl (by decide) rfl ?_
            refine q_iconst rfl ?_
            refine q_ireturn rfl rfl ?_
            show aW aiP 0 17 658 271 [(4, .int 0), (3, .ref 233), (2, .ref 191), (1, .ref 6), (0, .ref 0)] [.int 1] h4 _
            refine s_istore (lv' := [(5, .int 1), (4, .int 0), (3, .ref 233), (2, .ref 191), (1, .ref 6), (0, .ref 0)]) rfl (by decide) rfl ?_
            refine q_aload_n rfl rfl ?_
            refine q_aload_n rfl rfl ?_
            refine q_iload rfl rfl ?_
            refine q_iconst rfl ?_
            refine s_iadd (k := 1) rfl (by decide) ?_
            have e0_4 := (f4.nw (f3.ne rfl (f2.ne rfl (f1.nw e0))))
            refine s_iaload (j := 1) (v := .int (xs 1)) rfl e0_4 (by decide) rfl (by first | rfl | decide) ?_
            refine q_aload_n rfl rfl ?_
            refine q_iload rfl rfl ?_
            refine q_iconst rfl ?_
            refine s_iadd (k := 2) rfl (by decide) ?_
            refine s_iaload (j := 2) (v := .int (xs 2)) rfl e0_4 (by decide) rfl (by first | rfl | decide) ?_
            refine q_aload_n rfl rfl ?_
            refine q_iload rfl rfl ?_
            refine q_iconst rfl ?_
            refine s_iadd (k := 3) rfl (by decide) ?_
            refine s_iaload (j := 3) (v := .int (xs 3)) rfl e0_4 (by decide) rfl (by first | rfl | decide) ?_
            have e191 := F.2.2.2.2.2.2.2.2.2.2.2.2.2.2.2.2.2.2.2.2.2.2.2.2.2.2.2.1
            have e191_4 := ((((e191.nw f1).ne f2 rfl).ne f3 rfl).nw f4)
            refine s_callV (as := [.int (xs 1), .int (xs 2), .int (xs 3)]) (rest := []) (d' := 16) (w' := 631) (lv' := [(0, .ref 191), (1, .int (xs 1)), (2, .int (xs 2)), (3, .int (xs 3))]) rfl e191_4 rfl rfl rfl rfl rfl rfl ?_
            refine q_aload_n rfl rfl ?_
            refine s_get (v := .int 0) rfl e191_4 rfl rfl ?_
            refine q_iconst rfl ?_
            refine q_icmp_ne rfl (fun _ => ?_) (fun c => absurd (by decide) c)
            refine q_aload_n rfl rfl ?_
            refine s_callV (as := []) (rest := []) (d' := 15) (w' := 610) (lv' := [(0, .ref 191)]) rfl e191_4 rfl rfl rfl rfl rfl rfl ?_
            refine q_iconst rfl ?_
            refine s_istore_n (lv' := [(1, .int 0), (0, .ref 191)]) rfl (by decide) rfl ?_
            refine q_iload_n rfl rfl ?_
            refine q_aload_n rfl rfl ?_
            refine s_get (v := .int 0) rfl e191_4 rfl rfl ?_
            refine q_icmp_ge rfl (fun _ => ?_) (fun c => absurd (by decide) c)
            refine q_aload_n rfl rfl ?_
            refine q_aload_n rfl rfl ?_
            refine s_get (v := .int 0) rfl e191_4 rfl rfl ?_
            refine s_put (vs' := [.int 0, .ref 192, .ref 193, .int 0, .ref 194, .ref 195, .ref 196, .ref 197, .ref 198, .ref 199, .ref 200, .ref 201, .ref 202, .ref 203, .ref 204, .ref 205, .int (-1), .int 0, .ref 206, .ref 207, .ref 208, .ref 209, .ref 210, .ref 211, .ref 212, .ref 213, .ref 214, .ref 215, .int 0, .int 0, .int 0, .int 0, .ref 216, .ref 217, .ref 218, .ref 219, .ref 220, .int (-1), .int 0, .int 0, .int 0, .int 0, .int 0, .int 0, .ref 221, .ref 222, .ref 223, .ref 224, .int 0, .ref 225, .int 0, .ref 226, .ref 227, .int 0, .ref 228, .ref 229, .ref 230, .ref 231, .ref 232]) rfl e191_4 rfl rfl rfl rfl (fun h5 o5 f5 => ?_)
            have s5 := s4.put f5
            refine q_aload_n rfl rfl ?_
            refine q_iconst rfl ?_
            refine s_put (vs' := [.int 0, .ref 192, .ref 193, .int 0, .ref 194, .ref 195, .ref 196, .ref 197, .ref 198, .ref 199, .ref 200, .ref 201, .ref 202, .ref 203, .ref 204, .ref 205, .int (-1), .int 0, .ref 206, .ref 207, .ref 208, .ref 209, .ref 210, .ref 211, .ref 212, .ref 213, .ref 214, .ref 215, .int 0, .int 0, .int 0, .int 0, .ref 216, .ref 217, .ref 218, .ref 219, .ref 220, .int (-1), .int 0, .int 0, .int 0, .int 0, .int 0, .int 0, .ref 221, .ref 222, .ref 223, .ref 224, .int 0, .ref 225, .int 0, .ref 226, .ref 227, .int 0, .ref 228, .ref 229, .ref 230, .ref 231, .ref 232]) rfl o5 rfl rfl rfl rfl (fun h6 o6 f6 => ?_)
            have s6 := s5.put f6
            refine q_return rfl rfl ?_
            show aW aiP 218 16 631 18 [(0, .ref 191), (1, .int (xs 1)), (2, .int (xs 2)), (3, .int (xs 3))] [] h6 _
            refine q_iload_n rfl rfl ?_
            refine q_iconst rfl ?_
            refine q_icmp_lt rfl (fun c => absurd c c1) (fun _ => ?_)
            refine q_iload_n rfl rfl ?_
            refine q_iconst rfl ?_
            refine q_icmp_gt rfl (fun c => absurd c c2) (fun _ => ?_)
            refine q_iload_n rfl rfl ?_
            refine q_sipush rfl ?_
            refine s_callS (as := [.int (xs 2), .int 4096]) (rest := []) (d' := 15) (w' := 610) (lv' := [(0, .int (xs 2)), (1, .int 4096)]) rfl rfl rfl rfl rfl rfl rfl rfl ?_
            refine q_iload_n rfl rfl ?_
            refine q_if_lt rfl (fun c => absurd c c3) (fun _ => ?_)
            refine q_iload_n rfl rfl ?_
            refine q_iload_n rfl rfl ?_
            refine q_icmp_ge rfl (fun c9 => ?_) (fun c9 => ?_)
            · refine q_iconst rfl ?_
              refine q_ireturn rfl rfl ?_
              show aW aiP 218 16 631 35 [(0, .ref 191), (1, .int (xs 1)), (2, .int (xs 2)), (3, .int (xs 3))] [.int 0] h6 _
              refine q_if_eq rfl (fun _ => ?_) (fun c => absurd (by decide) c)
              refine q_iconst rfl ?_
              refine q_goto rfl ?_
              refine s_istore (lv' := [(4, .int 1), (0, .ref 191), (1, .int (xs 1)), (2, .int (xs 2)), (3, .int (xs 3))]) rfl (by decide) rfl ?_
              refine q_aload_n rfl rfl ?_
              refine q_iload rfl rfl ?_
              refine q_iload rfl rfl ?_
              refine q_if_ne rfl (fun _ => ?_) (fun c => absurd (by decide) c)
              refine q_iconst rfl ?_
              refine s_callV (as := [.int 1, .int 0]) (rest := []) (d' := 15) (w' := 609) (lv' := [(0, .ref 191), (1, .int 1), (2, .int 0)]) rfl o6 rfl rfl rfl rfl rfl rfl ?_
              refine q_aload_n rfl rfl ?_
              refine q_iload_n rfl rfl ?_
              refine q_if_eq rfl (fun c => absurd c (by decide)) (fun _ => ?_)
              refine q_iconst rfl ?_
              refine q_goto rfl ?_
              refine s_put (vs' := [.int 1, .ref 192, .ref 193, .int 0, .ref 194, .ref 195, .ref 196, .ref 197, .ref 198, .ref 199, .ref 200, .ref 201, .ref 202, .ref 203, .ref 204, .ref 205, .int (-1), .int 0, .ref 206, .ref 207, .ref 208, .ref 209, .ref 210, .ref 211, .ref 212, .ref 213, .ref 214, .ref 215, .int 0, .int 0, .int 0, .int 0, .ref 216, .ref 217, .ref 218, .ref 219, .ref 220, .int (-1), .int 0, .int 0, .int 0, .int 0, .int 0, .int 0, .ref 221, .ref 222, .ref 223, .ref 224, .int 0, .ref 225, .int 0, .ref 226, .ref 227, .int 0, .ref 228, .ref 229, .ref 230, .ref 231, .ref 232]) rfl o6 rfl rfl rfl rfl (fun h7 o7 f7 => ?_)
              have s7 := s6.put f7
              refine q_aload_n rfl rfl ?_
              refine s_get (v := .int 1) rfl o7 rfl rfl ?_
              refine q_if_le rfl (fun c => absurd c (by decide)) (fun _ => ?_)
              refine q_iconst rfl ?_
              refine q_goto rfl ?_
              refine q_ireturn rfl rfl ?_
              show aW aiP 218 16 631 104 [(4, .int 1), (0, .ref 191), (1, .int (xs 1)), (2, .int (xs 2)), (3, .int (xs 3))] [.int 1] h7 _
              refine q_if_eq rfl (fun c => absurd c (by decide)) (fun _ => ?_)
              refine q_iconst rfl ?_
              refine q_ireturn rfl rfl ?_
              show aW aiP 0 17 658 295 [(5, .int 1), (4, .int 0), (3, .ref 233), (2, .ref 191), (1, .ref 6), (0, .ref 0)] [.int 0] h7 _
              refine s_istore (lv' := [(6, .int 0), (5, .int 1), (4, .int 0), (3, .ref 233), (2, .ref 191), (1, .ref 6), (0, .ref 0)]) rfl (by decide) rfl ?_
              refine q_aload_n rfl rfl ?_
              refine s_callV (as := []) (rest := []) (d' := 16) (w' := 638) (lv' := [(0, .ref 191)]) rfl o7 rfl rfl rfl rfl rfl rfl ?_
              refine q_aload_n rfl rfl ?_
              refine s_get (v := .int 1) rfl o7 rfl rfl ?_
              refine q_ireturn rfl rfl ?_
              show aW aiP 0 17 658 301 [(6, .int 0), (5, .int 1), (4, .int 0), (3, .ref 233), (2, .ref 191), (1, .ref 6), (0, .ref 0)] [.int 1] h7 _
              refine q_iload rfl rfl ?_
              refine q_icmp_eq rfl (fun _ => ?_) (fun c => absurd (by decide) c)
              refine q_iload rfl rfl ?_
              refine q_if_ne rfl (fun _ => ?_) (fun c => absurd (by decide) c)
              refine q_goto rfl ?_
              refine s_iinc (y := 6) (lv' := [(4, .int 6), (6, .int 0), (5, .int 1), (3, .ref 233), (2, .ref 191), (1, .ref 6), (0, .ref 0)]) rfl rfl (by decide) (by decide) rfl ?_
              refine q_goto rfl ?_
              refine q_iload rfl rfl ?_
              refine q_aload_n rfl rfl ?_
              have e0_7 := (f7.ne rfl (f6.ne rfl (f5.ne rfl e0_4)))
              refine s_alen (x := 6) rfl e0_7 rfl (by decide) ?_
              refine q_bipush rfl ?_
              refine s_isub (k := 0) rfl (by decide) ?_
              refine q_icmp_gt rfl (fun _ => ?_) (fun c => absurd (by decide) c)
              refine q_iconst rfl ?_
              refine q_ireturn rfl rfl ?_
              exact ⟨rfl, s7.bd rfl⟩
            · refine q_iconst rfl ?_
              refine q_goto rfl ?_
              refine q_ireturn rfl rfl ?_
              show aW aiP 218 16 631 35 [(0, .ref 191), (1, .int (xs 1)), (2, .int (xs 2)), (3, .int (xs 3))] [.int 1] h6 _
              refine q_if_eq rfl (fun c => absurd c (by decide)) (fun _ => ?_)
              refine q_iload_n rfl rfl ?_
              refine q_if_lt rfl (fun c => absurd c c7) (fun _ => ?_)
              refine q_aload_n rfl rfl ?_
              refine s_callV (as := []) (rest := []) (d' := 15) (w' := 606) (lv' := [(0, .ref 191)]) rfl o6 rfl rfl rfl rfl rfl rfl ?_
              refine q_iconst rfl ?_
              refine s_istore_n (lv' := [(1, .int 1), (0, .ref 191)]) rfl (by decide) rfl ?_
              refine q_iconst rfl ?_
              refine s_istore_n (lv' := [(2, .int 0), (1, .int 1), (0, .ref 191)]) rfl (by decide) rfl ?_
              refine q_iconst rfl ?_
              refine s_istore_n (lv' := [(3, .int 0), (2, .int 0), (1, .int 1), (0, .ref 191)]) rfl (by decide) rfl ?_
              refine q_iload_n rfl rfl ?_
              refine q_aload_n rfl rfl ?_
              refine s_get (v := .int 0) rfl o6 rfl rfl ?_
              refine q_icmp_gt rfl (fun c => absurd c (by decide)) (fun _ => ?_)
              refine q_iload_n rfl rfl ?_
              refine q_aload_n rfl rfl ?_
              refine s_get (v := .int 0) rfl o6 rfl rfl ?_
              refine q_icmp_ge rfl (fun _ => ?_) (fun c => absurd (by decide) c)
              refine q_iload_n rfl rfl ?_
              refine q_aload_n rfl rfl ?_
              refine s_get (v := .int 0) rfl o6 rfl rfl ?_
              refine q_icmp_ge rfl (fun _ => ?_) (fun c => absurd (by decide) c)
              refine q_iload_n rfl rfl ?_
              refine q_iload_n rfl rfl ?_
              refine s_isub (k := 0) rfl (by decide) ?_
              refine s_istore (lv' := [(4, .int 0), (3, .int 0), (2, .int 0), (1, .int 1), (0, .ref 191)]) rfl (by decide) rfl ?_
              refine q_iload rfl rfl ?_
              refine q_iconst rfl ?_
              refine q_icmp_ge rfl (fun c => absurd c (by decide)) (fun _ => ?_)
              refine q_iload rfl rfl ?_
              refine q_if_le rfl (fun _ => ?_) (fun c => absurd (by decide) c)
              refine q_iconst rfl ?_
              refine s_istore (lv' := [(5, .int 0), (4, .int 0), (3, .int 0), (2, .int 0), (1, .int 1), (0, .ref 191)]) rfl (by decide) rfl ?_
              refine q_iload rfl rfl ?_
              refine q_iconst rfl ?_
              refine q_icmp_lt rfl (fun _ => ?_) (fun c => absurd (by decide) c)
              refine q_iconst rfl ?_
              refine q_ireturn rfl rfl ?_
              show aW aiP 218 16 631 46 [(0, .ref 191), (1, .int (xs 1)), (2, .int (xs 2)), (3, .int (xs 3))] [.int 0] h6 _
              refine q_if_ne rfl (fun c => absurd c (by decide)) (fun _ => ?_)
              refine q_iconst rfl ?_
              refine q_goto rfl ?_
              refine s_istore (lv' := [(4, .int 1), (0, .ref 191), (1, .int (xs 1)), (2, .int (xs 2)), (3, .int (xs 3))]) rfl (by decide) rfl ?_
              refine q_aload_n rfl rfl ?_
              refine q_iload rfl rfl ?_
              refine q_iload rfl rfl ?_
              refine q_if_ne rfl (fun _ => ?_) (fun c => absurd (by decide) c)
              refine q_iconst rfl ?_
              refine s_callV (as := [.int 1, .int 0]) (rest := []) (d' := 15) (w' := 609) (lv' := [(0, .ref 191), (1, .int 1), (2, .int 0)]) rfl o6 rfl rfl rfl rfl rfl rfl ?_
              refine q_aload_n rfl rfl ?_
              refine q_iload_n rfl rfl ?_
              refine q_if_eq rfl (fun c => absurd c (by decide)) (fun _ => ?_)
              refine q_iconst rfl ?_
              refine q_goto rfl ?_
              refine s_put (vs' := [.int 1, .ref 192, .ref 193, .int 0, .ref 194, .ref 195, .ref 196, .ref 197, .ref 198, .ref 199, .ref 200, .ref 201, .ref 202, .ref 203, .ref 204, .ref 205, .int (-1), .int 0, .ref 206, .ref 207, .ref 208, .ref 209, .ref 210, .ref 211, .ref 212, .ref 213, .ref 214, .ref 215, .int 0, .int 0, .int 0, .int 0, .ref 216, .ref 217, .ref 218, .ref 219, .ref 220, .int (-1), .int 0, .int 0, .int 0, .int 0, .int 0, .int 0, .ref 221, .ref 222, .ref 223, .ref 224, .int 0, .ref 225, .int 0, .ref 226, .ref 227, .int 0, .ref 228, .ref 229, .ref 230, .ref 231, .ref 232]) rfl o6 rfl rfl rfl rfl (fun h7 o7 f7 => ?_)
              have s7 := s6.put f7
              refine q_aload_n rfl rfl ?_
              refine s_get (v := .int 1) rfl o7 rfl rfl ?_
              refine q_if_le rfl (fun c => absurd c (by decide)) (fun _ => ?_)
              refine q_iconst rfl ?_
              refine q_goto rfl ?_
              refine q_ireturn rfl rfl ?_
              show aW aiP 218 16 631 104 [(4, .int 1), (0, .ref 191), (1, .int (xs 1)), (2, .int (xs 2)), (3, .int (xs 3))] [.int 1] h7 _
              refine q_if_eq rfl (fun c => absurd c (by decide)) (fun _ => ?_)
              refine q_iconst rfl ?_
              refine q_ireturn rfl rfl ?_
              show aW aiP 0 17 658 295 [(5, .int 1), (4, .int 0), (3, .ref 233), (2, .ref 191), (1, .ref 6), (0, .ref 0)] [.int 0] h7 _
              refine s_istore (lv' := [(6, .int 0), (5, .int 1), (4, .int 0), (3, .ref 233), (2, .ref 191), (1, .ref 6), (0, .ref 0)]) rfl (by decide) rfl ?_
              refine q_aload_n rfl rfl ?_
              refine s_callV (as := []) (rest := []) (d' := 16) (w' := 638) (lv' := [(0, .ref 191)]) rfl o7 rfl rfl rfl rfl rfl rfl ?_
              refine q_aload_n rfl rfl ?_
              refine s_get (v := .int 1) rfl o7 rfl rfl ?_
              refine q_ireturn rfl rfl ?_
              show aW aiP 0 17 658 301 [(6, .int 0), (5, .int 1), (4, .int 0), (3, .ref 233), (2, .ref 191), (1, .ref 6), (0, .ref 0)] [.int 1] h7 _
              refine q_iload rfl rfl ?_
              refine q_icmp_eq rfl (fun _ => ?_) (fun c => absurd (by decide) c)
              refine q_iload rfl rfl ?_
              refine q_if_ne rfl (fun _ => ?_) (fun c => absurd (by decide) c)
              refine q_goto rfl ?_
              refine s_iinc (y := 6) (lv' := [(4, .int 6), (6, .int 0), (5, .int 1), (3, .ref 233), (2, .ref 191), (1, .ref 6), (0, .ref 0)]) rfl rfl (by decide) (by decide) rfl ?_
              refine q_goto rfl ?_
              refine q_iload rfl rfl ?_
              refine q_aload_n rfl rfl ?_
              have e0_7 := (f7.ne rfl (f6.ne rfl (f5.ne rfl e0_4)))
              refine s_alen (x := 6) rfl e0_7 rfl (by decide) ?_
              refine q_bipush rfl ?_
              refine s_isub (k := 0) rfl (by decide) ?_
              refine q_icmp_gt rfl (fun _ => ?_) (fun c => absurd (by decide) c)
              refine q_iconst rfl ?_
              refine q_ireturn rfl rfl ?_
              exact ⟨rfl, s7.bd rfl⟩
