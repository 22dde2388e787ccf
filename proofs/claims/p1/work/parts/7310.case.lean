/-! case 10 of the law; made by wip/tools/p1.py -/
set_option maxRecDepth 20000 in
set_option maxHeartbeats 4000000 in
theorem p_case10 {xs : Nat → Int32} {h : ai_H} (F : Fresh 6 xs h) (hk : xs 0 &&& 31 = 10) : aW aiP 0 17 658 33 [(4, .int 0), (3, .ref 233), (2, .ref 191), (1, .ref 6), (0, .ref 0)] [] h p_Q := by
  have s0 := F.2.2.2.2.2.2.2.2.2.2.2.2.2.2.2.2.2.2.2.2.2.2.2.2.2.2.2.2.2.2.2.2.2.2.2.2.2.2.2.2.2.2.2.2.2.2.2.2.2.2.2.2.2.2.2.2.2.2.2.2.2.2.2.2.2.2.2.2.2.2
  refine q_aload_n rfl rfl ?_
  refine q_iload rfl rfl ?_
  have e0 := F.1
  refine s_iaload (j := 0) (v := .int (xs 0)) rfl e0 (by decide) rfl (by first | rfl | decide) ?_
  refine q_bipush rfl ?_
  refine s_iand (k := ((xs 0) &&& (31 : Int32))) rfl rfl ?_
  rw [hk]
  show aW aiP 0 17 658 40 [(4, .int 0), (3, .ref 233), (2, .ref 191), (1, .ref 6), (0, .ref 0)] [.int 10] h _
  refine s_sw (tg := 653) rfl rfl ?_
  refine q_aload_n rfl rfl ?_
  refine q_aload_n rfl rfl ?_
  refine s_callS (as := [.ref 6, .ref 233]) (rest := []) (d' := 16) (w' := 636) (lv' := [(0, .ref 6), (1, .ref 233)]) rfl rfl rfl rfl rfl rfl rfl rfl ?_
  refine q_aload_n rfl rfl ?_
  refine q_iconst rfl ?_
  refine q_aload_n rfl rfl ?_
  have e6 := F.2.2.2.2.2.2.1
  refine s_callV (as := []) (rest := [.int 0, .ref 233]) (d' := 15) (w' := 616) (lv' := [(0, .ref 6)]) rfl e6 rfl rfl rfl rfl rfl rfl ?_
  refine q_aload_n rfl rfl ?_
  refine s_get (v := .int 0) rfl e6 rfl rfl ?_
  refine q_iconst rfl ?_
  refine q_icmp_eq rfl (fun c => absurd c (by decide)) (fun _ => ?_)
  refine s_thr rfl rfl rfl ?_
  refine ⟨rfl, Or.inl ⟨11, rfl, fun h1 f1 l1 => ?_⟩⟩
  have s1 := Hs.exc s0 f1 l1
  show aW aiP 160 16 636 11 [(0, .ref 6), (1, .ref 233)] [.ref (h.length)] h1 _
  refine s_astore_n (lv' := [(2, .ref (h.length)), (0, .ref 6), (1, .ref 233)]) rfl (by decide) rfl ?_
  refine q_iconst rfl ?_
  refine q_ireturn rfl rfl ?_
  show aW aiP 0 17 658 658 [(4, .int 0), (3, .ref 233), (2, .ref 191), (1, .ref 6), (0, .ref 0)] [.int 1] h1 _
  refine s_istore (lv' := [(5, .int 1), (4, .int 0), (3, .ref 233), (2, .ref 191), (1, .ref 6), (0, .ref 0)]) rfl (by decide) rfl ?_
  refine q_aload_n rfl rfl ?_
  have e191 := F.2.2.2.2.2.2.2.2.2.2.2.2.2.2.2.2.2.2.2.2.2.2.2.2.2.2.2.1
  have e191_1 := (e191.nw f1)
  refine s_callV (as := []) (rest := []) (d' := 16) (w' := 638) (lv' := [(0, .ref 191)]) rfl e191_1 rfl rfl rfl rfl rfl rfl ?_
  refine q_aload_n rfl rfl ?_
  refine q_aload_n rfl rfl ?_
  refine s_get (v := .int 0) rfl e191_1 rfl rfl ?_
  refine q_iconst rfl ?_
  refine q_icmp_eq rfl (fun c => absurd c (by decide)) (fun _ => ?_)
  refine q_iconst rfl ?_
  refine q_goto rfl ?_
  refine q_iconst rfl ?_
  refine s_callV (as := [.int 1, .int 0]) (rest := []) (d' := 15) (w' := 616) (lv' := [(0, .ref 191), (1, .int 1), (2, .int 0)]) rfl e191_1 rfl rfl rfl rfl rfl rfl ?_
  refine q_aload_n rfl rfl ?_
  refine q_iload_n rfl rfl ?_
  refine q_if_eq rfl (fun c => absurd c (by decide)) (fun _ => ?_)
  refine q_iconst rfl ?_
  refine q_goto rfl ?_
  refine s_put (vs' := [.int 1, .ref 192, .ref 193, .int 0, .ref 194, .ref 195, .ref 196, .ref 197, .ref 198, .ref 199, .ref 200, .ref 201, .ref 202, .ref 203, .ref 204, .ref 205, .int (-1), .int 0, .ref 206, .ref 207, .ref 208, .ref 209, .ref 210, .ref 211, .ref 212, .ref 213, .ref 214, .ref 215, .int 0, .int 0, .int 0, .int 0, .ref 216, .ref 217, .ref 218, .ref 219, .ref 220, .int (-1), .int 0, .int 0, .int 0, .int 0, .int 0, .int 0, .ref 221, .ref 222, .ref 223, .ref 224, .int 0, .ref 225, .int 0, .ref 226, .ref 227, .int 0, .ref 228, .ref 229, .ref 230, .ref 231, .ref 232]) rfl e191_1 rfl rfl rfl rfl (fun h2 o2 f2 => ?_)
  have s2 := s1.put f2
  refine q_aload_n rfl rfl ?_
  refine s_get (v := .int 1) rfl o2 rfl rfl ?_
  refine q_if_le rfl (fun c => absurd c (by decide)) (fun _ => ?_)
  refine q_iconst rfl ?_
  refine q_goto rfl ?_
  refine q_ireturn rfl rfl ?_
  show aW aiP 274 16 638 18 [(0, .ref 191)] [.int 1] h2 _
  refine q_if_eq rfl (fun c => absurd c (by decide)) (fun _ => ?_)
  refine q_iconst rfl ?_
  refine q_ireturn rfl rfl ?_
  show aW aiP 0 17 658 664 [(5, .int 1), (4, .int 0), (3, .ref 233), (2, .ref 191), (1, .ref 6), (0, .ref 0)] [.int 0] h2 _
  refine s_istore (lv' := [(6, .int 0), (5, .int 1), (4, .int 0), (3, .ref 233), (2, .ref 191), (1, .ref 6), (0, .ref 0)]) rfl (by decide) rfl ?_
  refine q_aload_n rfl rfl ?_
  refine s_callV (as := []) (rest := []) (d' := 16) (w' := 638) (lv' := [(0, .ref 191)]) rfl o2 rfl rfl rfl rfl rfl rfl ?_
  refine q_aload_n rfl rfl ?_
  refine s_get (v := .int 1) rfl o2 rfl rfl ?_
  refine q_ireturn rfl rfl ?_
  show aW aiP 0 17 658 670 [(6, .int 0), (5, .int 1), (4, .int 0), (3, .ref 233), (2, .ref 191), (1, .ref 6), (0, .ref 0)] [.int 1] h2 _
  refine q_iload rfl rfl ?_
  refine q_icmp_eq rfl (fun _ => ?_) (fun c => absurd (by decide) c)
  refine q_iload rfl rfl ?_
  refine q_if_ne rfl (fun _ => ?_) (fun c => absurd (by decide) c)
  refine q_goto rfl ?_
  refine s_iinc (y := 6) (lv' := [(4, .int 6), (6, .int 0), (5, .int 1), (3, .ref 233), (2, .ref 191), (1, .ref 6), (0, .ref 0)]) rfl rfl (by decide) (by decide) rfl ?_
  refine q_goto rfl ?_
  refine q_iload rfl rfl ?_
  refine q_aload_n rfl rfl ?_
  have e0_2 := (f2.ne rfl (f1.nw e0))
  refine s_alen (x := 6) rfl e0_2 rfl (by decide) ?_
  refine q_bipush rfl ?_
  refine s_isub (k := 0) rfl (by decide) ?_
  refine q_icmp_gt rfl (fun _ => ?_) (fun c => absurd (by decide) c)
  refine q_iconst rfl ?_
  refine q_ireturn rfl rfl ?_
  exact ⟨rfl, s2.bd rfl⟩
