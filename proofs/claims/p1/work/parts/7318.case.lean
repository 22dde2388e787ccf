/-! case 18 of the law; made by wip/tools/p1.py -/
set_option maxRecDepth 20000 in
set_option maxHeartbeats 4000000 in
theorem p_case18n {xs : Nat → Int32} {h : ai_H} (F : Fresh 6 xs h) (hk : xs 0 &&& 31 = 18) (hw : xs 1 < 0) : aW aiP 0 17 658 33 [(4, .int 0), (3, .ref 233), (2, .ref 191), (1, .ref 6), (0, .ref 0)] [] h p_Q := by
  have s0 := F.2.2.2.2.2.2.2.2.2.2.2.2.2.2.2.2.2.2.2.2.2.2.2.2.2.2.2.2.2.2.2.2.2.2.2.2.2.2.2.2.2.2.2.2.2.2.2.2.2.2.2.2.2.2.2.2.2.2.2.2.2.2.2.2.2.2.2.2.2.2
  have hsw : (xs 1).toInt < 0 ∨ 7 < (xs 1).toInt := Or.inl (lt0i hw)
  refine q_aload_n rfl rfl ?_
  refine q_iload rfl rfl ?_
  have e0 := F.1
  refine s_iaload (j := 0) (v := .int (xs 0)) rfl e0 (by decide) rfl (by first | rfl | decide) ?_
  refine q_bipush rfl ?_
  refine s_iand (k := ((xs 0) &&& (31 : Int32))) rfl rfl ?_
  rw [hk]
  show aW aiP 0 17 658 40 [(4, .int 0), (3, .ref 233), (2, .ref 191), (1, .ref 6), (0, .ref 0)] [.int 18] h _
  refine s_sw (tg := 1060) rfl rfl ?_
  refine q_aload_n rfl rfl ?_
  refine q_aload_n rfl rfl ?_
  refine q_iload rfl rfl ?_
  refine q_iconst rfl ?_
  refine s_iadd (k := 1) rfl (by decide) ?_
  refine s_iaload (j := 1) (v := .int (xs 1)) rfl e0 (by decide) rfl (by first | rfl | decide) ?_
  have e6 := F.2.2.2.2.2.2.1
  refine s_callV (as := [.int (xs 1)]) (rest := []) (d' := 16) (w' := 637) (lv' := [(0, .ref 6), (1, .int (xs 1))]) rfl e6 rfl rfl rfl rfl rfl rfl ?_
  refine q_iload_n rfl rfl ?_
  refine s_sw (tg := 117) rfl (sw_out hsw rfl rfl) ?_
  refine q_iconst rfl ?_
  refine q_ireturn rfl rfl ?_
  show aW aiP 0 17 658 1070 [(4, .int 0), (3, .ref 233), (2, .ref 191), (1, .ref 6), (0, .ref 0)] [.int (-1)] h _
  refine q_aload_n rfl rfl ?_
  refine q_aload_n rfl rfl ?_
  refine q_iload rfl rfl ?_
  refine q_iconst rfl ?_
  refine s_iadd (k := 1) rfl (by decide) ?_
  refine s_iaload (j := 1) (v := .int (xs 1)) rfl e0 (by decide) rfl (by first | rfl | decide) ?_
  have e191 := F.2.2.2.2.2.2.2.2.2.2.2.2.2.2.2.2.2.2.2.2.2.2.2.2.2.2.2.1
  refine s_callV (as := [.int (xs 1)]) (rest := [.int (-1)]) (d' := 16) (w' := 637) (lv' := [(0, .ref 191), (1, .int (xs 1))]) rfl e191 rfl rfl rfl rfl rfl rfl ?_
  refine q_aload_n rfl rfl ?_
  refine q_iconst rfl ?_
  refine s_put (vs' := [.int 0, .ref 192, .ref 193, .int 0, .ref 194, .ref 195, .ref 196, .ref 197, .ref 198, .ref 199, .ref 200, .ref 201, .ref 202, .ref 203, .ref 204, .ref 205, .int (-1), .int 0, .ref 206, .ref 207, .ref 208, .ref 209, .ref 210, .ref 211, .ref 212, .ref 213, .ref 214, .ref 215, .int 0, .int 0, .int 0, .int 0, .ref 216, .ref 217, .ref 218, .ref 219, .ref 220, .int (-1), .int 0, .int 0, .int 0, .int 0, .int 0, .int 0, .ref 221, .ref 222, .ref 223, .ref 224, .int 0, .ref 225, .int 0, .ref 226, .ref 227, .int 0, .ref 228, .ref 229, .ref 230, .ref 231, .ref 232]) rfl e191 rfl rfl rfl rfl (fun h1 o1 f1 => ?_)
  have s1 := s0.put f1
  refine q_iload_n rfl rfl ?_
  refine s_sw (tg := 100) rfl (sw_out hsw rfl rfl) ?_
  refine q_iconst rfl ?_
  refine q_ireturn rfl rfl ?_
  show aW aiP 0 17 658 1080 [(4, .int 0), (3, .ref 233), (2, .ref 191), (1, .ref 6), (0, .ref 0)] [.int (-1), .int (-1)] h1 _
  refine q_icmp_eq rfl (fun _ => ?_) (fun c => absurd (by decide) c)
  refine s_iinc (y := 6) (lv' := [(4, .int 6), (3, .ref 233), (2, .ref 191), (1, .ref 6), (0, .ref 0)]) rfl rfl (by decide) (by decide) rfl ?_
  refine q_goto rfl ?_
  refine q_iload rfl rfl ?_
  refine q_aload_n rfl rfl ?_
  have e0_1 := (f1.ne rfl e0)
  refine s_alen (x := 6) rfl e0_1 rfl (by decide) ?_
  refine q_bipush rfl ?_
  refine s_isub (k := 0) rfl (by decide) ?_
  refine q_icmp_gt rfl (fun _ => ?_) (fun c => absurd (by decide) c)
  refine q_iconst rfl ?_
  refine q_ireturn rfl rfl ?_
  exact ⟨rfl, s1.bd rfl⟩
set_option maxRecDepth 20000 in
set_option maxHeartbeats 4000000 in
theorem p_case18b {xs : Nat → Int32} {h : ai_H} (F : Fresh 6 xs h) (hk : xs 0 &&& 31 = 18) (hw : 7 < xs 1) : aW aiP 0 17 658 33 [(4, .int 0), (3, .ref 233), (2, .ref 191), (1, .ref 6), (0, .ref 0)] [] h p_Q := by
  have s0 := F.2.2.2.2.2.2.2.2.2.2.2.2.2.2.2.2.2.2.2.2.2.2.2.2.2.2.2.2.2.2.2.2.2.2.2.2.2.2.2.2.2.2.2.2.2.2.2.2.2.2.2.2.2.2.2.2.2.2.2.2.2.2.2.2.2.2.2.2.2.2
  have hsw : (xs 1).toInt < 0 ∨ 7 < (xs 1).toInt := Or.inr (gti (by decide) hw)
  refine q_aload_n rfl rfl ?_
  refine q_iload rfl rfl ?_
  have e0 := F.1
  refine s_iaload (j := 0) (v := .int (xs 0)) rfl e0 (by decide) rfl (by first | rfl | decide) ?_
  refine q_bipush rfl ?_
  refine s_iand (k := ((xs 0) &&& (31 : Int32))) rfl rfl ?_
  rw [hk]
  show aW aiP 0 17 658 40 [(4, .int 0), (3, .ref 233), (2, .ref 191), (1, .ref 6), (0, .ref 0)] [.int 18] h _
  refine s_sw (tg := 1060) rfl rfl ?_
  refine q_aload_n rfl rfl ?_
  refine q_aload_n rfl rfl ?_
  refine q_iload rfl rfl ?_
  refine q_iconst rfl ?_
  refine s_iadd (k := 1) rfl (by decide) ?_
  refine s_iaload (j := 1) (v := .int (xs 1)) rfl e0 (by decide) rfl (by first | rfl | decide) ?_
  have e6 := F.2.2.2.2.2.2.1
  refine s_callV (as := [.int (xs 1)]) (rest := []) (d' := 16) (w' := 637) (lv' := [(0, .ref 6), (1, .int (xs 1))]) rfl e6 rfl rfl rfl rfl rfl rfl ?_
  refine q_iload_n rfl rfl ?_
  refine s_sw (tg := 117) rfl (sw_out hsw rfl rfl) ?_
  refine q_iconst rfl ?_
  refine q_ireturn rfl rfl ?_
  show aW aiP 0 17 658 1070 [(4, .int 0), (3, .ref 233), (2, .ref 191), (1, .ref 6), (0, .ref 0)] [.int (-1)] h _
  refine q_aload_n rfl rfl ?_
  refine q_aload_n rfl rfl ?_
  refine q_iload rfl rfl ?_
  refine q_iconst rfl ?_
  refine s_iadd (k := 1) rfl (by decide) ?_
  refine s_iaload (j := 1) (v := .int (xs 1)) rfl e0 (by decide) rfl (by first | rfl | decide) ?_
  have e191 := F.2.2.2.2.2.2.2.2.2.2.2.2.2.2.2.2.2.2.2.2.2.2.2.2.2.2.2.1
  refine s_callV (as := [.int (xs 1)]) (rest := [.int (-1)]) (d' := 16) (w' := 637) (lv' := [(0, .ref 191), (1, .int (xs 1))]) rfl e191 rfl rfl rfl rfl rfl rfl ?_
  refine q_aload_n rfl rfl ?_
  refine q_iconst rfl ?_
  refine s_put (vs' := [.int 0, .ref 192, .ref 193, .int 0, .ref 194, .ref 195, .ref 196, .ref 197, .ref 198, .ref 199, .ref 200, .ref 201, .ref 202, .ref 203, .ref 204, .ref 205, .int (-1), .int 0, .ref 206, .ref 207, .ref 208, .ref 209, .ref 210, .ref 211, .ref 212, .ref 213, .ref 214, .ref 215, .int 0, .int 0, .int 0, .int 0, .ref 216, .ref 217, .ref 218, .ref 219, .ref 220, .int (-1), .int 0, .int 0, .int 0, .int 0, .int 0, .int 0, .ref 221, .ref 222, .ref 223, .ref 224, .int 0, .ref 225, .int 0, .ref 226, .ref 227, .int 0, .ref 228, .ref 229, .ref 230, .ref 231, .ref 232]) rfl e191 rfl rfl rfl rfl (fun h1 o1 f1 => ?_)
  have s1 := s0.put f1
  refine q_iload_n rfl rfl ?_
  refine s_sw (tg := 100) rfl (sw_out hsw rfl rfl) ?_
  refine q_iconst rfl ?_
  refine q_ireturn rfl rfl ?_
  show aW aiP 0 17 658 1080 [(4, .int 0), (3, .ref 233), (2, .ref 191), (1, .ref 6), (0, .ref 0)] [.int (-1), .int (-1)] h1 _
  refine q_icmp_eq rfl (fun _ => ?_) (fun c => absurd (by decide) c)
  refine s_iinc (y := 6) (lv' := [(4, .int 6), (3, .ref 233), (2, .ref 191), (1, .ref 6), (0, .ref 0)]) rfl rfl (by decide) (by decide) rfl ?_
  refine q_goto rfl ?_
  refine q_iload rfl rfl ?_
  refine q_aload_n rfl rfl ?_
  have e0_1 := (f1.ne rfl e0)
  refine s_alen (x := 6) rfl e0_1 rfl (by decide) ?_
  refine q_bipush rfl ?_
  refine s_isub (k := 0) rfl (by decide) ?_
  refine q_icmp_gt rfl (fun _ => ?_) (fun c => absurd (by decide) c)
  refine q_iconst rfl ?_
  refine q_ireturn rfl rfl ?_
  exact ⟨rfl, s1.bd rfl⟩
set_option maxRecDepth 20000 in
set_option maxHeartbeats 4000000 in
theorem p_case18_0 {xs : Nat → Int32} {h : ai_H} (F : Fresh 6 xs h) (hk : xs 0 &&& 31 = 18) (hw : xs 1 = 0) : aW aiP 0 17 658 33 [(4, .int 0), (3, .ref 233), (2, .ref 191), (1, .ref 6), (0, .ref 0)] [] h p_Q := by
  have s0 := F.2.2.2.2.2.2.2.2.2.2.2.2.2.2.2.2.2.2.2.2.2.2.2.2.2.2.2.2.2.2.2.2.2.2.2.2.2.2.2.2.2.2.2.2.2.2.2.2.2.2.2.2.2.2.2.2.2.2.2.2.2.2.2.2.2.2.2.2.2.2
  refine q_aload_n rfl rfl ?_
  refine q_iload rfl rfl ?_
  have e0 := F.1
  refine s_iaload (j := 0) (v := .int (xs 0)) rfl e0 (by decide) rfl (by first | rfl | decide) ?_
  refine q_bipush rfl ?_
  refine s_iand (k := ((xs 0) &&& (31 : Int32))) rfl rfl ?_
  rw [hk]
  show aW aiP 0 17 658 40 [(4, .int 0), (3, .ref 233), (2, .ref 191), (1, .ref 6), (0, .ref 0)] [.int 18] h _
  refine s_sw (tg := 1060) rfl rfl ?_
  refine q_aload_n rfl rfl ?_
  refine q_aload_n rfl rfl ?_
  refine q_iload rfl rfl ?_
  refine q_iconst rfl ?_
  refine s_iadd (k := 1) rfl (by decide) ?_
  refine s_iaload (j := 1) (v := .int (xs 1)) rfl e0 (by decide) rfl (by first | rfl | decide) ?_
  rw [hw]
  have e6 := F.2.2.2.2.2.2.1
  refine s_callV (as := [.int 0]) (rest := []) (d' := 16) (w' := 637) (lv' := [(0, .ref 6), (1, .int 0)]) rfl e6 rfl rfl rfl rfl rfl rfl ?_
  refine q_iload_n rfl rfl ?_
  refine s_sw (tg := 48) rfl rfl ?_
  refine q_aload_n rfl rfl ?_
  refine s_get (v := .int 0) rfl e6 rfl rfl ?_
  refine q_ireturn rfl rfl ?_
  show aW aiP 0 17 658 1070 [(4, .int 0), (3, .ref 233), (2, .ref 191), (1, .ref 6), (0, .ref 0)] [.int 0] h _
  refine q_aload_n rfl rfl ?_
  refine q_aload_n rfl rfl ?_
  refine q_iload rfl rfl ?_
  refine q_iconst rfl ?_
  refine s_iadd (k := 1) rfl (by decide) ?_
  refine s_iaload (j := 1) (v := .int (xs 1)) rfl e0 (by decide) rfl (by first | rfl | decide) ?_
  rw [hw]
  have e191 := F.2.2.2.2.2.2.2.2.2.2.2.2.2.2.2.2.2.2.2.2.2.2.2.2.2.2.2.1
  refine s_callV (as := [.int 0]) (rest := [.int 0]) (d' := 16) (w' := 637) (lv' := [(0, .ref 191), (1, .int 0)]) rfl e191 rfl rfl rfl rfl rfl rfl ?_
  refine q_aload_n rfl rfl ?_
  refine q_iconst rfl ?_
  refine s_put (vs' := [.int 0, .ref 192, .ref 193, .int 0, .ref 194, .ref 195, .ref 196, .ref 197, .ref 198, .ref 199, .ref 200, .ref 201, .ref 202, .ref 203, .ref 204, .ref 205, .int (-1), .int 0, .ref 206, .ref 207, .ref 208, .ref 209, .ref 210, .ref 211, .ref 212, .ref 213, .ref 214, .ref 215, .int 0, .int 0, .int 0, .int 0, .ref 216, .ref 217, .ref 218, .ref 219, .ref 220, .int (-1), .int 0, .int 0, .int 0, .int 0, .int 0, .int 0, .ref 221, .ref 222, .ref 223, .ref 224, .int 0, .ref 225, .int 0, .ref 226, .ref 227, .int 0, .ref 228, .ref 229, .ref 230, .ref 231, .ref 232]) rfl e191 rfl rfl rfl rfl (fun h1 o1 f1 => ?_)
  have s1 := s0.put f1
  refine q_iload_n rfl rfl ?_
  refine s_sw (tg := 52) rfl rfl ?_
  refine q_aload_n rfl rfl ?_
  refine s_get (v := .int 0) rfl o1 rfl rfl ?_
  refine q_ireturn rfl rfl ?_
  show aW aiP 0 17 658 1080 [(4, .int 0), (3, .ref 233), (2, .ref 191), (1, .ref 6), (0, .ref 0)] [.int 0, .int 0] h1 _
  refine q_icmp_eq rfl (fun _ => ?_) (fun c => absurd (by decide) c)
  refine s_iinc (y := 6) (lv' := [(4, .int 6), (3, .ref 233), (2, .ref 191), (1, .ref 6), (0, .ref 0)]) rfl rfl (by decide) (by decide) rfl ?_
  refine q_goto rfl ?_
  refine q_iload rfl rfl ?_
  refine q_aload_n rfl rfl ?_
  have e0_1 := (f1.ne rfl e0)
  refine s_alen (x := 6) rfl e0_1 rfl (by decide) ?_
  refine q_bipush rfl ?_
  refine s_isub (k := 0) rfl (by decide) ?_
  refine q_icmp_gt rfl (fun _ => ?_) (fun c => absurd (by decide) c)
  refine q_iconst rfl ?_
  refine q_ireturn rfl rfl ?_
  exact ⟨rfl, s1.bd rfl⟩
set_option maxRecDepth 20000 in
set_option maxHeartbeats 4000000 in
theorem p_case18_1 {xs : Nat → Int32} {h : ai_H} (F : Fresh 6 xs h) (hk : xs 0 &&& 31 = 18) (hw : xs 1 = 1) : aW aiP 0 17 658 33 [(4, .int 0), (3, .ref 233), (2, .ref 191), (1, .ref 6), (0, .ref 0)] [] h p_Q := by
  have s0 := F.2.2.2.2.2.2.2.2.2.2.2.2.2.2.2.2.2.2.2.2.2.2.2.2.2.2.2.2.2.2.2.2.2.2.2.2.2.2.2.2.2.2.2.2.2.2.2.2.2.2.2.2.2.2.2.2.2.2.2.2.2.2.2.2.2.2.2.2.2.2
  refine q_aload_n rfl rfl ?_
  refine q_iload rfl rfl ?_
  have e0 := F.1
  refine s_iaload (j := 0) (v := .int (xs 0)) rfl e0 (by decide) rfl (by first | rfl | decide) ?_
  refine q_bipush rfl ?_
  refine s_iand (k := ((xs 0) &&& (31 : Int32))) rfl rfl ?_
  rw [hk]
  show aW aiP 0 17 658 40 [(4, .int 0), (3, .ref 233), (2, .ref 191), (1, .ref 6), (0, .ref 0)] [.int 18] h _
  refine s_sw (tg := 1060) rfl rfl ?_
  refine q_aload_n rfl rfl ?_
  refine q_aload_n rfl rfl ?_
  refine q_iload rfl rfl ?_
  refine q_iconst rfl ?_
  refine s_iadd (k := 1) rfl (by decide) ?_
  refine s_iaload (j := 1) (v := .int (xs 1)) rfl e0 (by decide) rfl (by first | rfl | decide) ?_
  rw [hw]
  have e6 := F.2.2.2.2.2.2.1
  refine s_callV (as := [.int 1]) (rest := []) (d' := 16) (w' := 637) (lv' := [(0, .ref 6), (1, .int 1)]) rfl e6 rfl rfl rfl rfl rfl rfl ?_
  refine q_iload_n rfl rfl ?_
  refine s_sw (tg := 53) rfl rfl ?_
  refine q_aload_n rfl rfl ?_
  refine s_get (v := .ref 177) rfl e6 rfl rfl ?_
  have e177 := F.2.2.2.2.2.2.2.2.2.2.2.2.2.1
  refine s_callV (as := []) (rest := []) (d' := 15) (w' := 617) (lv' := [(0, .ref 177)]) rfl e177 rfl rfl rfl rfl rfl rfl ?_
  refine q_aload_n rfl rfl ?_
  refine s_get (v := .ref 179) rfl e177 rfl rfl ?_
  refine q_iconst rfl ?_
  have e179 := F.2.2.2.2.2.2.2.2.2.2.2.2.2.2.2.1
  refine s_iaload (j := 5) (v := .int 0) rfl e179 (by decide) rfl (by first | rfl | decide) ?_
  refine q_ireturn rfl rfl ?_
  show aW aiP 36 16 637 60 [(0, .ref 6), (1, .int 1)] [.int 0] h _
  refine q_ireturn rfl rfl ?_
  show aW aiP 0 17 658 1070 [(4, .int 0), (3, .ref 233), (2, .ref 191), (1, .ref 6), (0, .ref 0)] [.int 0] h _
  refine q_aload_n rfl rfl ?_
  refine q_aload_n rfl rfl ?_
  refine q_iload rfl rfl ?_
  refine q_iconst rfl ?_
  refine s_iadd (k := 1) rfl (by decide) ?_
  refine s_iaload (j := 1) (v := .int (xs 1)) rfl e0 (by decide) rfl (by first | rfl | decide) ?_
  rw [hw]
  have e191 := F.2.2.2.2.2.2.2.2.2.2.2.2.2.2.2.2.2.2.2.2.2.2.2.2.2.2.2.1
  refine s_callV (as := [.int 1]) (rest := [.int 0]) (d' := 16) (w' := 637) (lv' := [(0, .ref 191), (1, .int 1)]) rfl e191 rfl rfl rfl rfl rfl rfl ?_
  refine q_aload_n rfl rfl ?_
  refine q_iconst rfl ?_
  refine s_put (vs' := [.int 0, .ref 192, .ref 193, .int 0, .ref 194, .ref 195, .ref 196, .ref 197, .ref 198, .ref 199, .ref 200, .ref 201, .ref 202, .ref 203, .ref 204, .ref 205, .int (-1), .int 0, .ref 206, .ref 207, .ref 208, .ref 209, .ref 210, .ref 211, .ref 212, .ref 213, .ref 214, .ref 215, .int 0, .int 0, .int 0, .int 0, .ref 216, .ref 217, .ref 218, .ref 219, .ref 220, .int (-1), .int 0, .int 0, .int 0, .int 0, .int 0, .int 0, .ref 221, .ref 222, .ref 223, .ref 224, .int 0, .ref 225, .int 0, .ref 226, .ref 227, .int 0, .ref 228, .ref 229, .ref 230, .ref 231, .ref 232]) rfl e191 rfl rfl rfl rfl (fun h1 o1 f1 => ?_)
  have s1 := s0.put f1
  refine q_iload_n rfl rfl ?_
  refine s_sw (tg := 57) rfl rfl ?_
  refine q_aload_n rfl rfl ?_
  refine s_callV (as := []) (rest := []) (d' := 15) (w' := 615) (lv' := [(0, .ref 191)]) rfl o1 rfl rfl rfl rfl rfl rfl ?_
  refine q_iconst rfl ?_
  refine s_istore_n (lv' := [(1, .int 0), (0, .ref 191)]) rfl (by decide) rfl ?_
  refine q_iconst rfl ?_
  refine s_istore_n (lv' := [(2, .int 0), (1, .int 0), (0, .ref 191)]) rfl (by decide) rfl ?_
  refine q_iload_n rfl rfl ?_
  refine q_aload_n rfl rfl ?_
  refine s_get (v := .int 0) rfl o1 rfl rfl ?_
  refine q_icmp_ge rfl (fun _ => ?_) (fun c => absurd (by decide) c)
  refine q_iload_n rfl rfl ?_
  refine q_ireturn rfl rfl ?_
  show aW aiP 288 16 637 61 [(0, .ref 191), (1, .int 1)] [.int 0] h1 _
  refine q_ireturn rfl rfl ?_
  show aW aiP 0 17 658 1080 [(4, .int 0), (3, .ref 233), (2, .ref 191), (1, .ref 6), (0, .ref 0)] [.int 0, .int 0] h1 _
  refine q_icmp_eq rfl (fun _ => ?_) (fun c => absurd (by decide) c)
  refine s_iinc (y := 6) (lv' := [(4, .int 6), (3, .ref 233), (2, .ref 191), (1, .ref 6), (0, .ref 0)]) rfl rfl (by decide) (by decide) rfl ?_
  refine q_goto rfl ?_
  refine q_iload rfl rfl ?_
  refine q_aload_n rfl rfl ?_
  have e0_1 := (f1.ne rfl e0)
  refine s_alen (x := 6) rfl e0_1 rfl (by decide) ?_
  refine q_bipush rfl ?_
  refine s_isub (k := 0) rfl (by decide) ?_
  refine q_icmp_gt rfl (fun _ => ?_) (fun c => absurd (by decide) c)
  refine q_iconst rfl ?_
  refine q_ireturn rfl rfl ?_
  exact ⟨rfl, s1.bd rfl⟩
set_option maxRecDepth 20000 in
set_option maxHeartbeats 4000000 in
theorem p_case18_2 {xs : Nat → Int32} {h : ai_H} (F : Fresh 6 xs h) (hk : xs 0 &&& 31 = 18) (hw : xs 1 = 2) : aW aiP 0 17 658 33 [(4, .int 0), (3, .ref 233), (2, .ref 191), (1, .ref 6), (0, .ref 0)] [] h p_Q := by
  have s0 := F.2.2.2.2.2.2.2.2.2.2.2.2.2.2.2.2.2.2.2.2.2.2.2.2.2.2.2.2.2.2.2.2.2.2.2.2.2.2.2.2.2.2.2.2.2.2.2.2.2.2.2.2.2.2.2.2.2.2.2.2.2.2.2.2.2.2.2.2.2.2
  refine q_aload_n rfl rfl ?_
  refine q_iload rfl rfl ?_
  have e0 := F.1
  refine s_iaload (j := 0) (v := .int (xs 0)) rfl e0 (by decide) rfl (by first | rfl | decide) ?_
  refine q_bipush rfl ?_
  refine s_iand (k := ((xs 0) &&& (31 : Int32))) rfl rfl ?_
  rw [hk]
  show aW aiP 0 17 658 40 [(4, .int 0), (3, .ref 233), (2, .ref 191), (1, .ref 6), (0, .ref 0)] [.int 18] h _
  refine s_sw (tg := 1060) rfl rfl ?_
  refine q_aload_n rfl rfl ?_
  refine q_aload_n rfl rfl ?_
  refine q_iload rfl rfl ?_
  refine q_iconst rfl ?_
  refine s_iadd (k := 1) rfl (by decide) ?_
  refine s_iaload (j := 1) (v := .int (xs 1)) rfl e0 (by decide) rfl (by first | rfl | decide) ?_
  rw [hw]
  have e6 := F.2.2.2.2.2.2.1
  refine s_callV (as := [.int 2]) (rest := []) (d' := 16) (w' := 637) (lv' := [(0, .ref 6), (1, .int 2)]) rfl e6 rfl rfl rfl rfl rfl rfl ?_
  refine q_iload_n rfl rfl ?_
  refine s_sw (tg := 61) rfl rfl ?_
  refine q_aload_n rfl rfl ?_
  refine s_callV (as := []) (rest := []) (d' := 15) (w' := 617) (lv' := [(0, .ref 6)]) rfl e6 rfl rfl rfl rfl rfl rfl ?_
  refine q_aload_n rfl rfl ?_
  refine s_get (v := .int 0) rfl e6 rfl rfl ?_
  refine q_iconst rfl ?_
  refine q_icmp_eq rfl (fun c => absurd c (by decide)) (fun _ => ?_)
  refine q_aload_n rfl rfl ?_
  refine s_get (v := .int 0) rfl e6 rfl rfl ?_
  refine q_iconst rfl ?_
  refine q_icmp_eq rfl (fun c => absurd c (by decide)) (fun _ => ?_)
  refine q_aload_n rfl rfl ?_
  refine s_get (v := .int 0) rfl e6 rfl rfl ?_
  refine q_iconst rfl ?_
  refine q_icmp_ne rfl (fun _ => ?_) (fun c => absurd (by decide) c)
  refine q_iconst rfl ?_
  refine q_ireturn rfl rfl ?_
  show aW aiP 36 16 637 65 [(0, .ref 6), (1, .int 2)] [.int 0] h _
  refine q_if_eq rfl (fun _ => ?_) (fun c => absurd (by decide) c)
  refine q_iconst rfl ?_
  refine q_ireturn rfl rfl ?_
  show aW aiP 0 17 658 1070 [(4, .int 0), (3, .ref 233), (2, .ref 191), (1, .ref 6), (0, .ref 0)] [.int 0] h _
  refine q_aload_n rfl rfl ?_
  refine q_aload_n rfl rfl ?_
  refine q_iload rfl rfl ?_
  refine q_iconst rfl ?_
  refine s_iadd (k := 1) rfl (by decide) ?_
  refine s_iaload (j := 1) (v := .int (xs 1)) rfl e0 (by decide) rfl (by first | rfl | decide) ?_
  rw [hw]
  have e191 := F.2.2.2.2.2.2.2.2.2.2.2.2.2.2.2.2.2.2.2.2.2.2.2.2.2.2.2.1
  refine s_callV (as := [.int 2]) (rest := [.int 0]) (d' := 16) (w' := 637) (lv' := [(0, .ref 191), (1, .int 2)]) rfl e191 rfl rfl rfl rfl rfl rfl ?_
  refine q_aload_n rfl rfl ?_
  refine q_iconst rfl ?_
  refine s_put (vs' := [.int 0, .ref 192, .ref 193, .int 0, .ref 194, .ref 195, .ref 196, .ref 197, .ref 198, .ref 199, .ref 200, .ref 201, .ref 202, .ref 203, .ref 204, .ref 205, .int (-1), .int 0, .ref 206, .ref 207, .ref 208, .ref 209, .ref 210, .ref 211, .ref 212, .ref 213, .ref 214, .ref 215, .int 0, .int 0, .int 0, .int 0, .ref 216, .ref 217, .ref 218, .ref 219, .ref 220, .int (-1), .int 0, .int 0, .int 0, .int 0, .int 0, .int 0, .ref 221, .ref 222, .ref 223, .ref 224, .int 0, .ref 225, .int 0, .ref 226, .ref 227, .int 0, .ref 228, .ref 229, .ref 230, .ref 231, .ref 232]) rfl e191 rfl rfl rfl rfl (fun h1 o1 f1 => ?_)
  have s1 := s0.put f1
  refine q_iload_n rfl rfl ?_
  refine s_sw (tg := 62) rfl rfl ?_
  refine q_aload_n rfl rfl ?_
  refine s_get (v := .int 0) rfl o1 rfl rfl ?_
  refine q_ireturn rfl rfl ?_
  show aW aiP 0 17 658 1080 [(4, .int 0), (3, .ref 233), (2, .ref 191), (1, .ref 6), (0, .ref 0)] [.int 0, .int 0] h1 _
  refine q_icmp_eq rfl (fun _ => ?_) (fun c => absurd (by decide) c)
  refine s_iinc (y := 6) (lv' := [(4, .int 6), (3, .ref 233), (2, .ref 191), (1, .ref 6), (0, .ref 0)]) rfl rfl (by decide) (by decide) rfl ?_
  refine q_goto rfl ?_
  refine q_iload rfl rfl ?_
  refine q_aload_n rfl rfl ?_
  have e0_1 := (f1.ne rfl e0)
  refine s_alen (x := 6) rfl e0_1 rfl (by decide) ?_
  refine q_bipush rfl ?_
  refine s_isub (k := 0) rfl (by decide) ?_
  refine q_icmp_gt rfl (fun _ => ?_) (fun c => absurd (by decide) c)
  refine q_iconst rfl ?_
  refine q_ireturn rfl rfl ?_
  exact ⟨rfl, s1.bd rfl⟩
set_option maxRecDepth 20000 in
set_option maxHeartbeats 4000000 in
theorem p_case18_3 {xs : Nat → Int32} {h : ai_H} (F : Fresh 6 xs h) (hk : xs 0 &&& 31 = 18) (hw : xs 1 = 3) : aW aiP 0 17 658 33 [(4, .int 0), (3, .ref 233), (2, .ref 191), (1, .ref 6), (0, .ref 0)] [] h p_Q := by
  have s0 := F.2.2.2.2.2.2.2.2.2.2.2.2.2.2.2.2.2.2.2.2.2.2.2.2.2.2.2.2.2.2.2.2.2.2.2.2.2.2.2.2.2.2.2.2.2.2.2.2.2.2.2.2.2.2.2.2.2.2.2.2.2.2.2.2.2.2.2.2.2.2
  refine q_aload_n rfl rfl ?_
  refine q_iload rfl rfl ?_
  have e0 := F.1
  refine s_iaload (j := 0) (v := .int (xs 0)) rfl e0 (by decide) rfl (by first | rfl | decide) ?_
  refine q_bipush rfl ?_
  refine s_iand (k := ((xs 0) &&& (31 : Int32))) rfl rfl ?_
  rw [hk]
  show aW aiP 0 17 658 40 [(4, .int 0), (3, .ref 233), (2, .ref 191), (1, .ref 6), (0, .ref 0)] [.int 18] h _
  refine s_sw (tg := 1060) rfl rfl ?_
  refine q_aload_n rfl rfl ?_
  refine q_aload_n rfl rfl ?_
  refine q_iload rfl rfl ?_
  refine q_iconst rfl ?_
  refine s_iadd (k := 1) rfl (by decide) ?_
  refine s_iaload (j := 1) (v := .int (xs 1)) rfl e0 (by decide) rfl (by first | rfl | decide) ?_
  rw [hw]
  have e6 := F.2.2.2.2.2.2.1
  refine s_callV (as := [.int 3]) (rest := []) (d' := 16) (w' := 637) (lv' := [(0, .ref 6), (1, .int 3)]) rfl e6 rfl rfl rfl rfl rfl rfl ?_
  refine q_iload_n rfl rfl ?_
  refine s_sw (tg := 80) rfl rfl ?_
  refine q_aload_n rfl rfl ?_
  refine s_get (v := .ref 9) rfl e6 rfl rfl ?_
  have e9 := F.2.2.2.2.2.2.2.2.2.1
  refine s_get (v := .int 0) rfl e9 rfl rfl ?_
  refine q_ireturn rfl rfl ?_
  show aW aiP 0 17 658 1070 [(4, .int 0), (3, .ref 233), (2, .ref 191), (1, .ref 6), (0, .ref 0)] [.int 0] h _
  refine q_aload_n rfl rfl ?_
  refine q_aload_n rfl rfl ?_
  refine q_iload rfl rfl ?_
  refine q_iconst rfl ?_
  refine s_iadd (k := 1) rfl (by decide) ?_
  refine s_iaload (j := 1) (v := .int (xs 1)) rfl e0 (by decide) rfl (by first | rfl | decide) ?_
  rw [hw]
  have e191 := F.2.2.2.2.2.2.2.2.2.2.2.2.2.2.2.2.2.2.2.2.2.2.2.2.2.2.2.1
  refine s_callV (as := [.int 3]) (rest := [.int 0]) (d' := 16) (w' := 637) (lv' := [(0, .ref 191), (1, .int 3)]) rfl e191 rfl rfl rfl rfl rfl rfl ?_
  refine q_aload_n rfl rfl ?_
  refine q_iconst rfl ?_
  refine s_put (vs' := [.int 0, .ref 192, .ref 193, .int 0, .ref 194, .ref 195, .ref 196, .ref 197, .ref 198, .ref 199, .ref 200, .ref 201, .ref 202, .ref 203, .ref 204, .ref 205, .int (-1), .int 0, .ref 206, .ref 207, .ref 208, .ref 209, .ref 210, .ref 211, .ref 212, .ref 213, .ref 214, .ref 215, .int 0, .int 0, .int 0, .int 0, .ref 216, .ref 217, .ref 218, .ref 219, .ref 220, .int (-1), .int 0, .int 0, .int 0, .int 0, .int 0, .int 0, .ref 221, .ref 222, .ref 223, .ref 224, .int 0, .ref 225, .int 0, .ref 226, .ref 227, .int 0, .ref 228, .ref 229, .ref 230, .ref 231, .ref 232]) rfl e191 rfl rfl rfl rfl (fun h1 o1 f1 => ?_)
  have s1 := s0.put f1
  refine q_iload_n rfl rfl ?_
  refine s_sw (tg := 67) rfl rfl ?_
  refine q_aload_n rfl rfl ?_
  refine s_get (v := .ref 194) rfl o1 rfl rfl ?_
  refine q_bipush rfl ?_
  have e194 := F.2.2.2.2.2.2.2.2.2.2.2.2.2.2.2.2.2.2.2.2.2.2.2.2.2.2.2.2.2.2.1
  have e194_1 := (f1.ne rfl e194)
  refine s_iaload (j := 32) (v := .int 0) rfl e194_1 (by decide) rfl (by first | rfl | decide) ?_
  refine q_ireturn rfl rfl ?_
  show aW aiP 0 17 658 1080 [(4, .int 0), (3, .ref 233), (2, .ref 191), (1, .ref 6), (0, .ref 0)] [.int 0, .int 0] h1 _
  refine q_icmp_eq rfl (fun _ => ?_) (fun c => absurd (by decide) c)
  refine s_iinc (y := 6) (lv' := [(4, .int 6), (3, .ref 233), (2, .ref 191), (1, .ref 6), (0, .ref 0)]) rfl rfl (by decide) (by decide) rfl ?_
  refine q_goto rfl ?_
  refine q_iload rfl rfl ?_
  refine q_aload_n rfl rfl ?_
  have e0_1 := (f1.ne rfl e0)
  refine s_alen (x := 6) rfl e0_1 rfl (by decide) ?_
  refine q_bipush rfl ?_
  refine s_isub (k := 0) rfl (by decide) ?_
  refine q_icmp_gt rfl (fun _ => ?_) (fun c => absurd (by decide) c)
  refine q_iconst rfl ?_
  refine q_ireturn rfl rfl ?_
  exact ⟨rfl, s1.bd rfl⟩
set_option maxRecDepth 20000 in
set_option maxHeartbeats 4000000 in
theorem p_case18_4 {xs : Nat → Int32} {h : ai_H} (F : Fresh 6 xs h) (hk : xs 0 &&& 31 = 18) (hw : xs 1 = 4) : aW aiP 0 17 658 33 [(4, .int 0), (3, .ref 233), (2, .ref 191), (1, .ref 6), (0, .ref 0)] [] h p_Q := by
  have s0 := F.2.2.2.2.2.2.2.2.2.2.2.2.2.2.2.2.2.2.2.2.2.2.2.2.2.2.2.2.2.2.2.2.2.2.2.2.2.2.2.2.2.2.2.2.2.2.2.2.2.2.2.2.2.2.2.2.2.2.2.2.2.2.2.2.2.2.2.2.2.2
  refine q_aload_n rfl rfl ?_
  refine q_iload rfl rfl ?_
  have e0 := F.1
  refine s_iaload (j := 0) (v := .int (xs 0)) rfl e0 (by decide) rfl (by first | rfl | decide) ?_
  refine q_bipush rfl ?_
  refine s_iand (k := ((xs 0) &&& (31 : Int32))) rfl rfl ?_
  rw [hk]
  show aW aiP 0 17 658 40 [(4, .int 0), (3, .ref 233), (2, .ref 191), (1, .ref 6), (0, .ref 0)] [.int 18] h _
  refine s_sw (tg := 1060) rfl rfl ?_
  refine q_aload_n rfl rfl ?_
  refine q_aload_n rfl rfl ?_
  refine q_iload rfl rfl ?_
  refine q_iconst rfl ?_
  refine s_iadd (k := 1) rfl (by decide) ?_
  refine s_iaload (j := 1) (v := .int (xs 1)) rfl e0 (by decide) rfl (by first | rfl | decide) ?_
  rw [hw]
  have e6 := F.2.2.2.2.2.2.1
  refine s_callV (as := [.int 4]) (rest := []) (d' := 16) (w' := 637) (lv' := [(0, .ref 6), (1, .int 4)]) rfl e6 rfl rfl rfl rfl rfl rfl ?_
  refine q_iload_n rfl rfl ?_
  refine s_sw (tg := 88) rfl rfl ?_
  refine q_aload_n rfl rfl ?_
  refine s_get (v := .ref 51) rfl e6 rfl rfl ?_
  have e51 := F.2.2.2.2.2.2.2.2.2.2.1
  refine s_get (v := .int 0) rfl e51 rfl rfl ?_
  refine q_ireturn rfl rfl ?_
  show aW aiP 0 17 658 1070 [(4, .int 0), (3, .ref 233), (2, .ref 191), (1, .ref 6), (0, .ref 0)] [.int 0] h _
  refine q_aload_n rfl rfl ?_
  refine q_aload_n rfl rfl ?_
  refine q_iload rfl rfl ?_
  refine q_iconst rfl ?_
  refine s_iadd (k := 1) rfl (by decide) ?_
  refine s_iaload (j := 1) (v := .int (xs 1)) rfl e0 (by decide) rfl (by first | rfl | decide) ?_
  rw [hw]
  have e191 := F.2.2.2.2.2.2.2.2.2.2.2.2.2.2.2.2.2.2.2.2.2.2.2.2.2.2.2.1
  refine s_callV (as := [.int 4]) (rest := [.int 0]) (d' := 16) (w' := 637) (lv' := [(0, .ref 191), (1, .int 4)]) rfl e191 rfl rfl rfl rfl rfl rfl ?_
  refine q_aload_n rfl rfl ?_
  refine q_iconst rfl ?_
  refine s_put (vs' := [.int 0, .ref 192, .ref 193, .int 0, .ref 194, .ref 195, .ref 196, .ref 197, .ref 198, .ref 199, .ref 200, .ref 201, .ref 202, .ref 203, .ref 204, .ref 205, .int (-1), .int 0, .ref 206, .ref 207, .ref 208, .ref 209, .ref 210, .ref 211, .ref 212, .ref 213, .ref 214, .ref 215, .int 0, .int 0, .int 0, .int 0, .ref 216, .ref 217, .ref 218, .ref 219, .ref 220, .int (-1), .int 0, .int 0, .int 0, .int 0, .int 0, .int 0, .ref 221, .ref 222, .ref 223, .ref 224, .int 0, .ref 225, .int 0, .ref 226, .ref 227, .int 0, .ref 228, .ref 229, .ref 230, .ref 231, .ref 232]) rfl e191 rfl rfl rfl rfl (fun h1 o1 f1 => ?_)
  have s1 := s0.put f1
  refine q_iload_n rfl rfl ?_
  refine s_sw (tg := 75) rfl rfl ?_
  refine q_aload_n rfl rfl ?_
  refine s_get (v := .ref 194) rfl o1 rfl rfl ?_
  refine q_bipush rfl ?_
  have e194 := F.2.2.2.2.2.2.2.2.2.2.2.2.2.2.2.2.2.2.2.2.2.2.2.2.2.2.2.2.2.2.1
  have e194_1 := (f1.ne rfl e194)
  refine s_iaload (j := 31) (v := .int 0) rfl e194_1 (by decide) rfl (by first | rfl | decide) ?_
  refine q_ireturn rfl rfl ?_
  show aW aiP 0 17 658 1080 [(4, .int 0), (3, .ref 233), (2, .ref 191), (1, .ref 6), (0, .ref 0)] [.int 0, .int 0] h1 _
  refine q_icmp_eq rfl (fun _ => ?_) (fun c => absurd (by decide) c)
  refine s_iinc (y := 6) (lv' := [(4, .int 6), (3, .ref 233), (2, .ref 191), (1, .ref 6), (0, .ref 0)]) rfl rfl (by decide) (by decide) rfl ?_
  refine q_goto rfl ?_
  refine q_iload rfl rfl ?_
  refine q_aload_n rfl rfl ?_
  have e0_1 := (f1.ne rfl e0)
  refine s_alen (x := 6) rfl e0_1 rfl (by decide) ?_
  refine q_bipush rfl ?_
  refine s_isub (k := 0) rfl (by decide) ?_
  refine q_icmp_gt rfl (fun _ => ?_) (fun c => absurd (by decide) c)
  refine q_iconst rfl ?_
  refine q_ireturn rfl rfl ?_
  exact ⟨rfl, s1.bd rfl⟩
set_option maxRecDepth 20000 in
set_option maxHeartbeats 4000000 in
theorem p_case18_5 {xs : Nat → Int32} {h : ai_H} (F : Fresh 6 xs h) (hk : xs 0 &&& 31 = 18) (hw : xs 1 = 5) : aW aiP 0 17 658 33 [(4, .int 0), (3, .ref 233), (2, .ref 191), (1, .ref 6), (0, .ref 0)] [] h p_Q := by
  have s0 := F.2.2.2.2.2.2.2.2.2.2.2.2.2.2.2.2.2.2.2.2.2.2.2.2.2.2.2.2.2.2.2.2.2.2.2.2.2.2.2.2.2.2.2.2.2.2.2.2.2.2.2.2.2.2.2.2.2.2.2.2.2.2.2.2.2.2.2.2.2.2
  refine q_aload_n rfl rfl ?_
  refine q_iload rfl rfl ?_
  have e0 := F.1
  refine s_iaload (j := 0) (v := .int (xs 0)) rfl e0 (by decide) rfl (by first | rfl | decide) ?_
  refine q_bipush rfl ?_
  refine s_iand (k := ((xs 0) &&& (31 : Int32))) rfl rfl ?_
  rw [hk]
  show aW aiP 0 17 658 40 [(4, .int 0), (3, .ref 233), (2, .ref 191), (1, .ref 6), (0, .ref 0)] [.int 18] h _
  refine s_sw (tg := 1060) rfl rfl ?_
  refine q_aload_n rfl rfl ?_
  refine q_aload_n rfl rfl ?_
  refine q_iload rfl rfl ?_
  refine q_iconst rfl ?_
  refine s_iadd (k := 1) rfl (by decide) ?_
  refine s_iaload (j := 1) (v := .int (xs 1)) rfl e0 (by decide) rfl (by first | rfl | decide) ?_
  rw [hw]
  have e6 := F.2.2.2.2.2.2.1
  refine s_callV (as := [.int 5]) (rest := []) (d' := 16) (w' := 637) (lv' := [(0, .ref 6), (1, .int 5)]) rfl e6 rfl rfl rfl rfl rfl rfl ?_
  refine q_iload_n rfl rfl ?_
  refine s_sw (tg := 96) rfl rfl ?_
  refine q_aload_n rfl rfl ?_
  refine s_get (v := .ref 9) rfl e6 rfl rfl ?_
  have e9 := F.2.2.2.2.2.2.2.2.2.1
  refine s_callV (as := []) (rest := []) (d' := 15) (w' := 615) (lv' := [(0, .ref 9)]) rfl e9 rfl rfl rfl rfl rfl rfl ?_
  refine q_iconst rfl ?_
  refine s_istore_n (lv' := [(1, .int 0), (0, .ref 9)]) rfl (by decide) rfl ?_
  refine q_iconst rfl ?_
  refine s_istore_n (lv' := [(2, .int 0), (1, .int 0), (0, .ref 9)]) rfl (by decide) rfl ?_
  refine q_iload_n rfl rfl ?_
  refine q_aload_n rfl rfl ?_
  refine s_get (v := .int 0) rfl e9 rfl rfl ?_
  refine q_icmp_ge rfl (fun _ => ?_) (fun c => absurd (by decide) c)
  refine q_iload_n rfl rfl ?_
  refine q_ireturn rfl rfl ?_
  show aW aiP 36 16 637 103 [(0, .ref 6), (1, .int 5)] [.int 0] h _
  refine q_ireturn rfl rfl ?_
  show aW aiP 0 17 658 1070 [(4, .int 0), (3, .ref 233), (2, .ref 191), (1, .ref 6), (0, .ref 0)] [.int 0] h _
  refine q_aload_n rfl rfl ?_
  refine q_aload_n rfl rfl ?_
  refine q_iload rfl rfl ?_
  refine q_iconst rfl ?_
  refine s_iadd (k := 1) rfl (by decide) ?_
  refine s_iaload (j := 1) (v := .int (xs 1)) rfl e0 (by decide) rfl (by first | rfl | decide) ?_
  rw [hw]
  have e191 := F.2.2.2.2.2.2.2.2.2.2.2.2.2.2.2.2.2.2.2.2.2.2.2.2.2.2.2.1
  refine s_callV (as := [.int 5]) (rest := [.int 0]) (d' := 16) (w' := 637) (lv' := [(0, .ref 191), (1, .int 5)]) rfl e191 rfl rfl rfl rfl rfl rfl ?_
  refine q_aload_n rfl rfl ?_
  refine q_iconst rfl ?_
  refine s_put (vs' := [.int 0, .ref 192, .ref 193, .int 0, .ref 194, .ref 195, .ref 196, .ref 197, .ref 198, .ref 199, .ref 200, .ref 201, .ref 202, .ref 203, .ref 204, .ref 205, .int (-1), .int 0, .ref 206, .ref 207, .ref 208, .ref 209, .ref 210, .ref 211, .ref 212, .ref 213, .ref 214, .ref 215, .int 0, .int 0, .int 0, .int 0, .ref 216, .ref 217, .ref 218, .ref 219, .ref 220, .int (-1), .int 0, .int 0, .int 0, .int 0, .int 0, .int 0, .ref 221, .ref 222, .ref 223, .ref 224, .int 0, .ref 225, .int 0, .ref 226, .ref 227, .int 0, .ref 228, .ref 229, .ref 230, .ref 231, .ref 232]) rfl e191 rfl rfl rfl rfl (fun h1 o1 f1 => ?_)
  have s1 := s0.put f1
  refine q_iload_n rfl rfl ?_
  refine s_sw (tg := 83) rfl rfl ?_
  refine q_aload_n rfl rfl ?_
  refine q_bipush rfl ?_
  refine s_callV (as := [.int 32]) (rest := []) (d' := 15) (w' := 614) (lv' := [(0, .ref 191), (1, .int 32)]) rfl o1 rfl rfl rfl rfl rfl rfl ?_
  refine q_iconst rfl ?_
  refine s_istore_n (lv' := [(2, .int 0), (0, .ref 191), (1, .int 32)]) rfl (by decide) rfl ?_
  refine q_iconst rfl ?_
  refine s_istore_n (lv' := [(3, .int 0), (2, .int 0), (0, .ref 191), (1, .int 32)]) rfl (by decide) rfl ?_
  refine q_iload_n rfl rfl ?_
  refine q_aload_n rfl rfl ?_
  refine s_get (v := .ref 194) rfl o1 rfl rfl ?_
  refine q_iload_n rfl rfl ?_
  have e194 := F.2.2.2.2.2.2.2.2.2.2.2.2.2.2.2.2.2.2.2.2.2.2.2.2.2.2.2.2.2.2.1
  have e194_1 := (f1.ne rfl e194)
  refine s_iaload (j := 32) (v := .int 0) rfl e194_1 (by decide) rfl (by first | rfl | decide) ?_
  refine q_icmp_ge rfl (fun _ => ?_) (fun c => absurd (by decide) c)
  refine q_iload_n rfl rfl ?_
  refine q_ireturn rfl rfl ?_
  show aW aiP 288 16 637 89 [(0, .ref 191), (1, .int 5)] [.int 0] h1 _
  refine q_ireturn rfl rfl ?_
  show aW aiP 0 17 658 1080 [(4, .int 0), (3, .ref 233), (2, .ref 191), (1, .ref 6), (0, .ref 0)] [.int 0, .int 0] h1 _
  refine q_icmp_eq rfl (fun _ => ?_) (fun c => absurd (by decide) c)
  refine s_iinc (y := 6) (lv' := [(4, .int 6), (3, .ref 233), (2, .ref 191), (1, .ref 6), (0, .ref 0)]) rfl rfl (by decide) (by decide) rfl ?_
  refine q_goto rfl ?_
  refine q_iload rfl rfl ?_
  refine q_aload_n rfl rfl ?_
  have e0_1 := (f1.ne rfl e0)
  refine s_alen (x := 6) rfl e0_1 rfl (by decide) ?_
  refine q_bipush rfl ?_
  refine s_isub (k := 0) rfl (by decide) ?_
  refine q_icmp_gt rfl (fun _ => ?_) (fun c => absurd (by decide) c)
  refine q_iconst rfl ?_
  refine q_ireturn rfl rfl ?_
  exact ⟨rfl, s1.bd rfl⟩
set_option maxRecDepth 20000 in
set_option maxHeartbeats 4000000 in
theorem p_case18_6 {xs : Nat → Int32} {h : ai_H} (F : Fresh 6 xs h) (hk : xs 0 &&& 31 = 18) (hw : xs 1 = 6) : aW aiP 0 17 658 33 [(4, .int 0), (3, .ref 233), (2, .ref 191), (1, .ref 6), (0, .ref 0)] [] h p_Q := by
  have s0 := F.2.2.2.2.2.2.2.2.2.2.2.2.2.2.2.2.2.2.2.2.2.2.2.2.2.2.2.2.2.2.2.2.2.2.2.2.2.2.2.2.2.2.2.2.2.2.2.2.2.2.2.2.2.2.2.2.2.2.2.2.2.2.2.2.2.2.2.2.2.2
  refine q_aload_n rfl rfl ?_
  refine q_iload rfl rfl ?_
  have e0 := F.1
  refine s_iaload (j := 0) (v := .int (xs 0)) rfl e0 (by decide) rfl (by first | rfl | decide) ?_
  refine q_bipush rfl ?_
  refine s_iand (k := ((xs 0) &&& (31 : Int32))) rfl rfl ?_
  rw [hk]
  show aW aiP 0 17 658 40 [(4, .int 0), (3, .ref 233), (2, .ref 191), (1, .ref 6), (0, .ref 0)] [.int 18] h _
  refine s_sw (tg := 1060) rfl rfl ?_
  refine q_aload_n rfl rfl ?_
  refine q_aload_n rfl rfl ?_
  refine q_iload rfl rfl ?_
  refine q_iconst rfl ?_
  refine s_iadd (k := 1) rfl (by decide) ?_
  refine s_iaload (j := 1) (v := .int (xs 1)) rfl e0 (by decide) rfl (by first | rfl | decide) ?_
  rw [hw]
  have e6 := F.2.2.2.2.2.2.1
  refine s_callV (as := [.int 6]) (rest := []) (d' := 16) (w' := 637) (lv' := [(0, .ref 6), (1, .int 6)]) rfl e6 rfl rfl rfl rfl rfl rfl ?_
  refine q_iload_n rfl rfl ?_
  refine s_sw (tg := 104) rfl rfl ?_
  refine q_aload_n rfl rfl ?_
  refine s_get (v := .int 0) rfl e6 rfl rfl ?_
  refine q_ireturn rfl rfl ?_
  show aW aiP 0 17 658 1070 [(4, .int 0), (3, .ref 233), (2, .ref 191), (1, .ref 6), (0, .ref 0)] [.int 0] h _
  refine q_aload_n rfl rfl ?_
  refine q_aload_n rfl rfl ?_
  refine q_iload rfl rfl ?_
  refine q_iconst rfl ?_
  refine s_iadd (k := 1) rfl (by decide) ?_
  refine s_iaload (j := 1) (v := .int (xs 1)) rfl e0 (by decide) rfl (by first | rfl | decide) ?_
  rw [hw]
  have e191 := F.2.2.2.2.2.2.2.2.2.2.2.2.2.2.2.2.2.2.2.2.2.2.2.2.2.2.2.1
  refine s_callV (as := [.int 6]) (rest := [.int 0]) (d' := 16) (w' := 637) (lv' := [(0, .ref 191), (1, .int 6)]) rfl e191 rfl rfl rfl rfl rfl rfl ?_
  refine q_aload_n rfl rfl ?_
  refine q_iconst rfl ?_
  refine s_put (vs' := [.int 0, .ref 192, .ref 193, .int 0, .ref 194, .ref 195, .ref 196, .ref 197, .ref 198, .ref 199, .ref 200, .ref 201, .ref 202, .ref 203, .ref 204, .ref 205, .int (-1), .int 0, .ref 206, .ref 207, .ref 208, .ref 209, .ref 210, .ref 211, .ref 212, .ref 213, .ref 214, .ref 215, .int 0, .int 0, .int 0, .int 0, .ref 216, .ref 217, .ref 218, .ref 219, .ref 220, .int (-1), .int 0, .int 0, .int 0, .int 0, .int 0, .int 0, .ref 221, .ref 222, .ref 223, .ref 224, .int 0, .ref 225, .int 0, .ref 226, .ref 227, .int 0, .ref 228, .ref 229, .ref 230, .ref 231, .ref 232]) rfl e191 rfl rfl rfl rfl (fun h1 o1 f1 => ?_)
  have s1 := s0.put f1
  refine q_iload_n rfl rfl ?_
  refine s_sw (tg := 90) rfl rfl ?_
  refine q_aload_n rfl rfl ?_
  refine s_get (v := .int 0) rfl o1 rfl rfl ?_
  refine q_ireturn rfl rfl ?_
  show aW aiP 0 17 658 1080 [(4, .int 0), (3, .ref 233), (2, .ref 191), (1, .ref 6), (0, .ref 0)] [.int 0, .int 0] h1 _
  refine q_icmp_eq rfl (fun _ => ?_) (fun c => absurd (by decide) c)
  refine s_iinc (y := 6) (lv' := [(4, .int 6), (3, .ref 233), (2, .ref 191), (1, .ref 6), (0, .ref 0)]) rfl rfl (by decide) (by decide) rfl ?_
  refine q_goto rfl ?_
  refine q_iload rfl rfl ?_
  refine q_aload_n rfl rfl ?_
  have e0_1 := (f1.ne rfl e0)
  refine s_alen (x := 6) rfl e0_1 rfl (by decide) ?_
  refine q_bipush rfl ?_
  refine s_isub (k := 0) rfl (by decide) ?_
  refine q_icmp_gt rfl (fun _ => ?_) (fun c => absurd (by decide) c)
  refine q_iconst rfl ?_
  refine q_ireturn rfl rfl ?_
  exact ⟨rfl, s1.bd rfl⟩
set_option maxRecDepth 20000 in
set_option maxHeartbeats 4000000 in
theorem p_case18_7 {xs : Nat → Int32} {h : ai_H} (F : Fresh 6 xs h) (hk : xs 0 &&& 31 = 18) (hw : xs 1 = 7) : aW aiP 0 17 658 33 [(4, .int 0), (3, .ref 233), (2, .ref 191), (1, .ref 6), (0, .ref 0)] [] h p_Q := by
  have s0 := F.2.2.2.2.2.2.2.2.2.2.2.2.2.2.2.2.2.2.2.2.2.2.2.2.2.2.2.2.2.2.2.2.2.2.2.2.2.2.2.2.2.2.2.2.2.2.2.2.2.2.2.2.2.2.2.2.2.2.2.2.2.2.2.2.2.2.2.2.2.2
  refine q_aload_n rfl rfl ?_
  refine q_iload rfl rfl ?_
  have e0 := F.1
  refine s_iaload (j := 0) (v := .int (xs 0)) rfl e0 (by decide) rfl (by first | rfl | decide) ?_
  refine q_bipush rfl ?_
  refine s_iand (k := ((xs 0) &&& (31 : Int32))) rfl rfl ?_
  rw [hk]
  show aW aiP 0 17 658 40 [(4, .int 0), (3, .ref 233), (2, .ref 191), (1, .ref 6), (0, .ref 0)] [.int 18] h _
  refine s_sw (tg := 1060) rfl rfl ?_
  refine q_aload_n rfl rfl ?_
  refine q_aload_n rfl rfl ?_
  refine q_iload rfl rfl ?_
  refine q_iconst rfl ?_
  refine s_iadd (k := 1) rfl (by decide) ?_
  refine s_iaload (j := 1) (v := .int (xs 1)) rfl e0 (by decide) rfl (by first | rfl | decide) ?_
  rw [hw]
  have e6 := F.2.2.2.2.2.2.1
  refine s_callV (as := [.int 7]) (rest := []) (d' := 16) (w' := 637) (lv' := [(0, .ref 6), (1, .int 7)]) rfl e6 rfl rfl rfl rfl rfl rfl ?_
  refine q_iload_n rfl rfl ?_
  refine s_sw (tg := 109) rfl rfl ?_
  refine q_aload_n rfl rfl ?_
  refine s_get (v := .ref 180) rfl e6 rfl rfl ?_
  have e180 := F.2.2.2.2.2.2.2.2.2.2.2.2.2.2.2.2.1
  refine s_get (v := .int 0) rfl e180 rfl rfl ?_
  refine q_ireturn rfl rfl ?_
  show aW aiP 0 17 658 1070 [(4, .int 0), (3, .ref 233), (2, .ref 191), (1, .ref 6), (0, .ref 0)] [.int 0] h _
  refine q_aload_n rfl rfl ?_
  refine q_aload_n rfl rfl ?_
  refine q_iload rfl rfl ?_
  refine q_iconst rfl ?_
  refine s_iadd (k := 1) rfl (by decide) ?_
  refine s_iaload (j := 1) (v := .int (xs 1)) rfl e0 (by decide) rfl (by first | rfl | decide) ?_
  rw [hw]
  have e191 := F.2.2.2.2.2.2.2.2.2.2.2.2.2.2.2.2.2.2.2.2.2.2.2.2.2.2.2.1
  refine s_callV (as := [.int 7]) (rest := [.int 0]) (d' := 16) (w' := 637) (lv' := [(0, .ref 191), (1, .int 7)]) rfl e191 rfl rfl rfl rfl rfl rfl ?_
  refine q_aload_n rfl rfl ?_
  refine q_iconst rfl ?_
  refine s_put (vs' := [.int 0, .ref 192, .ref 193, .int 0, .ref 194, .ref 195, .ref 196, .ref 197, .ref 198, .ref 199, .ref 200, .ref 201, .ref 202, .ref 203, .ref 204, .ref 205, .int (-1), .int 0, .ref 206, .ref 207, .ref 208, .ref 209, .ref 210, .ref 211, .ref 212, .ref 213, .ref 214, .ref 215, .int 0, .int 0, .int 0, .int 0, .ref 216, .ref 217, .ref 218, .ref 219, .ref 220, .int (-1), .int 0, .int 0, .int 0, .int 0, .int 0, .int 0, .ref 221, .ref 222, .ref 223, .ref 224, .int 0, .ref 225, .int 0, .ref 226, .ref 227, .int 0, .ref 228, .ref 229, .ref 230, .ref 231, .ref 232]) rfl e191 rfl rfl rfl rfl (fun h1 o1 f1 => ?_)
  have s1 := s0.put f1
  refine q_iload_n rfl rfl ?_
  refine s_sw (tg := 95) rfl rfl ?_
  refine q_aload_n rfl rfl ?_
  refine s_get (v := .int 0) rfl o1 rfl rfl ?_
  refine q_ireturn rfl rfl ?_
  show aW aiP 0 17 658 1080 [(4, .int 0), (3, .ref 233), (2, .ref 191), (1, .ref 6), (0, .ref 0)] [.int 0, .int 0] h1 _
  refine q_icmp_eq rfl (fun _ => ?_) (fun c => absurd (by decide) c)
  refine s_iinc (y := 6) (lv' := [(4, .int 6), (3, .ref 233), (2, .ref 191), (1, .ref 6), (0, .ref 0)]) rfl rfl (by decide) (by decide) rfl ?_
  refine q_goto rfl ?_
  refine q_iload rfl rfl ?_
  refine q_aload_n rfl rfl ?_
  have e0_1 := (f1.ne rfl e0)
  refine s_alen (x := 6) rfl e0_1 rfl (by decide) ?_
  refine q_bipush rfl ?_
  refine s_isub (k := 0) rfl (by decide) ?_
  refine q_icmp_gt rfl (fun _ => ?_) (fun c => absurd (by decide) c)
  refine q_iconst rfl ?_
  refine q_ireturn rfl rfl ?_
  exact ⟨rfl, s1.bd rfl⟩
