/-! case 9 of the law; made by wip/tools/p1.py -/
set_option maxRecDepth 20000 in
set_option maxHeartbeats 4000000 in
theorem p_case9 {xs : Nat → Int32} {h : ai_H} (F : Fresh 6 xs h) (hk : xs 0 &&& 31 = 9) : aW aiP 0 17 658 33 [(4, .int 0), (3, .ref 233), (2, .ref 191), (1, .ref 6), (0, .ref 0)] [] h p_Q := by
  have s0 := F.2.2.2.2.2.2.2.2.2.2.2.2.2.2.2.2.2.2.2.2.2.2.2.2.2.2.2.2.2.2.2.2.2.2.2.2.2.2.2.2.2.2.2.2.2.2.2.2.2.2.2.2.2.2.2.2.2.2.2.2.2.2.2.2.2.2.2.2.2.2
  refine q_aload_n rfl rfl ?_
  refine q_iload rfl rfl ?_
  have e0 := F.1
  refine s_iaload (j := 0) (v := .int (xs 0)) rfl e0 (by decide) rfl (by first | rfl | decide) ?_
  refine q_bipush rfl ?_
  refine s_iand (k := ((xs 0) &&& (31 : Int32))) rfl rfl ?_
  rw [hk]
  show aW aiP 0 17 658 40 [(4, .int 0), (3, .ref 233), (2, .ref 191), (1, .ref 6), (0, .ref 0)] [.int 9] h _
  refine s_sw (tg := 609) rfl rfl ?_
  refine q_aload_n rfl rfl ?_
  refine q_aload_n rfl rfl ?_
  refine s_callS (as := [.ref 6, .ref 233]) (rest := []) (d' := 16) (w' := 636) (lv' := [(0, .ref 6), (1, .ref 233)]) rfl rfl rfl rfl rfl rfl rfl rfl ?_
  refine q_aload_n rfl rfl ?_
  refine q_iconst rfl ?_
  refine q_aload_n rfl rfl ?_
  have e6 := F.2.2.2.2.2.2.1
  refine s_callV (as := []) (rest := [.int 0, .ref 233]) (d' := 15) (w' := 615) (lv' := [(0, .ref 6)]) rfl e6 rfl rfl rfl rfl rfl rfl ?_
  refine q_aload_n rfl rfl ?_
  refine s_get (v := .int 0) rfl e6 rfl rfl ?_
  refine q_if_eq rfl (fun _ => ?_) (fun c => absurd (by decide) c)
  refine q_aload_n rfl rfl ?_
  refine s_callV (as := []) (rest := []) (d' := 14) (w' := 595) (lv' := [(0, .ref 6)]) rfl e6 rfl rfl rfl rfl rfl rfl ?_
  refine q_aload_n rfl rfl ?_
  refine s_get (v := .ref 186) rfl e6 rfl rfl ?_
  refine q_aload_n rfl rfl ?_
  refine s_get (v := .ref 8) rfl e6 rfl rfl ?_
  refine q_aload_n rfl rfl ?_
  refine s_get (v := .int 0) rfl e6 rfl rfl ?_
  have e186 := F.2.2.2.2.2.2.2.2.2.2.2.2.2.2.2.2.2.2.2.2.2.2.1
  refine s_callV (as := [.ref 8, .int 0]) (rest := []) (d' := 13) (w' := 573) (lv' := [(0, .ref 186), (1, .ref 8), (2, .int 0)]) rfl e186 rfl rfl rfl rfl rfl rfl ?_
  refine q_aload_n rfl rfl ?_
  refine q_aload_n rfl rfl ?_
  refine s_put (vs' := [.ref 8, .ref 187, .ref 188, .int 0]) rfl e186 rfl rfl rfl rfl (fun h1 o1 f1 => ?_)
  have s1 := s0.put f1
  refine q_aload_n rfl rfl ?_
  refine q_iconst rfl ?_
  refine s_put (vs' := [.ref 8, .ref 187, .ref 188, .int 1]) rfl o1 rfl rfl rfl rfl (fun h2 o2 f2 => ?_)
  have s2 := s1.put f2
  refine q_aload_n rfl rfl ?_
  refine s_get (v := .ref 187) rfl o2 rfl rfl ?_
  refine q_iconst rfl ?_
  refine q_iconst rfl ?_
  have e187 := F.2.2.2.2.2.2.2.2.2.2.2.2.2.2.2.2.2.2.2.2.2.2.2.1
  have e187_2 := (f2.ne rfl (f1.ne rfl e187))
  refine s_iastore (j := 0) rfl e187_2 (by decide) rfl (fun h3 o3 f3 => ?_)
  have s3 := s2.put f3
  refine q_aload_n rfl rfl ?_
  have e186_3 := (o2.ne f3 rfl)
  refine s_get (v := .ref 188) rfl e186_3 rfl rfl ?_
  refine q_iconst rfl ?_
  refine q_iload_n rfl rfl ?_
  have e188 := F.2.2.2.2.2.2.2.2.2.2.2.2.2.2.2.2.2.2.2.2.2.2.2.2.1
  have e188_3 := (f3.ne rfl (f2.ne rfl (f1.ne rfl e188)))
  refine s_iastore (j := 0) rfl e188_3 (by decide) rfl (fun h4 o4 f4 => ?_)
  have s4 := s3.put f4
  refine q_return rfl rfl ?_
  show aW aiP 123 14 595 15 [(0, .ref 6)] [] h4 _
  refine q_aload_n rfl rfl ?_
  refine q_iconst rfl ?_
  have e6_4 := ((((e6.ne f1 rfl).ne f2 rfl).ne f3 rfl).ne f4 rfl)
  refine s_put (vs' := [.ref 7, .ref 8, .int 0, .ref 9, .int (-1), .ref 51, .ref 93, .ref 135, .ref 177, .ref 180, .int 0, .ref 183, .ref 186, .ref 189]) rfl e6_4 rfl rfl rfl rfl (fun h5 o5 f5 => ?_)
  have s5 := s4.put f5
  refine q_aload_n rfl rfl ?_
  refine s_get (v := .ref 186) rfl o5 rfl rfl ?_
  refine q_iconst rfl ?_
  refine q_aload_n rfl rfl ?_
  refine s_get (v := .ref 177) rfl o5 rfl rfl ?_
  have e186_5 := ((e186_3.ne f4 rfl).ne f5 rfl)
  refine s_callV (as := [.int 0, .ref 177]) (rest := []) (d' := 13) (w' := 567) (lv' := [(0, .ref 186), (1, .int 0), (2, .ref 177)]) rfl e186_5 rfl rfl rfl rfl rfl rfl ?_
  refine q_aload_n rfl rfl ?_
  have e177 := F.2.2.2.2.2.2.2.2.2.2.2.2.2.1
  have e177_5 := (((((e177.ne f1 rfl).ne f2 rfl).ne f3 rfl).ne f4 rfl).ne f5 rfl)
  refine s_callV (as := []) (rest := []) (d' := 12) (w' := 547) (lv' := [(0, .ref 177)]) rfl e177_5 rfl rfl rfl rfl rfl rfl ?_
  refine q_aload_n rfl rfl ?_
  refine s_get (v := .ref 179) rfl e177_5 rfl rfl ?_
  refine q_iconst rfl ?_
  have e179 := F.2.2.2.2.2.2.2.2.2.2.2.2.2.2.2.1
  have e179_5 := (f5.ne rfl (f4.ne rfl (f3.ne rfl (f2.ne rfl (f1.ne rfl e179)))))
  refine s_iaload (j := 5) (v := .int 0) rfl e179_5 (by decide) rfl (by first | rfl | decide) ?_
  refine q_ireturn rfl rfl ?_
  show aW aiP 125 13 567 4 [(0, .ref 186), (1, .int 0), (2, .ref 177)] [.int 0] h5 _
  refine q_iconst rfl ?_
  refine s_isub (k := (-1)) rfl (by decide) ?_
  refine s_istore_n (lv' := [(3, .int (-1)), (0, .ref 186), (1, .int 0), (2, .ref 177)]) rfl (by decide) rfl ?_
  refine q_aload_n rfl rfl ?_
  refine q_iload_n rfl rfl ?_
  refine s_callV (as := [.int 0]) (rest := []) (d' := 12) (w' := 546) (lv' := [(0, .ref 186), (1, .int 0)]) rfl e186_5 rfl rfl rfl rfl rfl rfl ?_
  refine q_iload_n rfl rfl ?_
  refine q_if_lt rfl (fun c => absurd c (by decide)) (fun _ => ?_)
  refine q_iload_n rfl rfl ?_
  refine q_aload_n rfl rfl ?_
  refine s_get (v := .int 1) rfl e186_5 rfl rfl ?_
  refine q_icmp_ge rfl (fun c => absurd c (by decide)) (fun _ => ?_)
  refine q_iload_n rfl rfl ?_
  refine q_iconst rfl ?_
  refine q_icmp_ge rfl (fun c => absurd c (by decide)) (fun _ => ?_)
  refine q_iconst rfl ?_
  refine q_goto rfl ?_
  refine q_ireturn rfl rfl ?_
  show aW aiP 125 13 567 12 [(3, .int (-1)), (0, .ref 186), (1, .int 0), (2, .ref 177)] [.int 1] h5 _
  refine q_if_eq rfl (fun c => absurd c (by decide)) (fun _ => ?_)
  refine q_iload_n rfl rfl ?_
  refine q_if_ge rfl (fun c => absurd c (by decide)) (fun _ => ?_)
  refine q_iconst rfl ?_
  refine q_ireturn rfl rfl ?_
  show aW aiP 123 14 595 32 [(0, .ref 6)] [.int (-1)] h5 _
  refine q_ireturn rfl rfl ?_
  show aW aiP 122 15 615 19 [(0, .ref 6)] [.int (-1)] h5 _
  refine s_istore_n (lv' := [(1, .int (-1)), (0, .ref 6)]) rfl (by decide) rfl ?_
  refine q_iload_n rfl rfl ?_
  refine q_iconst rfl ?_
  refine q_icmp_ne rfl (fun c => absurd c (by decide)) (fun _ => ?_)
  refine s_thr rfl rfl rfl ?_
  refine ⟨rfl, Or.inl ⟨11, rfl, fun h6 f6 l6 => ?_⟩⟩
  have s6 := Hs.exc s5 f6 l6
  show aW aiP 121 16 636 11 [(0, .ref 6), (1, .ref 233)] [.ref (h5.length)] h6 _
  refine s_astore_n (lv' := [(2, .ref (h5.length)), (0, .ref 6), (1, .ref 233)]) rfl (by decide) rfl ?_
  refine q_iconst rfl ?_
  refine q_ireturn rfl rfl ?_
  show aW aiP 0 17 658 614 [(4, .int 0), (3, .ref 233), (2, .ref 191), (1, .ref 6), (0, .ref 0)] [.int 1] h6 _
  refine s_istore (lv' := [(5, .int 1), (4, .int 0), (3, .ref 233), (2, .ref 191), (1, .ref 6), (0, .ref 0)]) rfl (by decide) rfl ?_
  refine q_aload_n rfl rfl ?_
  have e191 := F.2.2.2.2.2.2.2.2.2.2.2.2.2.2.2.2.2.2.2.2.2.2.2.2.2.2.2.1
  have e191_6 := ((((((e191.ne f1 rfl).ne f2 rfl).ne f3 rfl).ne f4 rfl).ne f5 rfl).nw f6)
  refine s_callV (as := []) (rest := []) (d' := 16) (w' := 637) (lv' := [(0, .ref 191)]) rfl e191_6 rfl rfl rfl rfl rfl rfl ?_
  refine q_aload_n rfl rfl ?_
  refine s_get (v := .int 0) rfl e191_6 rfl rfl ?_
  refine q_if_eq rfl (fun _ => ?_) (fun c => absurd (by decide) c)
  refine q_aload_n rfl rfl ?_
  refine q_iconst rfl ?_
  refine q_aload_n rfl rfl ?_
  refine s_get (v := .int 0) rfl e191_6 rfl rfl ?_
  refine s_callV (as := [.int 0, .int 0]) (rest := []) (d' := 15) (w' := 606) (lv' := [(0, .ref 191), (1, .int 0), (2, .int 0)]) rfl e191_6 rfl rfl rfl rfl rfl rfl ?_
  refine q_aload_n rfl rfl ?_
  refine q_iload_n rfl rfl ?_
  refine q_iload_n rfl rfl ?_
  refine s_callV (as := [.int 0, .int 0]) (rest := []) (d' := 14) (w' := 583) (lv' := [(0, .ref 191), (1, .int 0), (2, .int 0)]) rfl e191_6 rfl rfl rfl rfl rfl rfl ?_
  refine q_iconst rfl ?_
  refine s_istore_n (lv' := [(3, .int 0), (0, .ref 191), (1, .int 0), (2, .int 0)]) rfl (by decide) rfl ?_
  refine q_iload_n rfl rfl ?_
  refine q_iload_n rfl rfl ?_
  refine s_iadd (k := 0) rfl (by decide) ?_
  refine q_iload_n rfl rfl ?_
  refine q_icmp_ge rfl (fun _ => ?_) (fun c => absurd (by decide) c)
  refine q_iload_n rfl rfl ?_
  refine q_ireturn rfl rfl ?_
  show aW aiP 264 15 606 6 [(0, .ref 191), (1, .int 0), (2, .int 0)] [.int 0] h6 _
  refine s_istore_n (lv' := [(3, .int 0), (0, .ref 191), (1, .int 0), (2, .int 0)]) rfl (by decide) rfl ?_
  refine q_aload_n rfl rfl ?_
  refine s_callV (as := []) (rest := []) (d' := 14) (w' := 584) (lv' := [(0, .ref 191)]) rfl e191_6 rfl rfl rfl rfl rfl rfl ?_
  refine q_iconst rfl ?_
  refine s_istore_n (lv' := [(1, .int (-1)), (0, .ref 191)]) rfl (by decide) rfl ?_
  refine q_iconst rfl ?_
  refine s_istore_n (lv' := [(2, .int 0), (1, .int (-1)), (0, .ref 191)]) rfl (by decide) rfl ?_
  refine q_iload_n rfl rfl ?_
  refine q_aload_n rfl rfl ?_
  refine s_get (v := .int 0) rfl e191_6 rfl rfl ?_
  refine q_icmp_ge rfl (fun _ => ?_) (fun c => absurd (by decide) c)
  refine q_iload_n rfl rfl ?_
  refine q_ireturn rfl rfl ?_
  show aW aiP 264 15 606 11 [(3, .int 0), (0, .ref 191), (1, .int 0), (2, .int 0)] [.int (-1)] h6 _
  refine s_istore (lv' := [(4, .int (-1)), (3, .int 0), (0, .ref 191), (1, .int 0), (2, .int 0)]) rfl (by decide) rfl ?_
  refine q_iload_n rfl rfl ?_
  refine q_iload_n rfl rfl ?_
  refine s_isub (k := 0) rfl (by decide) ?_
  refine q_iconst rfl ?_
  refine q_icmp_ne rfl (fun _ => ?_) (fun c => absurd (by decide) c)
  refine q_iload_n rfl rfl ?_
  refine q_if_ne rfl (fun c => absurd c (by decide)) (fun _ => ?_)
  refine q_iconst rfl ?_
  refine q_ireturn rfl rfl ?_
  show aW aiP 263 16 637 22 [(0, .ref 191)] [.int (-1)] h6 _
  refine s_istore_n (lv' := [(1, .int (-1)), (0, .ref 191)]) rfl (by decide) rfl ?_
  refine q_aload_n rfl rfl ?_
  refine q_iconst rfl ?_
  refine s_put (vs' := [.int 0, .ref 192, .ref 193, .int 0, .ref 194, .ref 195, .ref 196, .ref 197, .ref 198, .ref 199, .ref 200, .ref 201, .ref 202, .ref 203, .ref 204, .ref 205, .int (-1), .int 0, .ref 206, .ref 207, .ref 208, .ref 209, .ref 210, .ref 211, .ref 212, .ref 213, .ref 214, .ref 215, .int 0, .int 0, .int 0, .int 0, .ref 216, .ref 217, .ref 218, .ref 219, .ref 220, .int (-1), .int 0, .int 0, .int 0, .int 0, .int 0, .int 0, .ref 221, .ref 222, .ref 223, .ref 224, .int 0, .ref 225, .int 0, .ref 226, .ref 227, .int 0, .ref 228, .ref 229, .ref 230, .ref 231, .ref 232]) rfl e191_6 rfl rfl rfl rfl (fun h7 o7 f7 => ?_)
  have s7 := s6.put f7
  refine q_aload_n rfl rfl ?_
  refine q_iload_n rfl rfl ?_
  refine q_if_ge rfl (fun c => absurd c (by decide)) (fun _ => ?_)
  refine q_iconst rfl ?_
  refine q_goto rfl ?_
  refine q_iconst rfl ?_
  refine s_callV (as := [.int 1, .int 0]) (rest := []) (d' := 15) (w' := 615) (lv' := [(0, .ref 191), (1, .int 1), (2, .int 0)]) rfl o7 rfl rfl rfl rfl rfl rfl ?_
  refine q_aload_n rfl rfl ?_
  refine q_iload_n rfl rfl ?_
  refine q_if_eq rfl (fun c => absurd c (by decide)) (fun _ => ?_)
  refine q_iconst rfl ?_
  refine q_goto rfl ?_
  refine s_put (vs' := [.int 1, .ref 192, .ref 193, .int 0, .ref 194, .ref 195, .ref 196, .ref 197, .ref 198, .ref 199, .ref 200, .ref 201, .ref 202, .ref 203, .ref 204, .ref 205, .int (-1), .int 0, .ref 206, .ref 207, .ref 208, .ref 209, .ref 210, .ref 211, .ref 212, .ref 213, .ref 214, .ref 215, .int 0, .int 0, .int 0, .int 0, .ref 216, .ref 217, .ref 218, .ref 219, .ref 220, .int (-1), .int 0, .int 0, .int 0, .int 0, .int 0, .int 0, .ref 221, .ref 222, .ref 223, .ref 224, .int 0, .ref 225, .int 0, .ref 226, .ref 227, .int 0, .ref 228, .ref 229, .ref 230, .ref 231, .ref 232]) rfl o7 rfl rfl rfl rfl (fun h8 o8 f8 => ?_)
  have s8 := s7.put f8
  refine q_aload_n rfl rfl ?_
  refine s_get (v := .int 1) rfl o8 rfl rfl ?_
  refine q_if_le rfl (fun c => absurd c (by decide)) (fun _ => ?_)
  refine q_iconst rfl ?_
  refine q_goto rfl ?_
  refine q_ireturn rfl rfl ?_
  show aW aiP 263 16 637 42 [(1, .int (-1)), (0, .ref 191)] [.int 1] h8 _
  refine q_if_eq rfl (fun c => absurd c (by decide)) (fun _ => ?_)
  refine q_iconst rfl ?_
  refine q_ireturn rfl rfl ?_
  show aW aiP 0 17 658 620 [(5, .int 1), (4, .int 0), (3, .ref 233), (2, .ref 191), (1, .ref 6), (0, .ref 0)] [.int 0] h8 _
  refine s_istore (lv' := [(6, .int 0), (5, .int 1), (4, .int 0), (3, .ref 233), (2, .ref 191), (1, .ref 6), (0, .ref 0)]) rfl (by decide) rfl ?_
  refine q_aload_n rfl rfl ?_
  refine s_callV (as := []) (rest := []) (d' := 16) (w' := 638) (lv' := [(0, .ref 191)]) rfl o8 rfl rfl rfl rfl rfl rfl ?_
  refine q_aload_n rfl rfl ?_
  refine s_get (v := .int 1) rfl o8 rfl rfl ?_
  refine q_ireturn rfl rfl ?_
  show aW aiP 0 17 658 626 [(6, .int 0), (5, .int 1), (4, .int 0), (3, .ref 233), (2, .ref 191), (1, .ref 6), (0, .ref 0)] [.int 1] h8 _
  refine q_iload rfl rfl ?_
  refine q_icmp_eq rfl (fun _ => ?_) (fun c => absurd (by decide) c)
  refine q_iload rfl rfl ?_
  refine q_if_ne rfl (fun _ => ?_) (fun c => absurd (by decide) c)
  refine q_goto rfl ?_
  refine s_iinc (y := 6) (lv' := [(4, .int 6), (6, .int 0), (5, .int 1), (3, .ref 233), (2, .ref 191), (1, .ref 6), (0, .ref 0)]) rfl rfl (by decide) (by decide) rfl ?_
  refine q_goto rfl ?_
  refine q_iload rfl rfl ?_
  refine q_aload_n rfl rfl ?_
  have e0_8 := (f8.ne rfl (f7.ne rfl (f6.nw (f5.ne rfl (f4.ne rfl (f3.ne rfl (f2.ne rfl (f1.ne rfl e0))))))))
  refine s_alen (x := 6) rfl e0_8 rfl (by decide) ?_
  refine q_bipush rfl ?_
  refine s_isub (k := 0) rfl (by decide) ?_
  refine q_icmp_gt rfl (fun _ => ?_) (fun c => absurd (by decide) c)
  refine q_iconst rfl ?_
  refine q_ireturn rfl rfl ?_
  exact ⟨rfl, s8.bd rfl⟩
