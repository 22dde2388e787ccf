/-! case 0 of the law; made by wip/tools/p1.py -/
set_option maxRecDepth 20000 in
set_option maxHeartbeats 4000000 in
theorem p_case0 {xs : Nat → Int32} {h : ai_H} (F : Fresh 6 xs h) (hk : xs 0 &&& 31 = 0) : aW aiP 0 17 658 33 [(4, .int 0), (3, .ref 233), (2, .ref 191), (1, .ref 6), (0, .ref 0)] [] h p_Q := by
  have s0 := F.2.2.2.2.2.2.2.2.2.2.2.2.2.2.2.2.2.2.2.2.2.2.2.2.2.2.2.2.2.2.2.2.2.2.2.2.2.2.2.2.2.2.2.2.2.2.2.2.2.2.2.2.2.2.2.2.2.2.2.2.2.2.2.2.2.2.2.2.2.2
  refine q_aload_n rfl rfl ?_
  refine q_iload rfl rfl ?_
  have e0 := F.1
  refine s_iaload (j := 0) (v := .int (xs 0)) rfl e0 (by decide) rfl (by first | rfl | decide) ?_
  refine q_bipush rfl ?_
  refine s_iand (k := ((xs 0) &&& (31 : Int32))) rfl rfl ?_
  rw [hk]
  show aW aiP 0 17 658 40 [(4, .int 0), (3, .ref 233), (2, .ref 191), (1, .ref 6), (0, .ref 0)] [.int 0] h _
  refine s_sw (tg := 152) rfl rfl ?_
  refine q_aload_n rfl rfl ?_
  refine q_aload_n rfl rfl ?_
  refine q_iload rfl rfl ?_
  refine q_iconst rfl ?_
  refine s_iadd (k := 1) rfl (by decide) ?_
  refine s_iaload (j := 1) (v := .int (xs 1)) rfl e0 (by decide) rfl (by first | rfl | decide) ?_
  refine q_aload_n rfl rfl ?_
  refine q_iload rfl rfl ?_
  refine q_iconst rfl ?_
  refine s_iadd (k := 2) rfl (by decide) ?_
  refine s_iaload (j := 2) (v := .int (xs 2)) rfl e0 (by decide) rfl (by first | rfl | decide) ?_
  refine q_aload_n rfl rfl ?_
  refine q_iload rfl rfl ?_
  refine q_iconst rfl ?_
  refine s_iadd (k := 3) rfl (by decide) ?_
  refine s_iaload (j := 3) (v := .int (xs 3)) rfl e0 (by decide) rfl (by first | rfl | decide) ?_
  refine q_aload_n rfl rfl ?_
  refine q_iload rfl rfl ?_
  refine q_iconst rfl ?_
  refine s_iadd (k := 4) rfl (by decide) ?_
  refine s_iaload (j := 4) (v := .int (xs 4)) rfl e0 (by decide) rfl (by first | rfl | decide) ?_
  refine q_aload_n rfl rfl ?_
  refine q_iload rfl rfl ?_
  refine q_iconst rfl ?_
  refine s_iadd (k := 5) rfl (by decide) ?_
  refine s_iaload (j := 5) (v := .int (xs 5)) rfl e0 (by decide) rfl (by first | rfl | decide) ?_
  have e6 := F.2.2.2.2.2.2.1
  refine s_callV (as := [.int (xs 1), .int (xs 2), .int (xs 3), .int (xs 4), .int (xs 5)]) (rest := []) (d' := 16) (w' := 633) (lv' := [(0, .ref 6), (1, .int (xs 1)), (2, .int (xs 2)), (3, .int (xs 3)), (4, .int (xs 4)), (5, .int (xs 5))]) rfl e6 rfl rfl rfl rfl rfl rfl ?_
  refine q_aload_n rfl rfl ?_
  refine q_iconst rfl ?_
  refine q_iload_n rfl rfl ?_
  refine s_callV (as := [.int 0, .int (xs 1)]) (rest := []) (d' := 15) (w' := 610) (lv' := [(0, .ref 6), (1, .int 0), (2, .int (xs 1))]) rfl e6 rfl rfl rfl rfl rfl rfl ?_
  refine q_iconst rfl ?_
  refine s_istore_n (lv' := [(3, .int 0), (0, .ref 6), (1, .int 0), (2, .int (xs 1))]) rfl (by decide) rfl ?_
  refine q_iload_n rfl rfl ?_
  refine q_iconst rfl ?_
  refine q_icmp_ge rfl (fun c => absurd c (by decide)) (fun _ => ?_)
  refine q_aload_n rfl rfl ?_
  refine s_get (v := .ref 7) rfl e6 rfl rfl ?_
  refine q_iload_n rfl rfl ?_
  refine q_iload_n rfl rfl ?_
  refine s_iadd (k := 0) rfl (by decide) ?_
  refine q_iload_n rfl rfl ?_
  refine q_bipush rfl ?_
  refine q_bipush rfl ?_
  refine q_iload_n rfl rfl ?_
  refine s_imul (k := 0) rfl (by decide) ?_
  refine s_isub (k := 24) rfl (by decide) ?_
  refine s_iushr (k := (((xs 1).toUInt32 >>> ((24 : Int32).toUInt32 &&& Int32.toUInt32 31)).toInt32)) rfl rfl ?_
  refine s_i2b (k := ((((xs 1).toUInt32 >>> ((24 : Int32).toUInt32 &&& Int32.toUInt32 31)).toInt32).toInt8.toInt32)) rfl rfl ?_
  have e7 := F.2.2.2.2.2.2.2.1
  refine s_bastore (j := 0) rfl e7 (by decide) rfl (fun h1 o1 f1 => ?_)
  have s1 := s0.put f1
  refine s_iinc (y := 1) (lv' := [(3, .int 1), (0, .ref 6), (1, .int 0), (2, .int (xs 1))]) rfl rfl (by decide) (by decide) rfl ?_
  refine q_goto rfl ?_
  refine q_iload_n rfl rfl ?_
  refine q_iconst rfl ?_
  refine q_icmp_ge rfl (fun c => absurd c (by decide)) (fun _ => ?_)
  refine q_aload_n rfl rfl ?_
  have e6_1 := (e6.ne f1 rfl)
  refine s_get (v := .ref 7) rfl e6_1 rfl rfl ?_
  refine q_iload_n rfl rfl ?_
  refine q_iload_n rfl rfl ?_
  refine s_iadd (k := 1) rfl (by decide) ?_
  refine q_iload_n rfl rfl ?_
  refine q_bipush rfl ?_
  refine q_bipush rfl ?_
  refine q_iload_n rfl rfl ?_
  refine s_imul (k := 8) rfl (by decide) ?_
  refine s_isub (k := 16) rfl (by decide) ?_
  refine s_iushr (k := (((xs 1).toUInt32 >>> ((16 : Int32).toUInt32 &&& Int32.toUInt32 31)).toInt32)) rfl rfl ?_
  refine s_i2b (k := ((((xs 1).toUInt32 >>> ((16 : Int32).toUInt32 &&& Int32.toUInt32 31)).toInt32).toInt8.toInt32)) rfl rfl ?_
  refine s_bastore (j := 1) rfl o1 (by decide) rfl (fun h2 o2 f2 => ?_)
  have s2 := s1.put f2
  refine s_iinc (y := 2) (lv' := [(3, .int 2), (0, .ref 6), (1, .int 0), (2, .int (xs 1))]) rfl rfl (by decide) (by decide) rfl ?_
  refine q_goto rfl ?_
  refine q_iload_n rfl rfl ?_
  refine q_iconst rfl ?_
  refine q_icmp_ge rfl (fun c => absurd c (by decide)) (fun _ => ?_)
  refine q_aload_n rfl rfl ?_
  have e6_2 := (e6_1.ne f2 rfl)
  refine s_get (v := .ref 7) rfl e6_2 rfl rfl ?_
  refine q_iload_n rfl rfl ?_
  refine q_iload_n rfl rfl ?_
  refine s_iadd (k := 2) rfl (by decide) ?_
  refine q_iload_n rfl rfl ?_
  refine q_bipush rfl ?_
  refine q_bipush rfl ?_
  refine q_iload_n rfl rfl ?_
  refine s_imul (k := 16) rfl (by decide) ?_
  refine s_isub (k := 8) rfl (by decide) ?_
  refine s_iushr (k := (((xs 1).toUInt32 >>> ((8 : Int32).toUInt32 &&& Int32.toUInt32 31)).toInt32)) rfl rfl ?_
  refine s_i2b (k := ((((xs 1).toUInt32 >>> ((8 : Int32).toUInt32 &&& Int32.toUInt32 31)).toInt32).toInt8.toInt32)) rfl rfl ?_
  refine s_bastore (j := 2) rfl o2 (by decide) rfl (fun h3 o3 f3 => ?_)
  have s3 := s2.put f3
  refine s_iinc (y := 3) (lv' := [(3, .int 3), (0, .ref 6), (1, .int 0), (2, .int (xs 1))]) rfl rfl (by decide) (by decide) rfl ?_
  refine q_goto rfl ?_
  refine q_iload_n rfl rfl ?_
  refine q_iconst rfl ?_
  refine q_icmp_ge rfl (fun c => absurd c (by decide)) (fun _ => ?_)
  refine q_aload_n rfl rfl ?_
  have e6_3 := (e6_2.ne f3 rfl)
  refine s_get (v := .ref 7) rfl e6_3 rfl rfl ?_
  refine q_iload_n rfl rfl ?_
  refine q_iload_n rfl rfl ?_
  refine s_iadd (k := 3) rfl (by decide) ?_
  refine q_iload_n rfl rfl ?_
  refine q_bipush rfl ?_
  refine q_bipush rfl ?_
  refine q_iload_n rfl rfl ?_
  refine s_imul (k := 24) rfl (by decide) ?_
  refine s_isub (k := 0) rfl (by decide) ?_
  refine s_iushr (k := (((xs 1).toUInt32 >>> ((0 : Int32).toUInt32 &&& Int32.toUInt32 31)).toInt32)) rfl rfl ?_
  refine s_i2b (k := ((((xs 1).toUInt32 >>> ((0 : Int32).toUInt32 &&& Int32.toUInt32 31)).toInt32).toInt8.toInt32)) rfl rfl ?_
  refine s_bastore (j := 3) rfl o3 (by decide) rfl (fun h4 o4 f4 => ?_)
  have s4 := s3.put f4
  refine s_iinc (y := 4) (lv' := [(3, .int 4), (0, .ref 6), (1, .int 0), (2, .int (xs 1))]) rfl rfl (by decide) (by decide) rfl ?_
  refine q_goto rfl ?_
  refine q_iload_n rfl rfl ?_
  refine q_iconst rfl ?_
  refine q_icmp_ge rfl (fun _ => ?_) (fun c => absurd (by decide) c)
  refine q_return rfl rfl ?_
  show aW aiP 13 16 633 6 [(0, .ref 6), (1, .int (xs 1)), (2, .int (xs 2)), (3, .int (xs 3)), (4, .int (xs 4)), (5, .int (xs 5))] [] h4 _
  refine q_aload_n rfl rfl ?_
  refine q_iconst rfl ?_
  refine q_iload_n rfl rfl ?_
  have e6_4 := (e6_3.ne f4 rfl)
  refine s_callV (as := [.int 4, .int (xs 2)]) (rest := []) (d' := 15) (w' := 610) (lv' := [(0, .ref 6), (1, .int 4), (2, .int (xs 2))]) rfl e6_4 rfl rfl rfl rfl rfl rfl ?_
  refine q_iconst rfl ?_
  refine s_istore_n (lv' := [(3, .int 0), (0, .ref 6), (1, .int 4), (2, .int (xs 2))]) rfl (by decide) rfl ?_
  refine q_iload_n rfl rfl ?_
  refine q_iconst rfl ?_
  refine q_icmp_ge rfl (fun c => absurd c (by decide)) (fun _ => ?_)
  refine q_aload_n rfl rfl ?_
  refine s_get (v := .ref 7) rfl e6_4 rfl rfl ?_
  refine q_iload_n rfl rfl ?_
  refine q_iload_n rfl rfl ?_
  refine s_iadd (k := 4) rfl (by decide) ?_
  refine q_iload_n rfl rfl ?_
  refine q_bipush rfl ?_
  refine q_bipush rfl ?_
  refine q_iload_n rfl rfl ?_
  refine s_imul (k := 0) rfl (by decide) ?_
  refine s_isub (k := 24) rfl (by decide) ?_
  refine s_iushr (k := (((xs 2).toUInt32 >>> ((24 : Int32).toUInt32 &&& Int32.toUInt32 31)).toInt32)) rfl rfl ?_
  refine s_i2b (k := ((((xs 2).toUInt32 >>> ((24 : Int32).toUInt32 &&& Int32.toUInt32 31)).toInt32).toInt8.toInt32)) rfl rfl ?_
  refine s_bastore (j := 4) rfl o4 (by decide) rfl (fun h5 o5 f5 => ?_)
  have s5 := s4.put f5
  refine s_iinc (y := 1) (lv' := [(3, .int 1), (0, .ref 6), (1, .int 4), (2, .int (xs 2))]) rfl rfl (by decide) (by decide) rfl ?_
  refine q_goto rfl ?_
  refine q_iload_n rfl rfl ?_
  refine q_iconst rfl ?_
  refine q_icmp_ge rfl (fun c => absurd c (by decide)) (fun _ => ?_)
  refine q_aload_n rfl rfl ?_
  have e6_5 := (e6_4.ne f5 rfl)
  refine s_get (v := .ref 7) rfl e6_5 rfl rfl ?_
  refine q_iload_n rfl rfl ?_
  refine q_iload_n rfl rfl ?_
  refine s_iadd (k := 5) rfl (by decide) ?_
  refine q_iload_n rfl rfl ?_
  refine q_bipush rfl ?_
  refine q_bipush rfl ?_
  refine q_iload_n rfl rfl ?_
  refine s_imul (k := 8) rfl (by decide) ?_
  refine s_isub (k := 16) rfl (by decide) ?_
  refine s_iushr (k := (((xs 2).toUInt32 >>> ((16 : Int32).toUInt32 &&& Int32.toUInt32 31)).toInt32)) rfl rfl ?_
  refine s_i2b (k := ((((xs 2).toUInt32 >>> ((16 : Int32).toUInt32 &&& Int32.toUInt32 31)).toInt32).toInt8.toInt32)) rfl rfl ?_
  refine s_bastore (j := 5) rfl o5 (by decide) rfl (fun h6 o6 f6 => ?_)
  have s6 := s5.put f6
  refine s_iinc (y := 2) (lv' := [(3, .int 2), (0, .ref 6), (1, .int 4), (2, .int (xs 2))]) rfl rfl (by decide) (by decide) rfl ?_
  refine q_goto rfl ?_
  refine q_iload_n rfl rfl ?_
  refine q_iconst rfl ?_
  refine q_icmp_ge rfl (fun c => absurd c (by decide)) (fun _ => ?_)
  refine q_aload_n rfl rfl ?_
  have e6_6 := (e6_5.ne f6 rfl)
  refine s_get (v := .ref 7) rfl e6_6 rfl rfl ?_
  refine q_iload_n rfl rfl ?_
  refine q_iload_n rfl rfl ?_
  refine s_iadd (k := 6) rfl (by decide) ?_
  refine q_iload_n rfl rfl ?_
  refine q_bipush rfl ?_
  refine q_bipush rfl ?_
  refine q_iload_n rfl rfl ?_
  refine s_imul (k := 16) rfl (by decide) ?_
  refine s_isub (k := 8) rfl (by decide) ?_
  refine s_iushr (k := (((xs 2).toUInt32 >>> ((8 : Int32).toUInt32 &&& Int32.toUInt32 31)).toInt32)) rfl rfl ?_
  refine s_i2b (k := ((((xs 2).toUInt32 >>> ((8 : Int32).toUInt32 &&& Int32.toUInt32 31)).toInt32).toInt8.toInt32)) rfl rfl ?_
  refine s_bastore (j := 6) rfl o6 (by decide) rfl (fun h7 o7 f7 => ?_)
  have s7 := s6.put f7
  refine s_iinc (y := 3) (lv' := [(3, .int 3), (0, .ref 6), (1, .int 4), (2, .int (xs 2))]) rfl rfl (by decide) (by decide) rfl ?_
  refine q_goto rfl ?_
  refine q_iload_n rfl rfl ?_
  refine q_iconst rfl ?_
  refine q_icmp_ge rfl (fun c => absurd c (by decide)) (fun _ => ?_)
  refine q_aload_n rfl rfl ?_
  have e6_7 := (e6_6.ne f7 rfl)
  refine s_get (v := .ref 7) rfl e6_7 rfl rfl ?_
  refine q_iload_n rfl rfl ?_
  refine q_iload_n rfl rfl ?_
  refine s_iadd (k := 7) rfl (by decide) ?_
  refine q_iload_n rfl rfl ?_
  refine q_bipush rfl ?_
  refine q_bipush rfl ?_
  refine q_iload_n rfl rfl ?_
  refine s_imul (k := 24) rfl (by decide) ?_
  refine s_isub (k := 0) rfl (by decide) ?_
  refine s_iushr (k := (((xs 2).toUInt32 >>> ((0 : Int32).toUInt32 &&& Int32.toUInt32 31)).toInt32)) rfl rfl ?_
  refine s_i2b (k := ((((xs 2).toUInt32 >>> ((0 : Int32).toUInt32 &&& Int32.toUInt32 31)).toInt32).toInt8.toInt32)) rfl rfl ?_
  refine s_bastore (j := 7) rfl o7 (by decide) rfl (fun h8 o8 f8 => ?_)
  have s8 := s7.put f8
  refine s_iinc (y := 4) (lv' := [(3, .int 4), (0, .ref 6), (1, .int 4), (2, .int (xs 2))]) rfl rfl (by decide) (by decide) rfl ?_
  refine q_goto rfl ?_
  refine q_iload_n rfl rfl ?_
  refine q_iconst rfl ?_
  refine q_icmp_ge rfl (fun _ => ?_) (fun c => absurd (by decide) c)
  refine q_return rfl rfl ?_
  show aW aiP 13 16 633 12 [(0, .ref 6), (1, .int (xs 1)), (2, .int (xs 2)), (3, .int (xs 3)), (4, .int (xs 4)), (5, .int (xs 5))] [] h8 _
  refine q_aload_n rfl rfl ?_
  refine q_bipush rfl ?_
  refine q_iload_n rfl rfl ?_
  have e6_8 := (e6_7.ne f8 rfl)
  refine s_callV (as := [.int 8, .int (xs 3)]) (rest := []) (d' := 15) (w' := 610) (lv' := [(0, .ref 6), (1, .int 8), (2, .int (xs 3))]) rfl e6_8 rfl rfl rfl rfl rfl rfl ?_
  refine q_iconst rfl ?_
  refine s_istore_n (lv' := [(3, .int 0), (0, .ref 6), (1, .int 8), (2, .int (xs 3))]) rfl (by decide) rfl ?_
  refine q_iload_n rfl rfl ?_
  refine q_iconst rfl ?_
  refine q_icmp_ge rfl (fun c => absurd c (by decide)) (fun _ => ?_)
  refine q_aload_n rfl rfl ?_
  refine s_get (v := .ref 7) rfl e6_8 rfl rfl ?_
  refine q_iload_n rfl rfl ?_
  refine q_iload_n rfl rfl ?_
  refine s_iadd (k := 8) rfl (by decide) ?_
  refine q_iload_n rfl rfl ?_
  refine q_bipush rfl ?_
  refine q_bipush rfl ?_
  refine q_iload_n rfl rfl ?_
  refine s_imul (k := 0) rfl (by decide) ?_
  refine s_isub (k := 24) rfl (by decide) ?_
  refine s_iushr (k := (((xs 3).toUInt32 >>> ((24 : Int32).toUInt32 &&& Int32.toUInt32 31)).toInt32)) rfl rfl ?_
  refine s_i2b (k := ((((xs 3).toUInt32 >>> ((24 : Int32).toUInt32 &&& Int32.toUInt32 31)).toInt32).toInt8.toInt32)) rfl rfl ?_
  refine s_bastore (j := 8) rfl o8 (by decide) rfl (fun h9 o9 f9 => ?_)
  have s9 := s8.put f9
  refine s_iinc (y := 1) (lv' := [(3, .int 1), (0, .ref 6), (1, .int 8), (2, .int (xs 3))]) rfl rfl (by decide) (by decide) rfl ?_
  refine q_goto rfl ?_
  refine q_iload_n rfl rfl ?_
  refine q_iconst rfl ?_
  refine q_icmp_ge rfl (fun c => absurd c (by decide)) (fun _ => ?_)
  refine q_aload_n rfl rfl ?_
  have e6_9 := (e6_8.ne f9 rfl)
  refine s_get (v := .ref 7) rfl e6_9 rfl rfl ?_
  refine q_iload_n rfl rfl ?_
  refine q_iload_n rfl rfl ?_
  refine s_iadd (k := 9) rfl (by decide) ?_
  refine q_iload_n rfl rfl ?_
  refine q_bipush rfl ?_
  refine q_bipush rfl ?_
  refine q_iload_n rfl rfl ?_
  refine s_imul (k := 8) rfl (by decide) ?_
  refine s_isub (k := 16) rfl (by decide) ?_
  refine s_iushr (k := (((xs 3).toUInt32 >>> ((16 : Int32).toUInt32 &&& Int32.toUInt32 31)).toInt32)) rfl rfl ?_
  refine s_i2b (k := ((((xs 3).toUInt32 >>> ((16 : Int32).toUInt32 &&& Int32.toUInt32 31)).toInt32).toInt8.toInt32)) rfl rfl ?_
  refine s_bastore (j := 9) rfl o9 (by decide) rfl (fun h10 o10 f10 => ?_)
  have s10 := s9.put f10
  refine s_iinc (y := 2) (lv' := [(3, .int 2), (0, .ref 6), (1, .int 8), (2, .int (xs 3))]) rfl rfl (by decide) (by decide) rfl ?_
  refine q_goto rfl ?_
  refine q_iload_n rfl rfl ?_
  refine q_iconst rfl ?_
  refine q_icmp_ge rfl (fun c => absurd c (by decide)) (fun _ => ?_)
  refine q_aload_n rfl rfl ?_
  have e6_10 := (e6_9.ne f10 rfl)
  refine s_get (v := .ref 7) rfl e6_10 rfl rfl ?_
  refine q_iload_n rfl rfl ?_
  refine q_iload_n rfl rfl ?_
  refine s_iadd (k := 10) rfl (by decide) ?_
  refine q_iload_n rfl rfl ?_
  refine q_bipush rfl ?_
  refine q_bipush rfl ?_
  refine q_iload_n rfl rfl ?_
  refine s_imul (k := 16) rfl (by decide) ?_
  refine s_isub (k := 8) rfl (by decide) ?_
  refine s_iushr (k := (((xs 3).toUInt32 >>> ((8 : Int32).toUInt32 &&& Int32.toUInt32 31)).toInt32)) rfl rfl ?_
  refine s_i2b (k := ((((xs 3).toUInt32 >>> ((8 : Int32).toUInt32 &&& Int32.toUInt32 31)).toInt32).toInt8.toInt32)) rfl rfl ?_
  refine s_bastore (j := 10) rfl o10 (by decide) rfl (fun h11 o11 f11 => ?_)
  have s11 := s10.put f11
  refine s_iinc (y := 3) (lv' := [(3, .int 3), (0, .ref 6), (1, .int 8), (2, .int (xs 3))]) rfl rfl (by decide) (by decide) rfl ?_
  refine q_goto rfl ?_
  refine q_iload_n rfl rfl ?_
  refine q_iconst rfl ?_
  refine q_icmp_ge rfl (fun c => absurd c (by decide)) (fun _ => ?_)
  refine q_aload_n rfl rfl ?_
  have e6_11 := (e6_10.ne f11 rfl)
  refine s_get (v := .ref 7) rfl e6_11 rfl rfl ?_
  refine q_iload_n rfl rfl ?_
  refine q_iload_n rfl rfl ?_
  refine s_iadd (k := 11) rfl (by decide) ?_
  refine q_iload_n rfl rfl ?_
  refine q_bipush rfl ?_
  refine q_bipush rfl ?_
  refine q_iload_n rfl rfl ?_
  refine s_imul (k := 24) rfl (by decide) ?_
  refine s_isub (k := 0) rfl (by decide) ?_
  refine s_iushr (k := (((xs 3).toUInt32 >>> ((0 : Int32).toUInt32 &&& Int32.toUInt32 31)).toInt32)) rfl rfl ?_
  refine s_i2b (k := ((((xs 3).toUInt32 >>> ((0 : Int32).toUInt32 &&& Int32.toUInt32 31)).toInt32).toInt8.toInt32)) rfl rfl ?_
  refine s_bastore (j := 11) rfl o11 (by decide) rfl (fun h12 o12 f12 => ?_)
  have s12 := s11.put f12
  refine s_iinc (y := 4) (lv' := [(3, .int 4), (0, .ref 6), (1, .int 8), (2, .int (xs 3))]) rfl rfl (by decide) (by decide) rfl ?_
  refine q_goto rfl ?_
  refine q_iload_n rfl rfl ?_
  refine q_iconst rfl ?_
  refine q_icmp_ge rfl (fun _ => ?_) (fun c => absurd (by decide) c)
  refine q_return rfl rfl ?_
  show aW aiP 13 16 633 19 [(0, .ref 6), (1, .int (xs 1)), (2, .int (xs 2)), (3, .int (xs 3)), (4, .int (xs 4)), (5, .int (xs 5))] [] h12 _
  refine q_aload_n rfl rfl ?_
  refine q_bipush rfl ?_
  refine q_iload rfl rfl ?_
  have e6_12 := (e6_11.ne f12 rfl)
  refine s_callV (as := [.int 12, .int (xs 4)]) (rest := []) (d' := 15) (w' := 610) (lv' := [(0, .ref 6), (1, .int 12), (2, .int (xs 4))]) rfl e6_12 rfl rfl rfl rfl rfl rfl ?_
  refine q_iconst rfl ?_
  refine s_istore_n (lv' := [(3, .int 0), (0, .ref 6), (1, .int 12), (2, .int (xs 4))]) rfl (by decide) rfl ?_
  refine q_iload_n rfl rfl ?_
  refine q_iconst rfl ?_
  refine q_icmp_ge rfl (fun c => absurd c (by decide)) (fun _ => ?_)
  refine q_aload_n rfl rfl ?_
  refine s_get (v := .ref 7) rfl e6_12 rfl rfl ?_
  refine q_iload_n rfl rfl ?_
  refine q_iload_n rfl rfl ?_
  refine s_iadd (k := 12) rfl (by decide) ?_
  refine q_iload_n rfl rfl ?_
  refine q_bipush rfl ?_
  refine q_bipush rfl ?_
  refine q_iload_n rfl rfl ?_
  refine s_imul (k := 0) rfl (by decide) ?_
  refine s_isub (k := 24) rfl (by decide) ?_
  refine s_iushr (k := (((xs 4).toUInt32 >>> ((24 : Int32).toUInt32 &&& Int32.toUInt32 31)).toInt32)) rfl rfl ?_
  refine s_i2b (k := ((((xs 4).toUInt32 >>> ((24 : Int32).toUInt32 &&& Int32.toUInt32 31)).toInt32).toInt8.toInt32)) rfl rfl ?_
  refine s_bastore (j := 12) rfl o12 (by decide) rfl (fun h13 o13 f13 => ?_)
  have s13 := s12.put f13
  refine s_iinc (y := 1) (lv' := [(3, .int 1), (0, .ref 6), (1, .int 12), (2, .int (xs 4))]) rfl rfl (by decide) (by decide) rfl ?_
  refine q_goto rfl ?_
  refine q_iload_n rfl rfl ?_
  refine q_iconst rfl ?_
  refine q_icmp_ge rfl (fun c => absurd c (by decide)) (fun _ => ?_)
  refine q_aload_n rfl rfl ?_
  have e6_13 := (e6_12.ne f13 rfl)
  refine s_get (v := .ref 7) rfl e6_13 rfl rfl ?_
  refine q_iload_n rfl rfl ?_
  refine q_iload_n rfl rfl ?_
  refine s_iadd (k := 13) rfl (by decide) ?_
  refine q_iload_n rfl rfl ?_
  refine q_bipush rfl ?_
  refine q_bipush rfl ?_
  refine q_iload_n rfl rfl ?_
  refine s_imul (k := 8) rfl (by decide) ?_
  refine s_isub (k := 16) rfl (by decide) ?_
  refine s_iushr (k := (((xs 4).toUInt32 >>> ((16 : Int32).toUInt32 &&& Int32.toUInt32 31)).toInt32)) rfl rfl ?_
  refine s_i2b (k := ((((xs 4).toUInt32 >>> ((16 : Int32).toUInt32 &&& Int32.toUInt32 31)).toInt32).toInt8.toInt32)) rfl rfl ?_
  refine s_bastore (j := 13) rfl o13 (by decide) rfl (fun h14 o14 f14 => ?_)
  have s14 := s13.put f14
  refine s_iinc (y := 2) (lv' := [(3, .int 2), (0, .ref 6), (1, .int 12), (2, .int (xs 4))]) rfl rfl (by decide) (by decide) rfl ?_
  refine q_goto rfl ?_
  refine q_iload_n rfl rfl ?_
  refine q_iconst rfl ?_
  refine q_icmp_ge rfl (fun c => absurd c (by decide)) (fun _ => ?_)
  refine q_aload_n rfl rfl ?_
  have e6_14 := (e6_13.ne f14 rfl)
  refine s_get (v := .ref 7) rfl e6_14 rfl rfl ?_
  refine q_iload_n rfl rfl ?_
  refine q_iload_n rfl rfl ?_
  refine s_iadd (k := 14) rfl (by decide) ?_
  refine q_iload_n rfl rfl ?_
  refine q_bipush rfl ?_
  refine q_bipush rfl ?_
  refine q_iload_n rfl rfl ?_
  refine s_imul (k := 16) rfl (by decide) ?_
  refine s_isub (k := 8) rfl (by decide) ?_
  refine s_iushr (k := (((xs 4).toUInt32 >>> ((8 : Int32).toUInt32 &&& Int32.toUInt32 31)).toInt32)) rfl rfl ?_
  refine s_i2b (k := ((((xs 4).toUInt32 >>> ((8 : Int32).toUInt32 &&& Int32.toUInt32 31)).toInt32).toInt8.toInt32)) rfl rfl ?_
  refine s_bastore (j := 14) rfl o14 (by decide) rfl (fun h15 o15 f15 => ?_)
  have s15 := s14.put f15
  refine s_iinc (y := 3) (lv' := [(3, .int 3), (0, .ref 6), (1, .int 12), (2, .int (xs 4))]) rfl rfl (by decide) (by decide) rfl ?_
  refine q_goto rfl ?_
  refine q_iload_n rfl rfl ?_
  refine q_iconst rfl ?_
  refine q_icmp_ge rfl (fun c => absurd c (by decide)) (fun _ => ?_)
  refine q_aload_n rfl rfl ?_
  have e6_15 := (e6_14.ne f15 rfl)
  refine s_get (v := .ref 7) rfl e6_15 rfl rfl ?_
  refine q_iload_n rfl rfl ?_
  refine q_iload_n rfl rfl ?_
  refine s_iadd (k := 15) rfl (by decide) ?_
  refine q_iload_n rfl rfl ?_
  refine q_bipush rfl ?_
  refine q_bipush rfl ?_
  refine q_iload_n rfl rfl ?_
  refine s_imul (k := 24) rfl (by decide) ?_
  refine s_isub (k := 0) rfl (by decide) ?_
  refine s_iushr (k := (((xs 4).toUInt32 >>> ((0 : Int32).toUInt32 &&& Int32.toUInt32 31)).toInt32)) rfl rfl ?_
  refine s_i2b (k := ((((xs 4).toUInt32 >>> ((0 : Int32).toUInt32 &&& Int32.toUInt32 31)).toInt32).toInt8.toInt32)) rfl rfl ?_
  refine s_bastore (j := 15) rfl o15 (by decide) rfl (fun h16 o16 f16 => ?_)
  have s16 := s15.put f16
  refine s_iinc (y := 4) (lv' := [(3, .int 4), (0, .ref 6), (1, .int 12), (2, .int (xs 4))]) rfl rfl (by decide) (by decide) rfl ?_
  refine q_goto rfl ?_
  refine q_iload_n rfl rfl ?_
  refine q_iconst rfl ?_
  refine q_icmp_ge rfl (fun _ => ?_) (fun c => absurd (by decide) c)
  refine q_return rfl rfl ?_
  show aW aiP 13 16 633 27 [(0, .ref 6), (1, .int (xs 1)), (2, .int (xs 2)), (3, .int (xs 3)), (4, .int (xs 4)), (5, .int (xs 5))] [] h16 _
  refine q_aload_n rfl rfl ?_
  refine q_bipush rfl ?_
  refine q_iload rfl rfl ?_
  have e6_16 := (e6_15.ne f16 rfl)
  refine s_callV (as := [.int 16, .int (xs 5)]) (rest := []) (d' := 15) (w' := 610) (lv' := [(0, .ref 6), (1, .int 16), (2, .int (xs 5))]) rfl e6_16 rfl rfl rfl rfl rfl rfl ?_
  refine q_iconst rfl ?_
  refine s_istore_n (lv' := [(3, .int 0), (0, .ref 6), (1, .int 16), (2, .int (xs 5))]) rfl (by decide) rfl ?_
  refine q_iload_n rfl rfl ?_
  refine q_iconst rfl ?_
  refine q_icmp_ge rfl (fun c => absurd c (by decide)) (fun _ => ?_)
  refine q_aload_n rfl rfl ?_
  refine s_get (v := .ref 7) rfl e6_16 rfl rfl ?_
  refine q_iload_n rfl rfl ?_
  refine q_iload_n rfl rfl ?_
  refine s_iadd (k := 16) rfl (by decide) ?_
  refine q_iload_n rfl rfl ?_
  refine q_bipush rfl ?_
  refine q_bipush rfl ?_
  refine q_iload_n rfl rfl ?_
  refine s_imul (k := 0) rfl (by decide) ?_
  refine s_isub (k := 24) rfl (by decide) ?_
  refine s_iushr (k := (((xs 5).toUInt32 >>> ((24 : Int32).toUInt32 &&& Int32.toUInt32 31)).toInt32)) rfl rfl ?_
  refine s_i2b (k := ((((xs 5).toUInt32 >>> ((24 : Int32).toUInt32 &&& Int32.toUInt32 31)).toInt32).toInt8.toInt32)) rfl rfl ?_
  refine s_bastore (j := 16) rfl o16 (by decide) rfl (fun h17 o17 f17 => ?_)
  have s17 := s16.put f17
  refine s_iinc (y := 1) (lv' := [(3, .int 1), (0, .ref 6), (1, .int 16), (2, .int (xs 5))]) rfl rfl (by decide) (by decide) rfl ?_
  refine q_goto rfl ?_
  refine q_iload_n rfl rfl ?_
  refine q_iconst rfl ?_
  refine q_icmp_ge rfl (fun c => absurd c (by decide)) (fun _ => ?_)
  refine q_aload_n rfl rfl ?_
  have e6_17 := (e6_16.ne f17 rfl)
  refine s_get (v := .ref 7) rfl e6_17 rfl rfl ?_
  refine q_iload_n rfl rfl ?_
  refine q_iload_n rfl rfl ?_
  refine s_iadd (k := 17) rfl (by decide) ?_
  refine q_iload_n rfl rfl ?_
  refine q_bipush rfl ?_
  refine q_bipush rfl ?_
  refine q_iload_n rfl rfl ?_
  refine s_imul (k := 8) rfl (by decide) ?_
  refine s_isub (k := 16) rfl (by decide) ?_
  refine s_iushr (k := (((xs 5).toUInt32 >>> ((16 : Int32).toUInt32 &&& Int32.toUInt32 31)).toInt32)) rfl rfl ?_
  refine s_i2b (k := ((((xs 5).toUInt32 >>> ((16 : Int32).toUInt32 &&& Int32.toUInt32 31)).toInt32).toInt8.toInt32)) rfl rfl ?_
  refine s_bastore (j := 17) rfl o17 (by decide) rfl (fun h18 o18 f18 => ?_)
  have s18 := s17.put f18
  refine s_iinc (y := 2) (lv' := [(3, .int 2), (0, .ref 6), (1, .int 16), (2, .int (xs 5))]) rfl rfl (by decide) (by decide) rfl ?_
  refine q_goto rfl ?_
  refine q_iload_n rfl rfl ?_
  refine q_iconst rfl ?_
  refine q_icmp_ge rfl (fun c => absurd c (by decide)) (fun _ => ?_)
  refine q_aload_n rfl rfl ?_
  have e6_18 := (e6_17.ne f18 rfl)
  refine s_get (v := .ref 7) rfl e6_18 rfl rfl ?_
  refine q_iload_n rfl rfl ?_
  refine q_iload_n rfl rfl ?_
  refine s_iadd (k := 18) rfl (by decide) ?_
  refine q_iload_n rfl rfl ?_
  refine q_bipush rfl ?_
  refine q_bipush rfl ?_
  refine q_iload_n rfl rfl ?_
  refine s_imul (k := 16) rfl (by decide) ?_
  refine s_isub (k := 8) rfl (by decide) ?_
  refine s_iushr (k := (((xs 5).toUInt32 >>> ((8 : Int32).toUInt32 &&& Int32.toUInt32 31)).toInt32)) rfl rfl ?_
  refine s_i2b (k := ((((xs 5).toUInt32 >>> ((8 : Int32).toUInt32 &&& Int32.toUInt32 31)).toInt32).toInt8.toInt32)) rfl rfl ?_
  refine s_bastore (j := 18) rfl o18 (by decide) rfl (fun h19 o19 f19 => ?_)
  have s19 := s18.put f19
  refine s_iinc (y := 3) (lv' := [(3, .int 3), (0, .ref 6), (1, .int 16), (2, .int (xs 5))]) rfl rfl (by decide) (by decide) rfl ?_
  refine q_goto rfl ?_
  refine q_iload_n rfl rfl ?_
  refine q_iconst rfl ?_
  refine q_icmp_ge rfl (fun c => absurd c (by decide)) (fun _ => ?_)
  refine q_aload_n rfl rfl ?_
  have e6_19 := (e6_18.ne f19 rfl)
  refine s_get (v := .ref 7) rfl e6_19 rfl rfl ?_
  refine q_iload_n rfl rfl ?_
  refine q_iload_n rfl rfl ?_
  refine s_iadd (k := 19) rfl (by decide) ?_
  refine q_iload_n rfl rfl ?_
  refine q_bipush rfl ?_
  refine q_bipush rfl ?_
  refine q_iload_n rfl rfl ?_
  refine s_imul (k := 24) rfl (by decide) ?_
  refine s_isub (k := 0) rfl (by decide) ?_
  refine s_iushr (k := (((xs 5).toUInt32 >>> ((0 : Int32).toUInt32 &&& Int32.toUInt32 31)).toInt32)) rfl rfl ?_
  refine s_i2b (k := ((((xs 5).toUInt32 >>> ((0 : Int32).toUInt32 &&& Int32.toUInt32 31)).toInt32).toInt8.toInt32)) rfl rfl ?_
  refine s_bastore (j := 19) rfl o19 (by decide) rfl (fun h20 o20 f20 => ?_)
  have s20 := s19.put f20
  refine s_iinc (y := 4) (lv' := [(3, .int 4), (0, .ref 6), (1, .int 16), (2, .int (xs 5))]) rfl rfl (by decide) (by decide) rfl ?_
  refine q_goto rfl ?_
  refine q_iload_n rfl rfl ?_
  refine q_iconst rfl ?_
  refine q_icmp_ge rfl (fun _ => ?_) (fun c => absurd (by decide) c)
  refine q_return rfl rfl ?_
  show aW aiP 13 16 633 35 [(0, .ref 6), (1, .int (xs 1)), (2, .int (xs 2)), (3, .int (xs 3)), (4, .int (xs 4)), (5, .int (xs 5))] [] h20 _
  refine q_return rfl rfl ?_
  show aW aiP 0 17 658 186 [(4, .int 0), (3, .ref 233), (2, .ref 191), (1, .ref 6), (0, .ref 0)] [] h20 _
  refine q_aload_n rfl rfl ?_
  refine q_aload_n rfl rfl ?_
  refine q_iload rfl rfl ?_
  refine q_iconst rfl ?_
  refine s_iadd (k := 1) rfl (by decide) ?_
  have e0_20 := (f20.ne rfl (f19.ne rfl (f18.ne rfl (f17.ne rfl (f16.ne rfl (f15.ne rfl (f14.ne rfl (f13.ne rfl (f12.ne rfl (f11.ne rfl (f10.ne rfl (f9.ne rfl (f8.ne rfl (f7.ne rfl (f6.ne rfl (f5.ne rfl (f4.ne rfl (f3.ne rfl (f2.ne rfl (f1.ne rfl e0))))))))))))))))))))
  refine s_iaload (j := 1) (v := .int (xs 1)) rfl e0_20 (by decide) rfl (by first | rfl | decide) ?_
  refine q_aload_n rfl rfl ?_
  refine q_iload rfl rfl ?_
  refine q_iconst rfl ?_
  refine s_iadd (k := 2) rfl (by decide) ?_
  refine s_iaload (j := 2) (v := .int (xs 2)) rfl e0_20 (by decide) rfl (by first | rfl | decide) ?_
  refine q_aload_n rfl rfl ?_
  refine q_iload rfl rfl ?_
  refine q_iconst rfl ?_
  refine s_iadd (k := 3) rfl (by decide) ?_
  refine s_iaload (j := 3) (v := .int (xs 3)) rfl e0_20 (by decide) rfl (by first | rfl | decide) ?_
  refine q_aload_n rfl rfl ?_
  refine q_iload rfl rfl ?_
  refine q_iconst rfl ?_
  refine s_iadd (k := 4) rfl (by decide) ?_
  refine s_iaload (j := 4) (v := .int (xs 4)) rfl e0_20 (by decide) rfl (by first | rfl | decide) ?_
  refine q_aload_n rfl rfl ?_
  refine q_iload rfl rfl ?_
  refine q_iconst rfl ?_
  refine s_iadd (k := 5) rfl (by decide) ?_
  refine s_iaload (j := 5) (v := .int (xs 5)) rfl e0_20 (by decide) rfl (by first | rfl | decide) ?_
  have e191 := F.2.2.2.2.2.2.2.2.2.2.2.2.2.2.2.2.2.2.2.2.2.2.2.2.2.2.2.1
  have e191_20 := ((((((((((((((((((((e191.ne f1 rfl).ne f2 rfl).ne f3 rfl).ne f4 rfl).ne f5 rfl).ne f6 rfl).ne f7 rfl).ne f8 rfl).ne f9 rfl).ne f10 rfl).ne f11 rfl).ne f12 rfl).ne f13 rfl).ne f14 rfl).ne f15 rfl).ne f16 rfl).ne f17 rfl).ne f18 rfl).ne f19 rfl).ne f20 rfl)
  refine s_callV (as := [.int (xs 1), .int (xs 2), .int (xs 3), .int (xs 4), .int (xs 5)]) (rest := []) (d' := 16) (w' := 631) (lv' := [(0, .ref 191), (1, .int (xs 1)), (2, .int (xs 2)), (3, .int (xs 3)), (4, .int (xs 4)), (5, .int (xs 5))]) rfl e191_20 rfl rfl rfl rfl rfl rfl ?_
  refine q_aload_n rfl rfl ?_
  refine q_iconst rfl ?_
  refine s_put (vs' := [.int 0, .ref 192, .ref 193, .int 0, .ref 194, .ref 195, .ref 196, .ref 197, .ref 198, .ref 199, .ref 200, .ref 201, .ref 202, .ref 203, .ref 204, .ref 205, .int (-1), .int 0, .ref 206, .ref 207, .ref 208, .ref 209, .ref 210, .ref 211, .ref 212, .ref 213, .ref 214, .ref 215, .int 0, .int 0, .int 0, .int 0, .ref 216, .ref 217, .ref 218, .ref 219, .ref 220, .int (-1), .int 0, .int 0, .int 0, .int 0, .int 0, .int 0, .ref 221, .ref 222, .ref 223, .ref 224, .int 0, .ref 225, .int 0, .ref 226, .ref 227, .int 0, .ref 228, .ref 229, .ref 230, .ref 231, .ref 232]) rfl e191_20 rfl rfl rfl rfl (fun h21 o21 f21 => ?_)
  have s21 := s20.put f21
  refine q_iconst rfl ?_
  refine s_istore (lv' := [(6, .int 0), (0, .ref 191), (1, .int (xs 1)), (2, .int (xs 2)), (3, .int (xs 3)), (4, .int (xs 4)), (5, .int (xs 5))]) rfl (by decide) rfl ?_
  refine q_iload rfl rfl ?_
  refine q_bipush rfl ?_
  refine q_icmp_ge rfl (fun c => absurd c (by decide)) (fun _ => ?_)
  refine q_iload rfl rfl ?_
  refine q_iconst rfl ?_
  refine q_icmp_ge rfl (fun c => absurd c (by decide)) (fun _ => ?_)
  refine q_iload_n rfl rfl ?_
  refine q_goto rfl ?_
  refine s_istore (lv' := [(7, .int (xs 1)), (6, .int 0), (0, .ref 191), (1, .int (xs 1)), (2, .int (xs 2)), (3, .int (xs 3)), (4, .int (xs 4)), (5, .int (xs 5))]) rfl (by decide) rfl ?_
  refine q_aload_n rfl rfl ?_
  refine s_get (v := .ref 192) rfl o21 rfl rfl ?_
  refine q_iload rfl rfl ?_
  refine q_iload rfl rfl ?_
  refine q_bipush rfl ?_
  refine q_bipush rfl ?_
  refine q_iload rfl rfl ?_
  refine q_iconst rfl ?_
  refine s_iand (k := 0) rfl (by decide) ?_
  refine s_imul (k := 0) rfl (by decide) ?_
  refine s_isub (k := 24) rfl (by decide) ?_
  refine s_ishr (k := ((xs 1) >>> ((24 : Int32) &&& 31))) rfl rfl ?_
  refine q_sipush rfl ?_
  refine s_iand (k := (((xs 1) >>> ((24 : Int32) &&& 31)) &&& (255 : Int32))) rfl rfl ?_
  have e192 := F.2.2.2.2.2.2.2.2.2.2.2.2.2.2.2.2.2.2.2.2.2.2.2.2.2.2.2.2.1
  have e192_21 := (f21.ne rfl (f20.ne rfl (f19.ne rfl (f18.ne rfl (f17.ne rfl (f16.ne rfl (f15.ne rfl (f14.ne rfl (f13.ne rfl (f12.ne rfl (f11.ne rfl (f10.ne rfl (f9.ne rfl (f8.ne rfl (f7.ne rfl (f6.ne rfl (f5.ne rfl (f4.ne rfl (f3.ne rfl (f2.ne rfl (f1.ne rfl e192)))))))))))))))))))))
  refine s_iastore (j := 0) rfl e192_21 (by decide) rfl (fun h22 o22 f22 => ?_)
  have s22 := s21.put f22
  refine s_iinc (y := 1) (lv' := [(6, .int 1), (7, .int (xs 1)), (0, .ref 191), (1, .int (xs 1)), (2, .int (xs 2)), (3, .int (xs 3)), (4, .int (xs 4)), (5, .int (xs 5))]) rfl rfl (by decide) (by decide) rfl ?_
  refine q_goto rfl ?_
  refine q_iload rfl rfl ?_
  refine q_bipush rfl ?_
  refine q_icmp_ge rfl (fun c => absurd c (by decide)) (fun _ => ?_)
  refine q_iload rfl rfl ?_
  refine q_iconst rfl ?_
  refine q_icmp_ge rfl (fun c => absurd c (by decide)) (fun _ => ?_)
  refine q_iload_n rfl rfl ?_
  refine q_goto rfl ?_
  refine s_istore (lv' := [(7, .int (xs 1)), (6, .int 1), (0, .ref 191), (1, .int (xs 1)), (2, .int (xs 2)), (3, .int (xs 3)), (4, .int (xs 4)), (5, .int (xs 5))]) rfl (by decide) rfl ?_
  refine q_aload_n rfl rfl ?_
  have e191_22 := (o21.ne f22 rfl)
  refine s_get (v := .ref 192) rfl e191_22 rfl rfl ?_
  refine q_iload rfl rfl ?_
  refine q_iload rfl rfl ?_
  refine q_bipush rfl ?_
  refine q_bipush rfl ?_
  refine q_iload rfl rfl ?_
  refine q_iconst rfl ?_
  refine s_iand (k := 1) rfl (by decide) ?_
  refine s_imul (k := 8) rfl (by decide) ?_
  refine s_isub (k := 16) rfl (by decide) ?_
  refine s_ishr (k := ((xs 1) >>> ((16 : Int32) &&& 31))) rfl rfl ?_
  refine q_sipush rfl ?_
  refine s_iand (k := (((xs 1) >>> ((16 : Int32) &&& 31)) &&& (255 : Int32))) rfl rfl ?_
  refine s_iastore (j := 1) rfl o22 (by decide) rfl (fun h23 o23 f23 => ?_)
  have s23 := s22.put f23
  refine s_iinc (y := 2) (lv' := [(6, .int 2), (7, .int (xs 1)), (0, .ref 191), (1, .int (xs 1)), (2, .int (xs 2)), (3, .int (xs 3)), (4, .int (xs 4)), (5, .int (xs 5))]) rfl rfl (by decide) (by decide) rfl ?_
  refine q_goto rfl ?_
  refine q_iload rfl rfl ?_
  refine q_bipush rfl ?_
  refine q_icmp_ge rfl (fun c => absurd c (by decide)) (fun _ => ?_)
  refine q_iload rfl rfl ?_
  refine q_iconst rfl ?_
  refine q_icmp_ge rfl (fun c => absurd c (by decide)) (fun _ => ?_)
  refine q_iload_n rfl rfl ?_
  refine q_goto rfl ?_
  refine s_istore (lv' := [(7, .int (xs 1)), (6, .int 2), (0, .ref 191), (1, .int (xs 1)), (2, .int (xs 2)), (3, .int (xs 3)), (4, .int (xs 4)), (5, .int (xs 5))]) rfl (by decide) rfl ?_
  refine q_aload_n rfl rfl ?_
  have e191_23 := (e191_22.ne f23 rfl)
  refine s_get (v := .ref 192) rfl e191_23 rfl rfl ?_
  refine q_iload rfl rfl ?_
  refine q_iload rfl rfl ?_
  refine q_bipush rfl ?_
  refine q_bipush rfl ?_
  refine q_iload rfl rfl ?_
  refine q_iconst rfl ?_
  refine s_iand (k := 2) rfl (by decide) ?_
  refine s_imul (k := 16) rfl (by decide) ?_
  refine s_isub (k := 8) rfl (by decide) ?_
  refine s_ishr (k := ((xs 1) >>> ((8 : Int32) &&& 31))) rfl rfl ?_
  refine q_sipush rfl ?_
  refine s_iand (k := (((xs 1) >>> ((8 : Int32) &&& 31)) &&& (255 : Int32))) rfl rfl ?_
  refine s_iastore (j := 2) rfl o23 (by decide) rfl (fun h24 o24 f24 => ?_)
  have s24 := s23.put f24
  refine s_iinc (y := 3) (lv' := [(6, .int 3), (7, .int (xs 1)), (0, .ref 191), (1, .int (xs 1)), (2, .int (xs 2)), (3, .int (xs 3)), (4, .int (xs 4)), (5, .int (xs 5))]) rfl rfl (by decide) (by decide) rfl ?_
  refine q_goto rfl ?_
  refine q_iload rfl rfl ?_
  refine q_bipush rfl ?_
  refine q_icmp_ge rfl (fun c => absurd c (by decide)) (fun _ => ?_)
  refine q_iload rfl rfl ?_
  refine q_iconst rfl ?_
  refine q_icmp_ge rfl (fun c => absurd c (by decide)) (fun _ => ?_)
  refine q_iload_n rfl rfl ?_
  refine q_goto rfl ?_
  refine s_istore (lv' := [(7, .int (xs 1)), (6, .int 3), (0, .ref 191), (1, .int (xs 1)), (2, .int (xs 2)), (3, .int (xs 3)), (4, .int (xs 4)), (5, .int (xs 5))]) rfl (by decide) rfl ?_
  refine q_aload_n rfl rfl ?_
  have e191_24 := (e191_23.ne f24 rfl)
  refine s_get (v := .ref 192) rfl e191_24 rfl rfl ?_
  refine q_iload rfl rfl ?_
  refine q_iload rfl rfl ?_
  refine q_bipush rfl ?_
  refine q_bipush rfl ?_
  refine q_iload rfl rfl ?_
  refine q_iconst rfl ?_
  refine s_iand (k := 3) rfl (by decide) ?_
  refine s_imul (k := 24) rfl (by decide) ?_
  refine s_isub (k := 0) rfl (by decide) ?_
  refine s_ishr (k := ((xs 1) >>> ((0 : Int32) &&& 31))) rfl rfl ?_
  refine q_sipush rfl ?_
  refine s_iand (k := (((xs 1) >>> ((0 : Int32) &&& 31)) &&& (255 : Int32))) rfl rfl ?_
  refine s_iastore (j := 3) rfl o24 (by decide) rfl (fun h25 o25 f25 => ?_)
  have s25 := s24.put f25
  refine s_iinc (y := 4) (lv' := [(6, .int 4), (7, .int (xs 1)), (0, .ref 191), (1, .int (xs 1)), (2, .int (xs 2)), (3, .int (xs 3)), (4, .int (xs 4)), (5, .int (xs 5))]) rfl rfl (by decide) (by decide) rfl ?_
  refine q_goto rfl ?_
  refine q_iload rfl rfl ?_
  refine q_bipush rfl ?_
  refine q_icmp_ge rfl (fun c => absurd c (by decide)) (fun _ => ?_)
  refine q_iload rfl rfl ?_
  refine q_iconst rfl ?_
  refine q_icmp_ge rfl (fun _ => ?_) (fun c => absurd (by decide) c)
  refine q_iload rfl rfl ?_
  refine q_bipush rfl ?_
  refine q_icmp_ge rfl (fun c => absurd c (by decide)) (fun _ => ?_)
  refine q_iload_n rfl rfl ?_
  refine q_goto rfl ?_
  refine s_istore (lv' := [(7, .int (xs 2)), (6, .int 4), (0, .ref 191), (1, .int (xs 1)), (2, .int (xs 2)), (3, .int (xs 3)), (4, .int (xs 4)), (5, .int (xs 5))]) rfl (by decide) rfl ?_
  refine q_aload_n rfl rfl ?_
  have e191_25 := (e191_24.ne f25 rfl)
  refine s_get (v := .ref 192) rfl e191_25 rfl rfl ?_
  refine q_iload rfl rfl ?_
  refine q_iload rfl rfl ?_
  refine q_bipush rfl ?_
  refine q_bipush rfl ?_
  refine q_iload rfl rfl ?_
  refine q_iconst rfl ?_
  refine s_iand (k := 0) rfl (by decide) ?_
  refine s_imul (k := 0) rfl (by decide) ?_
  refine s_isub (k := 24) rfl (by decide) ?_
  refine s_ishr (k := ((xs 2) >>> ((24 : Int32) &&& 31))) rfl rfl ?_
  refine q_sipush rfl ?_
  refine s_iand (k := (((xs 2) >>> ((24 : Int32) &&& 31)) &&& (255 : Int32))) rfl rfl ?_
  refine s_iastore (j := 4) rfl o25 (by decide) rfl (fun h26 o26 f26 => ?_)
  have s26 := s25.put f26
  refine s_iinc (y := 5) (lv' := [(6, .int 5), (7, .int (xs 2)), (0, .ref 191), (1, .int (xs 1)), (2, .int (xs 2)), (3, .int (xs 3)), (4, .int (xs 4)), (5, .int (xs 5))]) rfl rfl (by decide) (by decide) rfl ?_
  refine q_goto rfl ?_
  refine q_iload rfl rfl ?_
  refine q_bipush rfl ?_
  refine q_icmp_ge rfl (fun c => absurd c (by decide)) (fun _ => ?_)
  refine q_iload rfl rfl ?_
  refine q_iconst rfl ?_
  refine q_icmp_ge rfl (fun _ => ?_) (fun c => absurd (by decide) c)
  refine q_iload rfl rfl ?_
  refine q_bipush rfl ?_
  refine q_icmp_ge rfl (fun c => absurd c (by decide)) (fun _ => ?_)
  refine q_iload_n rfl rfl ?_
  refine q_goto rfl ?_
  refine s_istore (lv' := [(7, .int (xs 2)), (6, .int 5), (0, .ref 191), (1, .int (xs 1)), (2, .int (xs 2)), (3, .int (xs 3)), (4, .int (xs 4)), (5, .int (xs 5))]) rfl (by decide) rfl ?_
  refine q_aload_n rfl rfl ?_
  have e191_26 := (e191_25.ne f26 rfl)
  refine s_get (v := .ref 192) rfl e191_26 rfl rfl ?_
  refine q_iload rfl rfl ?_
  refine q_iload rfl rfl ?_
  refine q_bipush rfl ?_
  refine q_bipush rfl ?_
  refine q_iload rfl rfl ?_
  refine q_iconst rfl ?_
  refine s_iand (k := 1) rfl (by decide) ?_
  refine s_imul (k := 8) rfl (by decide) ?_
  refine s_isub (k := 16) rfl (by decide) ?_
  refine s_ishr (k := ((xs 2) >>> ((16 : Int32) &&& 31))) rfl rfl ?_
  refine q_sipush rfl ?_
  refine s_iand (k := (((xs 2) >>> ((16 : Int32) &&& 31)) &&& (255 : Int32))) rfl rfl ?_
  refine s_iastore (j := 5) rfl o26 (by decide) rfl (fun h27 o27 f27 => ?_)
  have s27 := s26.put f27
  refine s_iinc (y := 6) (lv' := [(6, .int 6), (7, .int (xs 2)), (0, .ref 191), (1, .int (xs 1)), (2, .int (xs 2)), (3, .int (xs 3)), (4, .int (xs 4)), (5, .int (xs 5))]) rfl rfl (by decide) (by decide) rfl ?_
  refine q_goto rfl ?_
  refine q_iload rfl rfl ?_
  refine q_bipush rfl ?_
  refine q_icmp_ge rfl (fun c => absurd c (by decide)) (fun _ => ?_)
  refine q_iload rfl rfl ?_
  refine q_iconst rfl ?_
  refine q_icmp_ge rfl (fun _ => ?_) (fun c => absurd (by decide) c)
  refine q_iload rfl rfl ?_
  refine q_bipush rfl ?_
  refine q_icmp_ge rfl (fun c => absurd c (by decide)) (fun _ => ?_)
  refine q_iload_n rfl rfl ?_
  refine q_goto rfl ?_
  refine s_istore (lv' := [(7, .int (xs 2)), (6, .int 6), (0, .ref 191), (1, .int (xs 1)), (2, .int (xs 2)), (3, .int (xs 3)), (4, .int (xs 4)), (5, .int (xs 5))]) rfl (by decide) rfl ?_
  refine q_aload_n rfl rfl ?_
  have e191_27 := (e191_26.ne f27 rfl)
  refine s_get (v := .ref 192) rfl e191_27 rfl rfl ?_
  refine q_iload rfl rfl ?_
  refine q_iload rfl rfl ?_
  refine q_bipush rfl ?_
  refine q_bipush rfl ?_
  refine q_iload rfl rfl ?_
  refine q_iconst rfl ?_
  refine s_iand (k := 2) rfl (by decide) ?_
  refine s_imul (k := 16) rfl (by decide) ?_
  refine s_isub (k := 8) rfl (by decide) ?_
  refine s_ishr (k := ((xs 2) >>> ((8 : Int32) &&& 31))) rfl rfl ?_
  refine q_sipush rfl ?_
  refine s_iand (k := (((xs 2) >>> ((8 : Int32) &&& 31)) &&& (255 : Int32))) rfl rfl ?_
  refine s_iastore (j := 6) rfl o27 (by decide) rfl (fun h28 o28 f28 => ?_)
  have s28 := s27.put f28
  refine s_iinc (y := 7) (lv' := [(6, .int 7), (7, .int (xs 2)), (0, .ref 191), (1, .int (xs 1)), (2, .int (xs 2)), (3, .int (xs 3)), (4, .int (xs 4)), (5, .int (xs 5))]) rfl rfl (by decide) (by decide) rfl ?_
  refine q_goto rfl ?_
  refine q_iload rfl rfl ?_
  refine q_bipush rfl ?_
  refine q_icmp_ge rfl (fun c => absurd c (by decide)) (fun _ => ?_)
  refine q_iload rfl rfl ?_
  refine q_iconst rfl ?_
  refine q_icmp_ge rfl (fun _ => ?_) (fun c => absurd (by decide) c)
  refine q_iload rfl rfl ?_
  refine q_bipush rfl ?_
  refine q_icmp_ge rfl (fun c => absurd c (by decide)) (fun _ => ?_)
  refine q_iload_n rfl rfl ?_
  refine q_goto rfl ?_
  refine s_istore (lv' := [(7, .int (xs 2)), (6, .int 7), (0, .ref 191), (1, .int (xs 1)), (2, .int (xs 2)), (3, .int (xs 3)), (4, .int (xs 4)), (5, .int (xs 5))]) rfl (by decide) rfl ?_
  refine q_aload_n rfl rfl ?_
  have e191_28 := (e191_27.ne f28 rfl)
  refine s_get (v := .ref 192) rfl e191_28 rfl rfl ?_
  refine q_iload rfl rfl ?_
  refine q_iload rfl rfl ?_
  refine q_bipush rfl ?_
  refine q_bipush rfl ?_
  refine q_iload rfl rfl ?_
  refine q_iconst rfl ?_
  refine s_iand (k := 3) rfl (by decide) ?_
  refine s_imul (k := 24) rfl (by decide) ?_
  refine s_isub (k := 0) rfl (by decide) ?_
  refine s_ishr (k := ((xs 2) >>> ((0 : Int32) &&& 31))) rfl rfl ?_
  refine q_sipush rfl ?_
  refine s_iand (k := (((xs 2) >>> ((0 : Int32) &&& 31)) &&& (255 : Int32))) rfl rfl ?_
  refine s_iastore (j := 7) rfl o28 (by decide) rfl (fun h29 o29 f29 => ?_)
  have s29 := s28.put f29
  refine s_iinc (y := 8) (lv' := [(6, .int 8), (7, .int (xs 2)), (0, .ref 191), (1, .int (xs 1)), (2, .int (xs 2)), (3, .int (xs 3)), (4, .int (xs 4)), (5, .int (xs 5))]) rfl rfl (by decide) (by decide) rfl ?_
  refine q_goto rfl ?_
  refine q_iload rfl rfl ?_
  refine q_bipush rfl ?_
  refine q_icmp_ge rfl (fun c => absurd c (by decide)) (fun _ => ?_)
  refine q_iload rfl rfl ?_
  refine q_iconst rfl ?_
  refine q_icmp_ge rfl (fun _ => ?_) (fun c => absurd (by decide) c)
  refine q_iload rfl rfl ?_
  refine q_bipush rfl ?_
  refine q_icmp_ge rfl (fun _ => ?_) (fun c => absurd (by decide) c)
  refine q_iload rfl rfl ?_
  refine q_bipush rfl ?_
  refine q_icmp_ge rfl (fun c => absurd c (by decide)) (fun _ => ?_)
  refine q_iload_n rfl rfl ?_
  refine q_goto rfl ?_
  refine s_istore (lv' := [(7, .int (xs 3)), (6, .int 8), (0, .ref 191), (1, .int (xs 1)), (2, .int (xs 2)), (3, .int (xs 3)), (4, .int (xs 4)), (5, .int (xs 5))]) rfl (by decide) rfl ?_
  refine q_aload_n rfl rfl ?_
  have e191_29 := (e191_28.ne f29 rfl)
  refine s_get (v := .ref 192) rfl e191_29 rfl rfl ?_
  refine q_iload rfl rfl ?_
  refine q_iload rfl rfl ?_
  refine q_bipush rfl ?_
  refine q_bipush rfl ?_
  refine q_iload rfl rfl ?_
  refine q_iconst rfl ?_
  refine s_iand (k := 0) rfl (by decide) ?_
  refine s_imul (k := 0) rfl (by decide) ?_
  refine s_isub (k := 24) rfl (by decide) ?_
  refine s_ishr (k := ((xs 3) >>> ((24 : Int32) &&& 31))) rfl rfl ?_
  refine q_sipush rfl ?_
  refine s_iand (k := (((xs 3) >>> ((24 : Int32) &&& 31)) &&& (255 : Int32))) rfl rfl ?_
  refine s_iastore (j := 8) rfl o29 (by decide) rfl (fun h30 o30 f30 => ?_)
  have s30 := s29.put f30
  refine s_iinc (y := 9) (lv' := [(6, .int 9), (7, .int (xs 3)), (0, .ref 191), (1, .int (xs 1)), (2, .int (xs 2)), (3, .int (xs 3)), (4, .int (xs 4)), (5, .int (xs 5))]) rfl rfl (by decide) (by decide) rfl ?_
  refine q_goto rfl ?_
  refine q_iload rfl rfl ?_
  refine q_bipush rfl ?_
  refine q_icmp_ge rfl (fun c => absurd c (by decide)) (fun _ => ?_)
  refine q_iload rfl rfl ?_
  refine q_iconst rfl ?_
  refine q_icmp_ge rfl (fun _ => ?_) (fun c => absurd (by decide) c)
  refine q_iload rfl rfl ?_
  refine q_bipush rfl ?_
  refine q_icmp_ge rfl (fun _ => ?_) (fun c => absurd (by decide) c)
  refine q_iload rfl rfl ?_
  refine q_bipush rfl ?_
  refine q_icmp_ge rfl (fun c => absurd c (by decide)) (fun _ => ?_)
  refine q_iload_n rfl rfl ?_
  refine q_goto rfl ?_
  refine s_istore (lv' := [(7, .int (xs 3)), (6, .int 9), (0, .ref 191), (1, .int (xs 1)), (2, .int (xs 2)), (3, .int (xs 3)), (4, .int (xs 4)), (5, .int (xs 5))]) rfl (by decide) rfl ?_
  refine q_aload_n rfl rfl ?_
  have e191_30 := (e191_29.ne f30 rfl)
  refine s_get (v := .ref 192) rfl e191_30 rfl rfl ?_
  refine q_iload rfl rfl ?_
  refine q_iload rfl rfl ?_
  refine q_bipush rfl ?_
  refine q_bipush rfl ?_
  refine q_iload rfl rfl ?_
  refine q_iconst rfl ?_
  refine s_iand (k := 1) rfl (by decide) ?_
  refine s_imul (k := 8) rfl (by decide) ?_
  refine s_isub (k := 16) rfl (by decide) ?_
  refine s_ishr (k := ((xs 3) >>> ((16 : Int32) &&& 31))) rfl rfl ?_
  refine q_sipush rfl ?_
  refine s_iand (k := (((xs 3) >>> ((16 : Int32) &&& 31)) &&& (255 : Int32))) rfl rfl ?_
  refine s_iastore (j := 9) rfl o30 (by decide) rfl (fun h31 o31 f31 => ?_)
  have s31 := s30.put f31
  refine s_iinc (y := 10) (lv' := [(6, .int 10), (7, .int (xs 3)), (0, .ref 191), (1, .int (xs 1)), (2, .int (xs 2)), (3, .int (xs 3)), (4, .int (xs 4)), (5, .int (xs 5))]) rfl rfl (by decide) (by decide) rfl ?_
  refine q_goto rfl ?_
  refine q_iload rfl rfl ?_
  refine q_bipush rfl ?_
  refine q_icmp_ge rfl (fun c => absurd c (by decide)) (fun _ => ?_)
  refine q_iload rfl rfl ?_
  refine q_iconst rfl ?_
  refine q_icmp_ge rfl (fun _ => ?_) (fun c => absurd (by decide) c)
  refine q_iload rfl rfl ?_
  refine q_bipush rfl ?_
  refine q_icmp_ge rfl (fun _ => ?_) (fun c => absurd (by decide) c)
  refine q_iload rfl rfl ?_
  refine q_bipush rfl ?_
  refine q_icmp_ge rfl (fun c => absurd c (by decide)) (fun _ => ?_)
  refine q_iload_n rfl rfl ?_
  refine q_goto rfl ?_
  refine s_istore (lv' := [(7, .int (xs 3)), (6, .int 10), (0, .ref 191), (1, .int (xs 1)), (2, .int (xs 2)), (3, .int (xs 3)), (4, .int (xs 4)), (5, .int (xs 5))]) rfl (by decide) rfl ?_
  refine q_aload_n rfl rfl ?_
  have e191_31 := (e191_30.ne f31 rfl)
  refine s_get (v := .ref 192) rfl e191_31 rfl rfl ?_
  refine q_iload rfl rfl ?_
  refine q_iload rfl rfl ?_
  refine q_bipush rfl ?_
  refine q_bipush rfl ?_
  refine q_iload rfl rfl ?_
  refine q_iconst rfl ?_
  refine s_iand (k := 2) rfl (by decide) ?_
  refine s_imul (k := 16) rfl (by decide) ?_
  refine s_isub (k := 8) rfl (by decide) ?_
  refine s_ishr (k := ((xs 3) >>> ((8 : Int32) &&& 31))) rfl rfl ?_
  refine q_sipush rfl ?_
  refine s_iand (k := (((xs 3) >>> ((8 : Int32) &&& 31)) &&& (255 : Int32))) rfl rfl ?_
  refine s_iastore (j := 10) rfl o31 (by decide) rfl (fun h32 o32 f32 => ?_)
  have s32 := s31.put f32
  refine s_iinc (y := 11) (lv' := [(6, .int 11), (7, .int (xs 3)), (0, .ref 191), (1, .int (xs 1)), (2, .int (xs 2)), (3, .int (xs 3)), (4, .int (xs 4)), (5, .int (xs 5))]) rfl rfl (by decide) (by decide) rfl ?_
  refine q_goto rfl ?_
  refine q_iload rfl rfl ?_
  refine q_bipush rfl ?_
  refine q_icmp_ge rfl (fun c => absurd c (by decide)) (fun _ => ?_)
  refine q_iload rfl rfl ?_
  refine q_iconst rfl ?_
  refine q_icmp_ge rfl (fun _ => ?_) (fun c => absurd (by decide) c)
  refine q_iload rfl rfl ?_
  refine q_bipush rfl ?_
  refine q_icmp_ge rfl (fun _ => ?_) (fun c => absurd (by decide) c)
  refine q_iload rfl rfl ?_
  refine q_bipush rfl ?_
  refine q_icmp_ge rfl (fun c => absurd c (by decide)) (fun _ => ?_)
  refine q_iload_n rfl rfl ?_
  refine q_goto rfl ?_
  refine s_istore (lv' := [(7, .int (xs 3)), (6, .int 11), (0, .ref 191), (1, .int (xs 1)), (2, .int (xs 2)), (3, .int (xs 3)), (4, .int (xs 4)), (5, .int (xs 5))]) rfl (by decide) rfl ?_
  refine q_aload_n rfl rfl ?_
  have e191_32 := (e191_31.ne f32 rfl)
  refine s_get (v := .ref 192) rfl e191_32 rfl rfl ?_
  refine q_iload rfl rfl ?_
  refine q_iload rfl rfl ?_
  refine q_bipush rfl ?_
  refine q_bipush rfl ?_
  refine q_iload rfl rfl ?_
  refine q_iconst rfl ?_
  refine s_iand (k := 3) rfl (by decide) ?_
  refine s_imul (k := 24) rfl (by decide) ?_
  refine s_isub (k := 0) rfl (by decide) ?_
  refine s_ishr (k := ((xs 3) >>> ((0 : Int32) &&& 31))) rfl rfl ?_
  refine q_sipush rfl ?_
  refine s_iand (k := (((xs 3) >>> ((0 : Int32) &&& 31)) &&& (255 : Int32))) rfl rfl ?_
  refine s_iastore (j := 11) rfl o32 (by decide) rfl (fun h33 o33 f33 => ?_)
  have s33 := s32.put f33
  refine s_iinc (y := 12) (lv' := [(6, .int 12), (7, .int (xs 3)), (0, .ref 191), (1, .int (xs 1)), (2, .int (xs 2)), (3, .int (xs 3)), (4, .int (xs 4)), (5, .int (xs 5))]) rfl rfl (by decide) (by decide) rfl ?_
  refine q_goto rfl ?_
  refine q_iload rfl rfl ?_
  refine q_bipush rfl ?_
  refine q_icmp_ge rfl (fun c => absurd c (by decide)) (fun _ => ?_)
  refine q_iload rfl rfl ?_
  refine q_iconst rfl ?_
  refine q_icmp_ge rfl (fun _ => ?_) (fun c => absurd (by decide) c)
  refine q_iload rfl rfl ?_
  refine q_bipush rfl ?_
  refine q_icmp_ge rfl (fun _ => ?_) (fun c => absurd (by decide) c)
  refine q_iload rfl rfl ?_
  refine q_bipush rfl ?_
  refine q_icmp_ge rfl (fun _ => ?_) (fun c => absurd (by decide) c)
  refine q_iload rfl rfl ?_
  refine q_bipush rfl ?_
  refine q_icmp_ge rfl (fun c => absurd c (by decide)) (fun _ => ?_)
  refine q_iload rfl rfl ?_
  refine q_goto rfl ?_
  refine s_istore (lv' := [(7, .int (xs 4)), (6, .int 12), (0, .ref 191), (1, .int (xs 1)), (2, .int (xs 2)), (3, .int (xs 3)), (4, .int (xs 4)), (5, .int (xs 5))]) rfl (by decide) rfl ?_
  refine q_aload_n rfl rfl ?_
  have e191_33 := (e191_32.ne f33 rfl)
  refine s_get (v := .ref 192) rfl e191_33 rfl rfl ?_
  refine q_iload rfl rfl ?_
  refine q_iload rfl rfl ?_
  refine q_bipush rfl ?_
  refine q_bipush rfl ?_
  refine q_iload rfl rfl ?_
  refine q_iconst rfl ?_
  refine s_iand (k := 0) rfl (by decide) ?_
  refine s_imul (k := 0) rfl (by decide) ?_
  refine s_isub (k := 24) rfl (by decide) ?_
  refine s_ishr (k := ((xs 4) >>> ((24 : Int32) &&& 31))) rfl rfl ?_
  refine q_sipush rfl ?_
  refine s_iand (k := (((xs 4) >>> ((24 : Int32) &&& 31)) &&& (255 : Int32))) rfl rfl ?_
  refine s_iastore (j := 12) rfl o33 (by decide) rfl (fun h34 o34 f34 => ?_)
  have s34 := s33.put f34
  refine s_iinc (y := 13) (lv' := [(6, .int 13), (7, .int (xs 4)), (0, .ref 191), (1, .int (xs 1)), (2, .int (xs 2)), (3, .int (xs 3)), (4, .int (xs 4)), (5, .int (xs 5))]) rfl rfl (by decide) (by decide) rfl ?_
  refine q_goto rfl ?_
  refine q_iload rfl rfl ?_
  refine q_bipush rfl ?_
  refine q_icmp_ge rfl (fun c => absurd c (by decide)) (fun _ => ?_)
  refine q_iload rfl rfl ?_
  refine q_iconst rfl ?_
  refine q_icmp_ge rfl (fun _ => ?_) (fun c => absurd (by decide) c)
  refine q_iload rfl rfl ?_
  refine q_bipush rfl ?_
  refine q_icmp_ge rfl (fun _ => ?_) (fun c => absurd (by decide) c)
  refine q_iload rfl rfl ?_
  refine q_bipush rfl ?_
  refine q_icmp_ge rfl (fun _ => ?_) (fun c => absurd (by decide) c)
  refine q_iload rfl rfl ?_
  refine q_bipush rfl ?_
  refine q_icmp_ge rfl (fun c => absurd c (by decide)) (fun _ => ?_)
  refine q_iload rfl rfl ?_
  refine q_goto rfl ?_
  refine s_istore (lv' := [(7, .int (xs 4)), (6, .int 13), (0, .ref 191), (1, .int (xs 1)), (2, .int (xs 2)), (3, .int (xs 3)), (4, .int (xs 4)), (5, .int (xs 5))]) rfl (by decide) rfl ?_
  refine q_aload_n rfl rfl ?_
  have e191_34 := (e191_33.ne f34 rfl)
  refine s_get (v := .ref 192) rfl e191_34 rfl rfl ?_
  refine q_iload rfl rfl ?_
  refine q_iload rfl rfl ?_
  refine q_bipush rfl ?_
  refine q_bipush rfl ?_
  refine q_iload rfl rfl ?_
  refine q_iconst rfl ?_
  refine s_iand (k := 1) rfl (by decide) ?_
  refine s_imul (k := 8) rfl (by decide) ?_
  refine s_isub (k := 16) rfl (by decide) ?_
  refine s_ishr (k := ((xs 4) >>> ((16 : Int32) &&& 31))) rfl rfl ?_
  refine q_sipush rfl ?_
  refine s_iand (k := (((xs 4) >>> ((16 : Int32) &&& 31)) &&& (255 : Int32))) rfl rfl ?_
  refine s_iastore (j := 13) rfl o34 (by decide) rfl (fun h35 o35 f35 => ?_)
  have s35 := s34.put f35
  refine s_iinc (y := 14) (lv' := [(6, .int 14), (7, .int (xs 4)), (0, .ref 191), (1, .int (xs 1)), (2, .int (xs 2)), (3, .int (xs 3)), (4, .int (xs 4)), (5, .int (xs 5))]) rfl rfl (by decide) (by decide) rfl ?_
  refine q_goto rfl ?_
  refine q_iload rfl rfl ?_
  refine q_bipush rfl ?_
  refine q_icmp_ge rfl (fun c => absurd c (by decide)) (fun _ => ?_)
  refine q_iload rfl rfl ?_
  refine q_iconst rfl ?_
  refine q_icmp_ge rfl (fun _ => ?_) (fun c => absurd (by decide) c)
  refine q_iload rfl rfl ?_
  refine q_bipush rfl ?_
  refine q_icmp_ge rfl (fun _ => ?_) (fun c => absurd (by decide) c)
  refine q_iload rfl rfl ?_
  refine q_bipush rfl ?_
  refine q_icmp_ge rfl (fun _ => ?_) (fun c => absurd (by decide) c)
  refine q_iload rfl rfl ?_
  refine q_bipush rfl ?_
  refine q_icmp_ge rfl (fun c => absurd c (by decide)) (fun _ => ?_)
  refine q_iload rfl rfl ?_
  refine q_goto rfl ?_
  refine s_istore (lv' := [(7, .int (xs 4)), (6, .int 14), (0, .ref 191), (1, .int (xs 1)), (2, .int (xs 2)), (3, .int (xs 3)), (4, .int (xs 4)), (5, .int (xs 5))]) rfl (by decide) rfl ?_
  refine q_aload_n rfl rfl ?_
  have e191_35 := (e191_34.ne f35 rfl)
  refine s_get (v := .ref 192) rfl e191_35 rfl rfl ?_
  refine q_iload rfl rfl ?_
  refine q_iload rfl rfl ?_
  refine q_bipush rfl ?_
  refine q_bipush rfl ?_
  refine q_iload rfl rfl ?_
  refine q_iconst rfl ?_
  refine s_iand (k := 2) rfl (by decide) ?_
  refine s_imul (k := 16) rfl (by decide) ?_
  refine s_isub (k := 8) rfl (by decide) ?_
  refine s_ishr (k := ((xs 4) >>> ((8 : Int32) &&& 31))) rfl rfl ?_
  refine q_sipush rfl ?_
  refine s_iand (k := (((xs 4) >>> ((8 : Int32) &&& 31)) &&& (255 : Int32))) rfl rfl ?_
  refine s_iastore (j := 14) rfl o35 (by decide) rfl (fun h36 o36 f36 => ?_)
  have s36 := s35.put f36
  refine s_iinc (y := 15) (lv' := [(6, .int 15), (7, .int (xs 4)), (0, .ref 191), (1, .int (xs 1)), (2, .int (xs 2)), (3, .int (xs 3)), (4, .int (xs 4)), (5, .int (xs 5))]) rfl rfl (by decide) (by decide) rfl ?_
  refine q_goto rfl ?_
  refine q_iload rfl rfl ?_
  refine q_bipush rfl ?_
  refine q_icmp_ge rfl (fun c => absurd c (by decide)) (fun _ => ?_)
  refine q_iload rfl rfl ?_
  refine q_iconst rfl ?_
  refine q_icmp_ge rfl (fun _ => ?_) (fun c => absurd (by decide) c)
  refine q_iload rfl rfl ?_
  refine q_bipush rfl ?_
  refine q_icmp_ge rfl (fun _ => ?_) (fun c => absurd (by decide) c)
  refine q_iload rfl rfl ?_
  refine q_bipush rfl ?_
  refine q_icmp_ge rfl (fun _ => ?_) (fun c => absurd (by decide) c)
  refine q_iload rfl rfl ?_
  refine q_bipush rfl ?_
  refine q_icmp_ge rfl (fun c => absurd c (by decide)) (fun _ => ?_)
  refine q_iload rfl rfl ?_
  refine q_goto rfl ?_
  refine s_istore (lv' := [(7, .int (xs 4)), (6, .int 15), (0, .ref 191), (1, .int (xs 1)), (2, .int (xs 2)), (3, .int (xs 3)), (4, .int (xs 4)), (5, .int (xs 5))]) rfl (by decide) rfl ?_
  refine q_aload_n rfl rfl ?_
  have e191_36 := (e191_35.ne f36 rfl)
  refine s_get (v := .ref 192) rfl e191_36 rfl rfl ?_
  refine q_iload rfl rfl ?_
  refine q_iload rfl rfl ?_
  refine q_bipush rfl ?_
  refine q_bipush rfl ?_
  refine q_iload rfl rfl ?_
  refine q_iconst rfl ?_
  refine s_iand (k := 3) rfl (by decide) ?_
  refine s_imul (k := 24) rfl (by decide) ?_
  refine s_isub (k := 0) rfl (by decide) ?_
  refine s_ishr (k := ((xs 4) >>> ((0 : Int32) &&& 31))) rfl rfl ?_
  refine q_sipush rfl ?_
  refine s_iand (k := (((xs 4) >>> ((0 : Int32) &&& 31)) &&& (255 : Int32))) rfl rfl ?_
  refine s_iastore (j := 15) rfl o36 (by decide) rfl (fun h37 o37 f37 => ?_)
  have s37 := s36.put f37
  refine s_iinc (y := 16) (lv' := [(6, .int 16), (7, .int (xs 4)), (0, .ref 191), (1, .int (xs 1)), (2, .int (xs 2)), (3, .int (xs 3)), (4, .int (xs 4)), (5, .int (xs 5))]) rfl rfl (by decide) (by decide) rfl ?_
  refine q_goto rfl ?_
  refine q_iload rfl rfl ?_
  refine q_bipush rfl ?_
  refine q_icmp_ge rfl (fun c => absurd c (by decide)) (fun _ => ?_)
  refine q_iload rfl rfl ?_
  refine q_iconst rfl ?_
  refine q_icmp_ge rfl (fun _ => ?_) (fun c => absurd (by decide) c)
  refine q_iload rfl rfl ?_
  refine q_bipush rfl ?_
  refine q_icmp_ge rfl (fun _ => ?_) (fun c => absurd (by decide) c)
  refine q_iload rfl rfl ?_
  refine q_bipush rfl ?_
  refine q_icmp_ge rfl (fun _ => ?_) (fun c => absurd (by decide) c)
  refine q_iload rfl rfl ?_
  refine q_bipush rfl ?_
  refine q_icmp_ge rfl (fun _ => ?_) (fun c => absurd (by decide) c)
  refine q_iload rfl rfl ?_
  refine s_istore (lv' := [(7, .int (xs 5)), (6, .int 16), (0, .ref 191), (1, .int (xs 1)), (2, .int (xs 2)), (3, .int (xs 3)), (4, .int (xs 4)), (5, .int (xs 5))]) rfl (by decide) rfl ?_
  refine q_aload_n rfl rfl ?_
  have e191_37 := (e191_36.ne f37 rfl)
  refine s_get (v := .ref 192) rfl e191_37 rfl rfl ?_
  refine q_iload rfl rfl ?_
  refine q_iload rfl rfl ?_
  refine q_bipush rfl ?_
  refine q_bipush rfl ?_
  refine q_iload rfl rfl ?_
  refine q_iconst rfl ?_
  refine s_iand (k := 0) rfl (by decide) ?_
  refine s_imul (k := 0) rfl (by decide) ?_
  refine s_isub (k := 24) rfl (by decide) ?_
  refine s_ishr (k := ((xs 5) >>> ((24 : Int32) &&& 31))) rfl rfl ?_
  refine q_sipush rfl ?_
  refine s_iand (k := (((xs 5) >>> ((24 : Int32) &&& 31)) &&& (255 : Int32))) rfl rfl ?_
  refine s_iastore (j := 16) rfl o37 (by decide) rfl (fun h38 o38 f38 => ?_)
  have s38 := s37.put f38
  refine s_iinc (y := 17) (lv' := [(6, .int 17), (7, .int (xs 5)), (0, .ref 191), (1, .int (xs 1)), (2, .int (xs 2)), (3, .int (xs 3)), (4, .int (xs 4)), (5, .int (xs 5))]) rfl rfl (by decide) (by decide) rfl ?_
  refine q_goto rfl ?_
  refine q_iload rfl rfl ?_
  refine q_bipush rfl ?_
  refine q_icmp_ge rfl (fun c => absurd c (by decide)) (fun _ => ?_)
  refine q_iload rfl rfl ?_
  refine q_iconst rfl ?_
  refine q_icmp_ge rfl (fun _ => ?_) (fun c => absurd (by decide) c)
  refine q_iload rfl rfl ?_
  refine q_bipush rfl ?_
  refine q_icmp_ge rfl (fun _ => ?_) (fun c => absurd (by decide) c)
  refine q_iload rfl rfl ?_
  refine q_bipush rfl ?_
  refine q_icmp_ge rfl (fun _ => ?_) (fun c => absurd (by decide) c)
  refine q_iload rfl rfl ?_
  refine q_bipush rfl ?_
  refine q_icmp_ge rfl (fun _ => ?_) (fun c => absurd (by decide) c)
  refine q_iload rfl rfl ?_
  refine s_istore (lv' := [(7, .int (xs 5)), (6, .int 17), (0, .ref 191), (1, .int (xs 1)), (2, .int (xs 2)), (3, .int (xs 3)), (4, .int (xs 4)), (5, .int (xs 5))]) rfl (by decide) rfl ?_
  refine q_aload_n rfl rfl ?_
  have e191_38 := (e191_37.ne f38 rfl)
  refine s_get (v := .ref 192) rfl e191_38 rfl rfl ?_
  refine q_iload rfl rfl ?_
  refine q_iload rfl rfl ?_
  refine q_bipush rfl ?_
  refine q_bipush rfl ?_
  refine q_iload rfl rfl ?_
  refine q_iconst rfl ?_
  refine s_iand (k := 1) rfl (by decide) ?_
  refine s_imul (k := 8) rfl (by decide) ?_
  refine s_isub (k := 16) rfl (by decide) ?_
  refine s_ishr (k := ((xs 5) >>> ((16 : Int32) &&& 31))) rfl rfl ?_
  refine q_sipush rfl ?_
  refine s_iand (k := (((xs 5) >>> ((16 : Int32) &&& 31)) &&& (255 : Int32))) rfl rfl ?_
  refine s_iastore (j := 17) rfl o38 (by decide) rfl (fun h39 o39 f39 => ?_)
  have s39 := s38.put f39
  refine s_iinc (y := 18) (lv' := [(6, .int 18), (7, .int (xs 5)), (0, .ref 191), (1, .int (xs 1)), (2, .int (xs 2)), (3, .int (xs 3)), (4, .int (xs 4)), (5, .int (xs 5))]) rfl rfl (by decide) (by decide) rfl ?_
  refine q_goto rfl ?_
  refine q_iload rfl rfl ?_
  refine q_bipush rfl ?_
  refine q_icmp_ge rfl (fun c => absurd c (by decide)) (fun _ => ?_)
  refine q_iload rfl rfl ?_
  refine q_iconst rfl ?_
  refine q_icmp_ge rfl (fun _ => ?_) (fun c => absurd (by decide) c)
  refine q_iload rfl rfl ?_
  refine q_bipush rfl ?_
  refine q_icmp_ge rfl (fun _ => ?_) (fun c => absurd (by decide) c)
  refine q_iload rfl rfl ?_
  refine q_bipush rfl ?_
  refine q_icmp_ge rfl (fun _ => ?_) (fun c => absurd (by decide) c)
  refine q_iload rfl rfl ?_
  refine q_bipush rfl ?_
  refine q_icmp_ge rfl (fun _ => ?_) (fun c => absurd (by decide) c)
  refine q_iload rfl rfl ?_
  refine s_istore (lv' := [(7, .int (xs 5)), (6, .int 18), (0, .ref 191), (1, .int (xs 1)), (2, .int (xs 2)), (3, .int (xs 3)), (4, .int (xs 4)), (5, .int (xs 5))]) rfl (by decide) rfl ?_
  refine q_aload_n rfl rfl ?_
  have e191_39 := (e191_38.ne f39 rfl)
  refine s_get (v := .ref 192) rfl e191_39 rfl rfl ?_
  refine q_iload rfl rfl ?_
  refine q_iload rfl rfl ?_
  refine q_bipush rfl ?_
  refine q_bipush rfl ?_
  refine q_iload rfl rfl ?_
  refine q_iconst rfl ?_
  refine s_iand (k := 2) rfl (by decide) ?_
  refine s_imul (k := 16) rfl (by decide) ?_
  refine s_isub (k := 8) rfl (by decide) ?_
  refine s_ishr (k := ((xs 5) >>> ((8 : Int32) &&& 31))) rfl rfl ?_
  refine q_sipush rfl ?_
  refine s_iand (k := (((xs 5) >>> ((8 : Int32) &&& 31)) &&& (255 : Int32))) rfl rfl ?_
  refine s_iastore (j := 18) rfl o39 (by decide) rfl (fun h40 o40 f40 => ?_)
  have s40 := s39.put f40
  refine s_iinc (y := 19) (lv' := [(6, .int 19), (7, .int (xs 5)), (0, .ref 191), (1, .int (xs 1)), (2, .int (xs 2)), (3, .int (xs 3)), (4, .int (xs 4)), (5, .int (xs 5))]) rfl rfl (by decide) (by decide) rfl ?_
  refine q_goto rfl ?_
  refine q_iload rfl rfl ?_
  refine q_bipush rfl ?_
  refine q_icmp_ge rfl (fun c => absurd c (by decide)) (fun _ => ?_)
  refine q_iload rfl rfl ?_
  refine q_iconst rfl ?_
  refine q_icmp_ge rfl (fun _ => ?_) (fun c => absurd (by decide) c)
  refine q_iload rfl rfl ?_
  refine q_bipush rfl ?_
  refine q_icmp_ge rfl (fun _ => ?_) (fun c => absurd (by decide) c)
  refine q_iload rfl rfl ?_
  refine q_bipush rfl ?_
  refine q_icmp_ge rfl (fun _ => ?_) (fun c => absurd (by decide) c)
  refine q_iload rfl rfl ?_
  refine q_bipush rfl ?_
  refine q_icmp_ge rfl (fun _ => ?_) (fun c => absurd (by decide) c)
  refine q_iload rfl rfl ?_
  refine s_istore (lv' := [(7, .int (xs 5)), (6, .int 19), (0, .ref 191), (1, .int (xs 1)), (2, .int (xs 2)), (3, .int (xs 3)), (4, .int (xs 4)), (5, .int (xs 5))]) rfl (by decide) rfl ?_
  refine q_aload_n rfl rfl ?_
  have e191_40 := (e191_39.ne f40 rfl)
  refine s_get (v := .ref 192) rfl e191_40 rfl rfl ?_
  refine q_iload rfl rfl ?_
  refine q_iload rfl rfl ?_
  refine q_bipush rfl ?_
  refine q_bipush rfl ?_
  refine q_iload rfl rfl ?_
  refine q_iconst rfl ?_
  refine s_iand (k := 3) rfl (by decide) ?_
  refine s_imul (k := 24) rfl (by decide) ?_
  refine s_isub (k := 0) rfl (by decide) ?_
  refine s_ishr (k := ((xs 5) >>> ((0 : Int32) &&& 31))) rfl rfl ?_
  refine q_sipush rfl ?_
  refine s_iand (k := (((xs 5) >>> ((0 : Int32) &&& 31)) &&& (255 : Int32))) rfl rfl ?_
  refine s_iastore (j := 19) rfl o40 (by decide) rfl (fun h41 o41 f41 => ?_)
  have s41 := s40.put f41
  refine s_iinc (y := 20) (lv' := [(6, .int 20), (7, .int (xs 5)), (0, .ref 191), (1, .int (xs 1)), (2, .int (xs 2)), (3, .int (xs 3)), (4, .int (xs 4)), (5, .int (xs 5))]) rfl rfl (by decide) (by decide) rfl ?_
  refine q_goto rfl ?_
  refine q_iload rfl rfl ?_
  refine q_bipush rfl ?_
  refine q_icmp_ge rfl (fun _ => ?_) (fun c => absurd (by decide) c)
  refine q_return rfl rfl ?_
  show aW aiP 0 17 658 220 [(4, .int 0), (3, .ref 233), (2, .ref 191), (1, .ref 6), (0, .ref 0)] [] h41 _
  refine q_goto rfl ?_
  refine s_iinc (y := 6) (lv' := [(4, .int 6), (3, .ref 233), (2, .ref 191), (1, .ref 6), (0, .ref 0)]) rfl rfl (by decide) (by decide) rfl ?_
  refine q_goto rfl ?_
  refine q_iload rfl rfl ?_
  refine q_aload_n rfl rfl ?_
  have e0_41 := (f41.ne rfl (f40.ne rfl (f39.ne rfl (f38.ne rfl (f37.ne rfl (f36.ne rfl (f35.ne rfl (f34.ne rfl (f33.ne rfl (f32.ne rfl (f31.ne rfl (f30.ne rfl (f29.ne rfl (f28.ne rfl (f27.ne rfl (f26.ne rfl (f25.ne rfl (f24.ne rfl (f23.ne rfl (f22.ne rfl (f21.ne rfl e0_20)))))))))))))))))))))
  refine s_alen (x := 6) rfl e0_41 rfl (by decide) ?_
  refine q_bipush rfl ?_
  refine s_isub (k := 0) rfl (by decide) ?_
  refine q_icmp_gt rfl (fun _ => ?_) (fun c => absurd (by decide) c)
  refine q_iconst rfl ?_
  refine q_ireturn rfl rfl ?_
  exact ⟨rfl, s41.bd rfl⟩
