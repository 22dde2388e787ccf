/-! the law's loop, and the claim; made by wip/tools/p1.py -/
theorem p_sp20 (x : Int32) : x < 0 ∨ 20 < x ∨ x = 0 ∨ x = 1 ∨ x = 2 ∨ x = 3 ∨ x = 4 ∨ x = 5 ∨ x = 6 ∨ x = 7 ∨ x = 8 ∨ x = 9 ∨ x = 10 ∨ x = 11 ∨ x = 12 ∨ x = 13 ∨ x = 14 ∨ x = 15 ∨ x = 16 ∨ x = 17 ∨ x = 18 ∨ x = 19 ∨ x = 20 := by
  have e : x.toInt < 0 ∨ 20 < x.toInt ∨ x.toInt = 0 ∨ x.toInt = 1 ∨ x.toInt = 2 ∨ x.toInt = 3 ∨ x.toInt = 4 ∨ x.toInt = 5 ∨ x.toInt = 6 ∨ x.toInt = 7 ∨ x.toInt = 8 ∨ x.toInt = 9 ∨ x.toInt = 10 ∨ x.toInt = 11 ∨ x.toInt = 12 ∨ x.toInt = 13 ∨ x.toInt = 14 ∨ x.toInt = 15 ∨ x.toInt = 16 ∨ x.toInt = 17 ∨ x.toInt = 18 ∨ x.toInt = 19 ∨ x.toInt = 20 := by omega
  rcases e with e | e | e | e | e | e | e | e | e | e | e | e | e | e | e | e | e | e | e | e | e | e | e
  · exact (Or.inl (lt0o e))
  · exact (Or.inr (Or.inl (gto (n := 20) (by decide) e)))
  · exact (Or.inr (Or.inr (Or.inl (i32_of e (by decide)))))
  · exact (Or.inr (Or.inr (Or.inr (Or.inl (i32_of e (by decide))))))
  · exact (Or.inr (Or.inr (Or.inr (Or.inr (Or.inl (i32_of e (by decide)))))))
  · exact (Or.inr (Or.inr (Or.inr (Or.inr (Or.inr (Or.inl (i32_of e (by decide))))))))
  · exact (Or.inr (Or.inr (Or.inr (Or.inr (Or.inr (Or.inr (Or.inl (i32_of e (by decide)))))))))
  · exact (Or.inr (Or.inr (Or.inr (Or.inr (Or.inr (Or.inr (Or.inr (Or.inl (i32_of e (by decide))))))))))
  · exact (Or.inr (Or.inr (Or.inr (Or.inr (Or.inr (Or.inr (Or.inr (Or.inr (Or.inl (i32_of e (by decide)))))))))))
  · exact (Or.inr (Or.inr (Or.inr (Or.inr (Or.inr (Or.inr (Or.inr (Or.inr (Or.inr (Or.inl (i32_of e (by decide))))))))))))
  · exact (Or.inr (Or.inr (Or.inr (Or.inr (Or.inr (Or.inr (Or.inr (Or.inr (Or.inr (Or.inr (Or.inl (i32_of e (by decide)))))))))))))
  · exact (Or.inr (Or.inr (Or.inr (Or.inr (Or.inr (Or.inr (Or.inr (Or.inr (Or.inr (Or.inr (Or.inr (Or.inl (i32_of e (by decide))))))))))))))
  · exact (Or.inr (Or.inr (Or.inr (Or.inr (Or.inr (Or.inr (Or.inr (Or.inr (Or.inr (Or.inr (Or.inr (Or.inr (Or.inl (i32_of e (by decide)))))))))))))))
  · exact (Or.inr (Or.inr (Or.inr (Or.inr (Or.inr (Or.inr (Or.inr (Or.inr (Or.inr (Or.inr (Or.inr (Or.inr (Or.inr (Or.inl (i32_of e (by decide))))))))))))))))
  · exact (Or.inr (Or.inr (Or.inr (Or.inr (Or.inr (Or.inr (Or.inr (Or.inr (Or.inr (Or.inr (Or.inr (Or.inr (Or.inr (Or.inr (Or.inl (i32_of e (by decide)))))))))))))))))
  · exact (Or.inr (Or.inr (Or.inr (Or.inr (Or.inr (Or.inr (Or.inr (Or.inr (Or.inr (Or.inr (Or.inr (Or.inr (Or.inr (Or.inr (Or.inr (Or.inl (i32_of e (by decide))))))))))))))))))
  · exact (Or.inr (Or.inr (Or.inr (Or.inr (Or.inr (Or.inr (Or.inr (Or.inr (Or.inr (Or.inr (Or.inr (Or.inr (Or.inr (Or.inr (Or.inr (Or.inr (Or.inl (i32_of e (by decide)))))))))))))))))))
  · exact (Or.inr (Or.inr (Or.inr (Or.inr (Or.inr (Or.inr (Or.inr (Or.inr (Or.inr (Or.inr (Or.inr (Or.inr (Or.inr (Or.inr (Or.inr (Or.inr (Or.inr (Or.inl (i32_of e (by decide))))))))))))))))))))
  · exact (Or.inr (Or.inr (Or.inr (Or.inr (Or.inr (Or.inr (Or.inr (Or.inr (Or.inr (Or.inr (Or.inr (Or.inr (Or.inr (Or.inr (Or.inr (Or.inr (Or.inr (Or.inr (Or.inl (i32_of e (by decide)))))))))))))))))))))
  · exact (Or.inr (Or.inr (Or.inr (Or.inr (Or.inr (Or.inr (Or.inr (Or.inr (Or.inr (Or.inr (Or.inr (Or.inr (Or.inr (Or.inr (Or.inr (Or.inr (Or.inr (Or.inr (Or.inr (Or.inl (i32_of e (by decide))))))))))))))))))))))
  · exact (Or.inr (Or.inr (Or.inr (Or.inr (Or.inr (Or.inr (Or.inr (Or.inr (Or.inr (Or.inr (Or.inr (Or.inr (Or.inr (Or.inr (Or.inr (Or.inr (Or.inr (Or.inr (Or.inr (Or.inr (Or.inl (i32_of e (by decide)))))))))))))))))))))))
  · exact (Or.inr (Or.inr (Or.inr (Or.inr (Or.inr (Or.inr (Or.inr (Or.inr (Or.inr (Or.inr (Or.inr (Or.inr (Or.inr (Or.inr (Or.inr (Or.inr (Or.inr (Or.inr (Or.inr (Or.inr (Or.inr (Or.inl (i32_of e (by decide))))))))))))))))))))))))
  · exact (Or.inr (Or.inr (Or.inr (Or.inr (Or.inr (Or.inr (Or.inr (Or.inr (Or.inr (Or.inr (Or.inr (Or.inr (Or.inr (Or.inr (Or.inr (Or.inr (Or.inr (Or.inr (Or.inr (Or.inr (Or.inr (Or.inr (i32_of e (by decide))))))))))))))))))))))))
theorem p_sp7 (x : Int32) : x < 0 ∨ 7 < x ∨ x = 0 ∨ x = 1 ∨ x = 2 ∨ x = 3 ∨ x = 4 ∨ x = 5 ∨ x = 6 ∨ x = 7 := by
  have e : x.toInt < 0 ∨ 7 < x.toInt ∨ x.toInt = 0 ∨ x.toInt = 1 ∨ x.toInt = 2 ∨ x.toInt = 3 ∨ x.toInt = 4 ∨ x.toInt = 5 ∨ x.toInt = 6 ∨ x.toInt = 7 := by omega
  rcases e with e | e | e | e | e | e | e | e | e | e
  · exact (Or.inl (lt0o e))
  · exact (Or.inr (Or.inl (gto (n := 7) (by decide) e)))
  · exact (Or.inr (Or.inr (Or.inl (i32_of e (by decide)))))
  · exact (Or.inr (Or.inr (Or.inr (Or.inl (i32_of e (by decide))))))
  · exact (Or.inr (Or.inr (Or.inr (Or.inr (Or.inl (i32_of e (by decide)))))))
  · exact (Or.inr (Or.inr (Or.inr (Or.inr (Or.inr (Or.inl (i32_of e (by decide))))))))
  · exact (Or.inr (Or.inr (Or.inr (Or.inr (Or.inr (Or.inr (Or.inl (i32_of e (by decide)))))))))
  · exact (Or.inr (Or.inr (Or.inr (Or.inr (Or.inr (Or.inr (Or.inr (Or.inl (i32_of e (by decide))))))))))
  · exact (Or.inr (Or.inr (Or.inr (Or.inr (Or.inr (Or.inr (Or.inr (Or.inr (Or.inl (i32_of e (by decide)))))))))))
  · exact (Or.inr (Or.inr (Or.inr (Or.inr (Or.inr (Or.inr (Or.inr (Or.inr (Or.inr (i32_of e (by decide)))))))))))
theorem p_sp6 (x : Int32) : x < 0 ∨ 6 < x ∨ x = 0 ∨ x = 1 ∨ x = 2 ∨ x = 3 ∨ x = 4 ∨ x = 5 ∨ x = 6 := by
  have e : x.toInt < 0 ∨ 6 < x.toInt ∨ x.toInt = 0 ∨ x.toInt = 1 ∨ x.toInt = 2 ∨ x.toInt = 3 ∨ x.toInt = 4 ∨ x.toInt = 5 ∨ x.toInt = 6 := by omega
  rcases e with e | e | e | e | e | e | e | e | e
  · exact (Or.inl (lt0o e))
  · exact (Or.inr (Or.inl (gto (n := 6) (by decide) e)))
  · exact (Or.inr (Or.inr (Or.inl (i32_of e (by decide)))))
  · exact (Or.inr (Or.inr (Or.inr (Or.inl (i32_of e (by decide))))))
  · exact (Or.inr (Or.inr (Or.inr (Or.inr (Or.inl (i32_of e (by decide)))))))
  · exact (Or.inr (Or.inr (Or.inr (Or.inr (Or.inr (Or.inl (i32_of e (by decide))))))))
  · exact (Or.inr (Or.inr (Or.inr (Or.inr (Or.inr (Or.inr (Or.inl (i32_of e (by decide)))))))))
  · exact (Or.inr (Or.inr (Or.inr (Or.inr (Or.inr (Or.inr (Or.inr (Or.inl (i32_of e (by decide))))))))))
  · exact (Or.inr (Or.inr (Or.inr (Or.inr (Or.inr (Or.inr (Or.inr (Or.inr (i32_of e (by decide))))))))))
theorem p_case1 {xs : Nat → Int32} {h : ai_H} (F : Fresh 6 xs h) (hk : xs 0 &&& 31 = 1) : aW aiP 0 17 658 33 [(4, .int 0), (3, .ref 233), (2, .ref 191), (1, .ref 6), (0, .ref 0)] [] h p_Q := by
  rcases p_sp20 (xs 1) with e | e | e | e | e | e | e | e | e | e | e | e | e | e | e | e | e | e | e | e | e | e | e
  · exact p_case1n F hk e
  · exact p_case1b F hk e
  · exact p_case1_0 F hk e
  · exact p_case1_1 F hk e
  · exact p_case1_2 F hk e
  · exact p_case1_3 F hk e
  · exact p_case1_4 F hk e
  · exact p_case1_5 F hk e
  · exact p_case1_6 F hk e
  · exact p_case1_7 F hk e
  · exact p_case1_8 F hk e
  · exact p_case1_9 F hk e
  · exact p_case1_10 F hk e
  · exact p_case1_11 F hk e
  · exact p_case1_12 F hk e
  · exact p_case1_13 F hk e
  · exact p_case1_14 F hk e
  · exact p_case1_15 F hk e
  · exact p_case1_16 F hk e
  · exact p_case1_17 F hk e
  · exact p_case1_18 F hk e
  · exact p_case1_19 F hk e
  · exact p_case1_20 F hk e
theorem p_case18 {xs : Nat → Int32} {h : ai_H} (F : Fresh 6 xs h) (hk : xs 0 &&& 31 = 18) : aW aiP 0 17 658 33 [(4, .int 0), (3, .ref 233), (2, .ref 191), (1, .ref 6), (0, .ref 0)] [] h p_Q := by
  rcases p_sp7 (xs 1) with e | e | e | e | e | e | e | e | e | e
  · exact p_case18n F hk e
  · exact p_case18b F hk e
  · exact p_case18_0 F hk e
  · exact p_case18_1 F hk e
  · exact p_case18_2 F hk e
  · exact p_case18_3 F hk e
  · exact p_case18_4 F hk e
  · exact p_case18_5 F hk e
  · exact p_case18_6 F hk e
  · exact p_case18_7 F hk e
theorem p_case19 {xs : Nat → Int32} {h : ai_H} (F : Fresh 6 xs h) (hk : xs 0 &&& 31 = 19) : aW aiP 0 17 658 33 [(4, .int 0), (3, .ref 233), (2, .ref 191), (1, .ref 6), (0, .ref 0)] [] h p_Q := by
  rcases p_sp6 (xs 1) with e | e | e | e | e | e | e | e | e
  · exact p_case19n F hk e
  · exact p_case19b F hk e
  · exact p_case19_0 F hk e
  · exact p_case19_1 F hk e
  · exact p_case19_2 F hk e
  · exact p_case19_3 F hk e
  · exact p_case19_4 F hk e
  · exact p_case19_5 F hk e
  · exact p_case19_6 F hk e
theorem p_case8 {xs : Nat → Int32} {h : ai_H} (F : Fresh 6 xs h) (hk : xs 0 &&& 31 = 8) : aW aiP 0 17 658 33 [(4, .int 0), (3, .ref 233), (2, .ref 191), (1, .ref 6), (0, .ref 0)] [] h p_Q := by
  by_cases e : xs 1 < 0
  · exact p_case8n F hk e
  · exact p_case8p F hk e
theorem p_main {xs : Nat → Int32} {h : ai_H} (F : Fresh 6 xs h) : aW aiP 0 17 658 33 [(4, .int 0), (3, .ref 233), (2, .ref 191), (1, .ref 6), (0, .ref 0)] [] h p_Q := by
  obtain ⟨j, hj, e⟩ := pk_andE (xs 0) (m := 31) 5 (by decide)
  match j, hj, e with
  | 0, _, e => exact p_case0 F e
  | 1, _, e => exact p_case1 F e
  | 2, _, e => exact p_case2 F e
  | 3, _, e => exact p_case3 F e
  | 4, _, e => exact p_case4 F e
  | 5, _, e => exact p_case5 F e
  | 6, _, e => exact p_case6 F e
  | 7, _, e => exact p_case7 F e
  | 8, _, e => exact p_case8 F e
  | 9, _, e => exact p_case9 F e
  | 10, _, e => exact p_case10 F e
  | 11, _, e => exact p_case11 F e
  | 12, _, e => exact p_case12 F e
  | 13, _, e => exact p_case13 F e
  | 14, _, e => exact p_case14 F e
  | 15, _, e => exact p_case15 F e
  | 16, _, e => exact p_case16 F e
  | 17, _, e => exact p_case17 F e
  | 18, _, e => exact p_case18 F e
  | 19, _, e => exact p_case19 F e
  | 20, _, e => exact p_case20 F e
  | 21, _, e => exact p_case21 F e
  | 22, _, e => exact p_case22 F e
  | 23, _, e => exact p_case23 F e
  | j + 24, hj, e =>
    refine p_caseD F ?_
    rw [e, nI_toInt (by omega)]
    omega
set_option maxRecDepth 20000 in
theorem p_enter0 {xs : Nat → Int32} {h : ai_H} (F : Fresh 0 xs h) : aW aiP 0 17 658 23 [(4, .int 0), (3, .ref 233), (2, .ref 191), (1, .ref 6), (0, .ref 0)] [] h p_Q := by
  have s0 := F.2.2.2.2.2.2.2.2.2.2.2.2.2.2.2.2.2.2.2.2.2.2.2.2.2.2.2.2.2.2.2.2.2.2.2.2.2.2.2.2.2.2.2.2.2.2.2.2.2.2.2.2.2.2.2.2.2.2.2.2.2.2.2.2.2.2.2.2.2.2
  refine q_iload rfl rfl ?_
  refine q_aload_n rfl rfl ?_
  have e0 := F.1
  refine s_alen (x := 0) rfl e0 rfl (by decide) ?_
  refine q_bipush rfl ?_
  refine s_isub (k := (-6)) rfl (by decide) ?_
  refine q_icmp_gt rfl (fun _ => ?_) (fun c => absurd (by decide) c)
  refine q_iconst rfl ?_
  refine q_ireturn rfl rfl ?_
  exact ⟨rfl, s0.bd rfl⟩
set_option maxRecDepth 20000 in
theorem p_enter1 {xs : Nat → Int32} {h : ai_H} (F : Fresh 1 xs h) : aW aiP 0 17 658 23 [(4, .int 0), (3, .ref 233), (2, .ref 191), (1, .ref 6), (0, .ref 0)] [] h p_Q := by
  have s0 := F.2.2.2.2.2.2.2.2.2.2.2.2.2.2.2.2.2.2.2.2.2.2.2.2.2.2.2.2.2.2.2.2.2.2.2.2.2.2.2.2.2.2.2.2.2.2.2.2.2.2.2.2.2.2.2.2.2.2.2.2.2.2.2.2.2.2.2.2.2.2
  refine q_iload rfl rfl ?_
  refine q_aload_n rfl rfl ?_
  have e0 := F.1
  refine s_alen (x := 1) rfl e0 rfl (by decide) ?_
  refine q_bipush rfl ?_
  refine s_isub (k := (-5)) rfl (by decide) ?_
  refine q_icmp_gt rfl (fun _ => ?_) (fun c => absurd (by decide) c)
  refine q_iconst rfl ?_
  refine q_ireturn rfl rfl ?_
  exact ⟨rfl, s0.bd rfl⟩
set_option maxRecDepth 20000 in
theorem p_enter2 {xs : Nat → Int32} {h : ai_H} (F : Fresh 2 xs h) : aW aiP 0 17 658 23 [(4, .int 0), (3, .ref 233), (2, .ref 191), (1, .ref 6), (0, .ref 0)] [] h p_Q := by
  have s0 := F.2.2.2.2.2.2.2.2.2.2.2.2.2.2.2.2.2.2.2.2.2.2.2.2.2.2.2.2.2.2.2.2.2.2.2.2.2.2.2.2.2.2.2.2.2.2.2.2.2.2.2.2.2.2.2.2.2.2.2.2.2.2.2.2.2.2.2.2.2.2
  refine q_iload rfl rfl ?_
  refine q_aload_n rfl rfl ?_
  have e0 := F.1
  refine s_alen (x := 2) rfl e0 rfl (by decide) ?_
  refine q_bipush rfl ?_
  refine s_isub (k := (-4)) rfl (by decide) ?_
  refine q_icmp_gt rfl (fun _ => ?_) (fun c => absurd (by decide) c)
  refine q_iconst rfl ?_
  refine q_ireturn rfl rfl ?_
  exact ⟨rfl, s0.bd rfl⟩
set_option maxRecDepth 20000 in
theorem p_enter3 {xs : Nat → Int32} {h : ai_H} (F : Fresh 3 xs h) : aW aiP 0 17 658 23 [(4, .int 0), (3, .ref 233), (2, .ref 191), (1, .ref 6), (0, .ref 0)] [] h p_Q := by
  have s0 := F.2.2.2.2.2.2.2.2.2.2.2.2.2.2.2.2.2.2.2.2.2.2.2.2.2.2.2.2.2.2.2.2.2.2.2.2.2.2.2.2.2.2.2.2.2.2.2.2.2.2.2.2.2.2.2.2.2.2.2.2.2.2.2.2.2.2.2.2.2.2
  refine q_iload rfl rfl ?_
  refine q_aload_n rfl rfl ?_
  have e0 := F.1
  refine s_alen (x := 3) rfl e0 rfl (by decide) ?_
  refine q_bipush rfl ?_
  refine s_isub (k := (-3)) rfl (by decide) ?_
  refine q_icmp_gt rfl (fun _ => ?_) (fun c => absurd (by decide) c)
  refine q_iconst rfl ?_
  refine q_ireturn rfl rfl ?_
  exact ⟨rfl, s0.bd rfl⟩
set_option maxRecDepth 20000 in
theorem p_enter4 {xs : Nat → Int32} {h : ai_H} (F : Fresh 4 xs h) : aW aiP 0 17 658 23 [(4, .int 0), (3, .ref 233), (2, .ref 191), (1, .ref 6), (0, .ref 0)] [] h p_Q := by
  have s0 := F.2.2.2.2.2.2.2.2.2.2.2.2.2.2.2.2.2.2.2.2.2.2.2.2.2.2.2.2.2.2.2.2.2.2.2.2.2.2.2.2.2.2.2.2.2.2.2.2.2.2.2.2.2.2.2.2.2.2.2.2.2.2.2.2.2.2.2.2.2.2
  refine q_iload rfl rfl ?_
  refine q_aload_n rfl rfl ?_
  have e0 := F.1
  refine s_alen (x := 4) rfl e0 rfl (by decide) ?_
  refine q_bipush rfl ?_
  refine s_isub (k := (-2)) rfl (by decide) ?_
  refine q_icmp_gt rfl (fun _ => ?_) (fun c => absurd (by decide) c)
  refine q_iconst rfl ?_
  refine q_ireturn rfl rfl ?_
  exact ⟨rfl, s0.bd rfl⟩
set_option maxRecDepth 20000 in
theorem p_enter5 {xs : Nat → Int32} {h : ai_H} (F : Fresh 5 xs h) : aW aiP 0 17 658 23 [(4, .int 0), (3, .ref 233), (2, .ref 191), (1, .ref 6), (0, .ref 0)] [] h p_Q := by
  have s0 := F.2.2.2.2.2.2.2.2.2.2.2.2.2.2.2.2.2.2.2.2.2.2.2.2.2.2.2.2.2.2.2.2.2.2.2.2.2.2.2.2.2.2.2.2.2.2.2.2.2.2.2.2.2.2.2.2.2.2.2.2.2.2.2.2.2.2.2.2.2.2
  refine q_iload rfl rfl ?_
  refine q_aload_n rfl rfl ?_
  have e0 := F.1
  refine s_alen (x := 5) rfl e0 rfl (by decide) ?_
  refine q_bipush rfl ?_
  refine s_isub (k := (-1)) rfl (by decide) ?_
  refine q_icmp_gt rfl (fun _ => ?_) (fun c => absurd (by decide) c)
  refine q_iconst rfl ?_
  refine q_ireturn rfl rfl ?_
  exact ⟨rfl, s0.bd rfl⟩
set_option maxRecDepth 20000 in
theorem p_enter6 {xs : Nat → Int32} {h : ai_H} (F : Fresh 6 xs h) : aW aiP 0 17 658 23 [(4, .int 0), (3, .ref 233), (2, .ref 191), (1, .ref 6), (0, .ref 0)] [] h p_Q := by
  have s0 := F.2.2.2.2.2.2.2.2.2.2.2.2.2.2.2.2.2.2.2.2.2.2.2.2.2.2.2.2.2.2.2.2.2.2.2.2.2.2.2.2.2.2.2.2.2.2.2.2.2.2.2.2.2.2.2.2.2.2.2.2.2.2.2.2.2.2.2.2.2.2
  refine q_iload rfl rfl ?_
  refine q_aload_n rfl rfl ?_
  have e0 := F.1
  refine s_alen (x := 6) rfl e0 rfl (by decide) ?_
  refine q_bipush rfl ?_
  refine s_isub (k := 0) rfl (by decide) ?_
  refine q_icmp_gt rfl (fun c => absurd c (by decide)) (fun _ => ?_)
  exact p_main F
theorem p_runs : aiRuns := by
  intro L xs hL
  have C : aW aiP 0 17 658 0 [(0, .ref 0)] [] (aiPre L xs) p_Q := by
    refine p_start (fun h F => ?_)
    match L, hL, F with
    | 0, _, F => exact p_enter0 F
    | 1, _, F => exact p_enter1 F
    | 2, _, F => exact p_enter2 F
    | 3, _, F => exact p_enter3 F
    | 4, _, F => exact p_enter4 F
    | 5, _, F => exact p_enter5 F
    | 6, _, F => exact p_enter6 F
    | L + 7, hL, _ => omega
  obtain ⟨o, h', ⟨n, hn⟩, rfl, b1, b2⟩ := C
  exact ⟨n, h', hn, by omega, by omega⟩
theorem i_vc : Claimed_1_1 ∧ Claimed_1_2 := ai_vc ai_catch_all p_runs
