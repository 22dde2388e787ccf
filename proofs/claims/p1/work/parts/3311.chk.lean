/-! the instructions, decoded and checked -/
theorem cm_0_11 : aiT_0_11.all (fun z => ai_chk aiRc aiArr aiPl_MirrorWorksLaw "law" code z.1 z.2 && decide (decode code z.1 = .ok (z.2.ins, z.2.len))) = true := by decide +kernel
theorem cm_1 : aiT_1.all (fun z => ai_chk aiRc aiArr aiPl_MirrorWorks "<init>" prog_1_method_1_code z.1 z.2 && decide (decode prog_1_method_1_code z.1 = .ok (z.2.ins, z.2.len))) = true := by decide +kernel
theorem cm_2 : aiT_2.all (fun z => ai_chk aiRc aiArr aiPl_MirrorWorks_Tree "<init>" prog_10_method_1_code z.1 z.2 && decide (decode prog_10_method_1_code z.1 = .ok (z.2.ins, z.2.len))) = true := by decide +kernel
theorem cm_3 : aiT_3.all (fun z => ai_chk aiRc aiArr aiPl_MirrorWorks_Entry "<init>" prog_5_method_1_code z.1 z.2 && decide (decode prog_5_method_1_code z.1 = .ok (z.2.ins, z.2.len))) = true := by decide +kernel
theorem cm_4 : aiT_4.all (fun z => ai_chk aiRc aiArr aiPl_MirrorWorks_Drive "<init>" prog_4_method_1_code z.1 z.2 && decide (decode prog_4_method_1_code z.1 = .ok (z.2.ins, z.2.len))) = true := by decide +kernel
theorem cm_5 : aiT_5.all (fun z => ai_chk aiRc aiArr aiPl_java_util_ArrayList "<init>" prog_32_method_2_code z.1 z.2 && decide (decode prog_32_method_2_code z.1 = .ok (z.2.ins, z.2.len))) = true := by decide +kernel
theorem cm_6 : aiT_6.all (fun z => ai_chk aiRc aiArr aiPl_java_util_AbstractList "<init>" prog_31_method_1_code z.1 z.2 && decide (decode prog_31_method_1_code z.1 = .ok (z.2.ins, z.2.len))) = true := by decide +kernel
theorem cm_7 : aiT_7.all (fun z => ai_chk aiRc aiArr aiPl_java_util_AbstractCollection "<init>" prog_30_method_1_code z.1 z.2 && decide (decode prog_30_method_1_code z.1 = .ok (z.2.ins, z.2.len))) = true := by decide +kernel
theorem cm_8 : aiT_8.all (fun z => ai_chk aiRc aiArr aiPl_MirrorWorks_Plan "<init>" prog_7_method_1_code z.1 z.2 && decide (decode prog_7_method_1_code z.1 = .ok (z.2.ins, z.2.len))) = true := by decide +kernel
theorem cm_9 : aiT_9.all (fun z => ai_chk aiRc aiArr aiPl_MirrorWorks_Operation "<init>" prog_6_method_1_code z.1 z.2 && decide (decode prog_6_method_1_code z.1 = .ok (z.2.ins, z.2.len))) = true := by decide +kernel
theorem cm_10 : aiT_10.all (fun z => ai_chk aiRc aiArr aiPl_MirrorWorks_Sums "<init>" prog_8_method_1_code z.1 z.2 && decide (decode prog_8_method_1_code z.1 = .ok (z.2.ins, z.2.len))) = true := by decide +kernel
