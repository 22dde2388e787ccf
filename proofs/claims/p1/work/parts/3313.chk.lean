/-! the instructions, decoded and checked -/
theorem cm_34_0 : aiT_34_0.all (fun z => ai_chk aiRc aiArr aiPl_MirrorWorks_Sums "mixBlock" prog_8_method_8_code z.1 z.2 && decide (decode prog_8_method_8_code z.1 = .ok (z.2.ins, z.2.len))) = true := by decide +kernel
theorem cm_34_1 : aiT_34_1.all (fun z => ai_chk aiRc aiArr aiPl_MirrorWorks_Sums "mixBlock" prog_8_method_8_code z.1 z.2 && decide (decode prog_8_method_8_code z.1 = .ok (z.2.ins, z.2.len))) = true := by decide +kernel
theorem cm_35 : aiT_35.all (fun z => ai_chk aiRc aiArr aiPl_MirrorWorks_Sums "word" prog_8_method_3_code z.1 z.2 && decide (decode prog_8_method_3_code z.1 = .ok (z.2.ins, z.2.len))) = true := by decide +kernel
theorem cm_36 : aiT_36.all (fun z => ai_chk aiRc aiArr aiPl_MirrorWorks "about" prog_1_method_36_code z.1 z.2 && decide (decode prog_1_method_36_code z.1 = .ok (z.2.ins, z.2.len))) = true := by decide +kernel
theorem cm_37 : aiT_37.all (fun z => ai_chk aiRc aiArr aiPl_MirrorWorks_Drive "sessions" prog_4_method_9_code z.1 z.2 && decide (decode prog_4_method_9_code z.1 = .ok (z.2.ins, z.2.len))) = true := by decide +kernel
theorem cm_38 : aiT_38.all (fun z => ai_chk aiRc aiArr aiPl_MirrorWorks "isWorking" prog_1_method_24_code z.1 z.2 && decide (decode prog_1_method_24_code z.1 = .ok (z.2.ins, z.2.len))) = true := by decide +kernel
theorem cm_39 : aiT_39.all (fun z => ai_chk aiRc aiArr aiPl_MirrorWorks_Tree "bytes" prog_10_method_8_code z.1 z.2 && decide (decode prog_10_method_8_code z.1 = .ok (z.2.ins, z.2.len))) = true := by decide +kernel
theorem cm_40 : aiT_40.all (fun z => ai_chk aiRc aiArr aiPl_MirrorWorks "disk" prog_1_method_37_code z.1 z.2 && decide (decode prog_1_method_37_code z.1 = .ok (z.2.ins, z.2.len))) = true := by decide +kernel
theorem cm_41 : aiT_41.all (fun z => ai_chk aiRc aiArr aiPl_MirrorWorks_Drive "count" prog_4_method_2_code z.1 z.2 && decide (decode prog_4_method_2_code z.1 = .ok (z.2.ins, z.2.len))) = true := by decide +kernel
theorem cm_42 : aiT_42.all (fun z => ai_chk aiRc aiArr aiPl_MirrorWorks "output" prog_1_method_49_code z.1 z.2 && decide (decode prog_1_method_49_code z.1 = .ok (z.2.ins, z.2.len))) = true := by decide +kernel
theorem cm_43 : aiT_43.all (fun z => ai_chk aiRc aiArr aiPl_MirrorWorks "outputAt" prog_1_method_50_code z.1 z.2 && decide (decode prog_1_method_50_code z.1 = .ok (z.2.ins, z.2.len))) = true := by decide +kernel
