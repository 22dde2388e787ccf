/-! the instructions, decoded and checked -/
theorem cm_218 : aiT_218.all (fun z => ai_chk aiRc aiArr aiPl_MirrorWorksModel "make" prog_14_method_23_code z.1 z.2 && decide (decode prog_14_method_23_code z.1 = .ok (z.2.ins, z.2.len))) = true := by decide +kernel
theorem cm_219 : aiT_219.all (fun z => ai_chk aiRc aiArr aiPl_MirrorWorksModel "refused" prog_14_method_24_code z.1 z.2 && decide (decode prog_14_method_24_code z.1 = .ok (z.2.ins, z.2.len))) = true := by decide +kernel
theorem cm_220 : aiT_220.all (fun z => ai_chk aiRc aiArr aiPl_MirrorWorksModel "takeName" prog_14_method_8_code z.1 z.2 && decide (decode prog_14_method_8_code z.1 = .ok (z.2.ins, z.2.len))) = true := by decide +kernel
theorem cm_221 : aiT_221.all (fun z => ai_chk aiRc aiArr aiPl_MirrorWorksModel "isOf" prog_14_method_4_code z.1 z.2 && decide (decode prog_14_method_4_code z.1 = .ok (z.2.ins, z.2.len))) = true := by decide +kernel
theorem cm_222 : aiT_222.all (fun z => ai_chk aiRc aiArr aiPl_MirrorWorksModel "isPath" prog_14_method_7_code z.1 z.2 && decide (decode prog_14_method_7_code z.1 = .ok (z.2.ins, z.2.len))) = true := by decide +kernel
theorem cm_223 : aiT_223.all (fun z => ai_chk aiRc aiArr aiPl_MirrorWorksModel "find" prog_14_method_13_code z.1 z.2 && decide (decode prog_14_method_13_code z.1 = .ok (z.2.ins, z.2.len))) = true := by decide +kernel
theorem cm_224 : aiT_224.all (fun z => ai_chk aiRc aiArr aiPl_MirrorWorksModel "orderName" prog_14_method_12_code z.1 z.2 && decide (decode prog_14_method_12_code z.1 = .ok (z.2.ins, z.2.len))) = true := by decide +kernel
