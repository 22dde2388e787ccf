/-! the instructions, decoded and checked -/
theorem cm_214_4 : aiT_214_4.all (fun z => ai_chk aiRc aiArr aiPl_MirrorWorksModel "<init>" prog_14_method_1_code z.1 z.2 && decide (decode prog_14_method_1_code z.1 = .ok (z.2.ins, z.2.len))) = true := by decide +kernel
theorem cm_215 : aiT_215.all (fun z => ai_chk aiRc aiArr aiPl_MirrorWorksModel "thrown" prog_14_method_2_code z.1 z.2 && decide (decode prog_14_method_2_code z.1 = .ok (z.2.ins, z.2.len))) = true := by decide +kernel
theorem cm_216 : aiT_216.all (fun z => ai_chk aiRc aiArr aiPl_MirrorWorksModel "feed" prog_14_method_5_code z.1 z.2 && decide (decode prog_14_method_5_code z.1 = .ok (z.2.ins, z.2.len))) = true := by decide +kernel
theorem cm_217 : aiT_217.all (fun z => ai_chk aiRc aiArr aiPl_MirrorWorksModel "end" prog_14_method_6_code z.1 z.2 && decide (decode prog_14_method_6_code z.1 = .ok (z.2.ins, z.2.len))) = true := by decide +kernel
