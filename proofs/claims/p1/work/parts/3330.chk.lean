/-! the instructions, decoded and checked -/
theorem cm_235 : aiT_235.all (fun z => ai_chk aiRc aiArr aiPl_MirrorWorksModel "set" prog_14_method_28_code z.1 z.2 && decide (decode prog_14_method_28_code z.1 = .ok (z.2.ins, z.2.len))) = true := by decide +kernel
theorem cm_236 : aiT_236.all (fun z => ai_chk aiRc aiArr aiPl_MirrorWorksModel "remove" prog_14_method_29_code z.1 z.2 && decide (decode prog_14_method_29_code z.1 = .ok (z.2.ins, z.2.len))) = true := by decide +kernel
theorem cm_237 : aiT_237.all (fun z => ai_chk aiRc aiArr aiPl_MirrorWorksModel "isBelow" prog_14_method_14_code z.1 z.2 && decide (decode prog_14_method_14_code z.1 = .ok (z.2.ins, z.2.len))) = true := by decide +kernel
theorem cm_238 : aiT_238.all (fun z => ai_chk aiRc aiArr aiPl_MirrorWorksModel "step" prog_14_method_39_code z.1 z.2 && decide (decode prog_14_method_39_code z.1 = .ok (z.2.ins, z.2.len))) = true := by decide +kernel
theorem cm_239 : aiT_239.all (fun z => ai_chk aiRc aiArr aiPl_MirrorWorksModel "actNext" prog_14_method_35_code z.1 z.2 && decide (decode prog_14_method_35_code z.1 = .ok (z.2.ins, z.2.len))) = true := by decide +kernel
