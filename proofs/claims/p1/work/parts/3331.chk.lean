/-! the instructions, decoded and checked -/
theorem cm_240 : aiT_240.all (fun z => ai_chk aiRc aiArr aiPl_MirrorWorksModel "act" prog_14_method_34_code z.1 z.2 && decide (decode prog_14_method_34_code z.1 = .ok (z.2.ins, z.2.len))) = true := by decide +kernel
theorem cm_241 : aiT_241.all (fun z => ai_chk aiRc aiArr aiPl_MirrorWorksModel "keep" prog_14_method_32_code z.1 z.2 && decide (decode prog_14_method_32_code z.1 = .ok (z.2.ins, z.2.len))) = true := by decide +kernel
theorem cm_242 : aiT_242.all (fun z => ai_chk aiRc aiArr aiPl_MirrorWorksModel "rest" prog_14_method_36_code z.1 z.2 && decide (decode prog_14_method_36_code z.1 = .ok (z.2.ins, z.2.len))) = true := by decide +kernel
