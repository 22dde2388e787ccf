/-! the instructions, decoded and checked -/
theorem cm_307 : aiT_307.all (fun z => ai_chk aiRc aiArr aiPl_MirrorWorksModel "isNamed" prog_14_method_82_code z.1 z.2 && decide (decode prog_14_method_82_code z.1 = .ok (z.2.ins, z.2.len))) = true := by decide +kernel
theorem cm_308 : aiT_308.all (fun z => ai_chk aiRc aiArr aiPl_MirrorWorksModel "hexadecimal" prog_14_method_81_code z.1 z.2 && decide (decode prog_14_method_81_code z.1 = .ok (z.2.ins, z.2.len))) = true := by decide +kernel
theorem cm_309 : aiT_309.all (fun z => ai_chk aiRc aiArr aiPl_MirrorWorksModel "commandList" prog_14_method_93_code z.1 z.2 && decide (decode prog_14_method_93_code z.1 = .ok (z.2.ins, z.2.len))) = true := by decide +kernel
theorem cm_310 : aiT_310.all (fun z => ai_chk aiRc aiArr aiPl_MirrorWorksModel "sayPath" prog_14_method_87_code z.1 z.2 && decide (decode prog_14_method_87_code z.1 = .ok (z.2.ins, z.2.len))) = true := by decide +kernel
theorem cm_311 : aiT_311.all (fun z => ai_chk aiRc aiArr aiPl_MirrorWorksModel "commandChanges" prog_14_method_95_code z.1 z.2 && decide (decode prog_14_method_95_code z.1 = .ok (z.2.ins, z.2.len))) = true := by decide +kernel
