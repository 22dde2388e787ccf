/-! the instructions, decoded and checked -/
theorem cm_312 : aiT_312.all (fun z => ai_chk aiRc aiArr aiPl_MirrorWorksModel "sayChange" prog_14_method_94_code z.1 z.2 && decide (decode prog_14_method_94_code z.1 = .ok (z.2.ins, z.2.len))) = true := by decide +kernel
theorem cm_313 : aiT_313.all (fun z => ai_chk aiRc aiArr aiPl_MirrorWorksModel "commandSessions" prog_14_method_96_code z.1 z.2 && decide (decode prog_14_method_96_code z.1 = .ok (z.2.ins, z.2.len))) = true := by decide +kernel
theorem cm_314 : aiT_314.all (fun z => ai_chk aiRc aiArr aiPl_MirrorWorksModel "output" prog_14_method_101_code z.1 z.2 && decide (decode prog_14_method_101_code z.1 = .ok (z.2.ins, z.2.len))) = true := by decide +kernel
theorem cm_315 : aiT_315.all (fun z => ai_chk aiRc aiArr aiPl_MirrorWorksModel "outputAt" prog_14_method_102_code z.1 z.2 && decide (decode prog_14_method_102_code z.1 = .ok (z.2.ins, z.2.len))) = true := by decide +kernel
