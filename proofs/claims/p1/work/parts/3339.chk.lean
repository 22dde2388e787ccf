/-! the instructions, decoded and checked -/
theorem cm_289 : aiT_289.all (fun z => ai_chk aiRc aiArr aiPl_MirrorWorksModel "disk" prog_14_method_77_code z.1 z.2 && decide (decode prog_14_method_77_code z.1 = .ok (z.2.ins, z.2.len))) = true := by decide +kernel
theorem cm_290 : aiT_290.all (fun z => ai_chk aiRc aiArr aiPl_MirrorWorksModel "marks" prog_14_method_76_code z.1 z.2 && decide (decode prog_14_method_76_code z.1 = .ok (z.2.ins, z.2.len))) = true := by decide +kernel
theorem cm_291 : aiT_291.all (fun z => ai_chk aiRc aiArr aiPl_MirrorWorksModel "session" prog_14_method_78_code z.1 z.2 && decide (decode prog_14_method_78_code z.1 = .ok (z.2.ins, z.2.len))) = true := by decide +kernel
theorem cm_292 : aiT_292.all (fun z => ai_chk aiRc aiArr aiPl_MirrorWorksModel "command" prog_14_method_100_code z.1 z.2 && decide (decode prog_14_method_100_code z.1 = .ok (z.2.ins, z.2.len))) = true := by decide +kernel
theorem cm_293 : aiT_293.all (fun z => ai_chk aiRc aiArr aiPl_MirrorWorksModel "findWords" prog_14_method_79_code z.1 z.2 && decide (decode prog_14_method_79_code z.1 = .ok (z.2.ins, z.2.len))) = true := by decide +kernel
theorem cm_294 : aiT_294.all (fun z => ai_chk aiRc aiArr aiPl_MirrorWorksModel "word" prog_14_method_80_code z.1 z.2 && decide (decode prog_14_method_80_code z.1 = .ok (z.2.ins, z.2.len))) = true := by decide +kernel
theorem cm_295 : aiT_295.all (fun z => ai_chk aiRc aiArr aiPl_MirrorWorksModel "run" prog_14_method_99_code z.1 z.2 && decide (decode prog_14_method_99_code z.1 = .ok (z.2.ins, z.2.len))) = true := by decide +kernel
