/-! the instructions, decoded and checked -/
theorem cm_285_1 : aiT_285_1.all (fun z => ai_chk aiRc aiArr aiPl_MirrorWorksModel "block" prog_14_method_73_code z.1 z.2 && decide (decode prog_14_method_73_code z.1 = .ok (z.2.ins, z.2.len))) = true := by decide +kernel
theorem cm_285_2 : aiT_285_2.all (fun z => ai_chk aiRc aiArr aiPl_MirrorWorksModel "block" prog_14_method_73_code z.1 z.2 && decide (decode prog_14_method_73_code z.1 = .ok (z.2.ins, z.2.len))) = true := by decide +kernel
theorem cm_286 : aiT_286.all (fun z => ai_chk aiRc aiArr aiPl_MirrorWorksModel "padded" prog_14_method_72_code z.1 z.2 && decide (decode prog_14_method_72_code z.1 = .ok (z.2.ins, z.2.len))) = true := by decide +kernel
theorem cm_287 : aiT_287.all (fun z => ai_chk aiRc aiArr aiPl_MirrorWorksModel "turned" prog_14_method_71_code z.1 z.2 && decide (decode prog_14_method_71_code z.1 = .ok (z.2.ins, z.2.len))) = true := by decide +kernel
theorem cm_288 : aiT_288.all (fun z => ai_chk aiRc aiArr aiPl_MirrorWorksModel "about" prog_14_method_75_code z.1 z.2 && decide (decode prog_14_method_75_code z.1 = .ok (z.2.ins, z.2.len))) = true := by decide +kernel
