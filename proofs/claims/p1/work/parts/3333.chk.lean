/-! the instructions, decoded and checked -/
theorem cm_254 : aiT_254.all (fun z => ai_chk aiRc aiArr aiPl_MirrorWorksModel "findTree" prog_14_method_44_code z.1 z.2 && decide (decode prog_14_method_44_code z.1 = .ok (z.2.ins, z.2.len))) = true := by decide +kernel
theorem cm_255 : aiT_255.all (fun z => ai_chk aiRc aiArr aiPl_MirrorWorksModel "order" prog_14_method_10_code z.1 z.2 && decide (decode prog_14_method_10_code z.1 = .ok (z.2.ins, z.2.len))) = true := by decide +kernel
theorem cm_256 : aiT_256.all (fun z => ai_chk aiRc aiArr aiPl_MirrorWorksModel "findChanges" prog_14_method_46_code z.1 z.2 && decide (decode prog_14_method_46_code z.1 = .ok (z.2.ins, z.2.len))) = true := by decide +kernel
