/-! the instructions, decoded and checked -/
theorem cm_257 : aiT_257.all (fun z => ai_chk aiRc aiArr aiPl_MirrorWorksModel "meet" prog_14_method_45_code z.1 z.2 && decide (decode prog_14_method_45_code z.1 = .ok (z.2.ins, z.2.len))) = true := by decide +kernel
theorem cm_258 : aiT_258.all (fun z => ai_chk aiRc aiArr aiPl_MirrorWorksModel "isOther" prog_14_method_21_code z.1 z.2 && decide (decode prog_14_method_21_code z.1 = .ok (z.2.ins, z.2.len))) = true := by decide +kernel
theorem cm_259 : aiT_259.all (fun z => ai_chk aiRc aiArr aiPl_MirrorWorksModel "isAlike" prog_14_method_20_code z.1 z.2 && decide (decode prog_14_method_20_code z.1 = .ok (z.2.ins, z.2.len))) = true := by decide +kernel
theorem cm_260 : aiT_260.all (fun z => ai_chk aiRc aiArr aiPl_MirrorWorksModel "planSession" prog_14_method_47_code z.1 z.2 && decide (decode prog_14_method_47_code z.1 = .ok (z.2.ins, z.2.len))) = true := by decide +kernel
theorem cm_261 : aiT_261.all (fun z => ai_chk aiRc aiArr aiPl_MirrorWorksModel "startPlan" prog_14_method_31_code z.1 z.2 && decide (decode prog_14_method_31_code z.1 = .ok (z.2.ins, z.2.len))) = true := by decide +kernel
theorem cm_262 : aiT_262.all (fun z => ai_chk aiRc aiArr aiPl_MirrorWorksModel "plan" prog_14_method_30_code z.1 z.2 && decide (decode prog_14_method_30_code z.1 = .ok (z.2.ins, z.2.len))) = true := by decide +kernel
theorem cm_263 : aiT_263.all (fun z => ai_chk aiRc aiArr aiPl_MirrorWorksModel "prune" prog_14_method_54_code z.1 z.2 && decide (decode prog_14_method_54_code z.1 = .ok (z.2.ins, z.2.len))) = true := by decide +kernel
