/-! the instructions, decoded and checked -/
theorem cm_214_3 : aiT_214_3.all (fun z => ai_chk aiRc aiArr aiPl_MirrorWorksModel "<init>" prog_14_method_1_code z.1 z.2 && decide (decode prog_14_method_1_code z.1 = .ok (z.2.ins, z.2.len))) = true := by decide +kernel
