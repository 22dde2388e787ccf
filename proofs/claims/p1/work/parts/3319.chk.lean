/-! the instructions, decoded and checked -/
theorem cm_164 : aiT_164.all (fun z => ai_chk aiRc aiArr aiPl_MirrorWorks_Plan "planUndoing" prog_7_method_18_code z.1 z.2 && decide (decode prog_7_method_18_code z.1 = .ok (z.2.ins, z.2.len))) = true := by decide +kernel
theorem cm_165 : aiT_165.all (fun z => ai_chk aiRc aiArr aiPl_MirrorWorks_Plan "planFinishing" prog_7_method_19_code z.1 z.2 && decide (decode prog_7_method_19_code z.1 = .ok (z.2.ins, z.2.len))) = true := by decide +kernel
theorem cm_166 : aiT_166.all (fun z => ai_chk aiRc aiArr aiPl_MirrorWorksLaw "step" method_11_code z.1 z.2 && decide (decode method_11_code z.1 = .ok (z.2.ins, z.2.len))) = true := by decide +kernel
theorem cm_167 : aiT_167.all (fun z => ai_chk aiRc aiArr aiPl_MirrorWorks "step" prog_1_method_25_code z.1 z.2 && decide (decode prog_1_method_25_code z.1 = .ok (z.2.ins, z.2.len))) = true := by decide +kernel
theorem cm_168 : aiT_168.all (fun z => ai_chk aiRc aiArr aiPl_MirrorWorks "advance" prog_1_method_26_code z.1 z.2 && decide (decode prog_1_method_26_code z.1 = .ok (z.2.ins, z.2.len))) = true := by decide +kernel
theorem cm_169 : aiT_169.all (fun z => ai_chk aiRc aiArr aiPl_MirrorWorks_Plan "perform" prog_7_method_4_code z.1 z.2 && decide (decode prog_7_method_4_code z.1 = .ok (z.2.ins, z.2.len))) = true := by decide +kernel
theorem cm_170 : aiT_170.all (fun z => ai_chk aiRc aiArr aiPl_MirrorWorks_Drive "take" prog_4_method_8_code z.1 z.2 && decide (decode prog_4_method_8_code z.1 = .ok (z.2.ins, z.2.len))) = true := by decide +kernel
theorem cm_171 : aiT_171.all (fun z => ai_chk aiRc aiArr aiPl_java_util_ArrayList "remove" prog_32_method_29_code z.1 z.2 && decide (decode prog_32_method_29_code z.1 = .ok (z.2.ins, z.2.len))) = true := by decide +kernel
theorem cm_172 : aiT_172.all (fun z => ai_chk aiRc aiArr aiPl_java_util_ArrayList "fastRemove" prog_32_method_39_code z.1 z.2 && decide (decode prog_32_method_39_code z.1 = .ok (z.2.ins, z.2.len))) = true := by decide +kernel
