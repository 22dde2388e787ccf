/-! the instructions, decoded and checked -/
theorem cm_0_10 : aiT_0_10.all (fun z => ai_chk aiRc aiArr aiPl_MirrorWorksLaw "law" code z.1 z.2 && decide (decode code z.1 = .ok (z.2.ins, z.2.len))) = true := by decide +kernel
