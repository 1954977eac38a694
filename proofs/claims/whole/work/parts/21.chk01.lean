/-! Tables counted out by the kernel. -/
theorem tchk_0 : (List.range' 1 13).all tchk = true := by decide +kernel
theorem tchk_1 : (List.range' 14 18).all tchk = true := by decide +kernel
theorem tchk_2 : (List.range' 32 18).all tchk = true := by decide +kernel
theorem tchk_3 : (List.range' 50 14).all tchk = true := by decide +kernel
theorem tchk_4 : (List.range' 64 12).all tchk = true := by decide +kernel
theorem tchk_5 : (List.range' 76 9).all tchk = true := by decide +kernel
