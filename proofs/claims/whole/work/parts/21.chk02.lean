/-! Tables counted out by the kernel. -/
theorem tchk_6 : (List.range' 85 10).all tchk = true := by decide +kernel
theorem tchk_7 : (List.range' 95 14).all tchk = true := by decide +kernel
theorem tchk_8 : (List.range' 109 11).all tchk = true := by decide +kernel
theorem tchk_9 : (List.range' 120 11).all tchk = true := by decide +kernel
theorem tchk_10 : (List.range' 131 15).all tchk = true := by decide +kernel
theorem tchk_11 : (List.range' 146 10).all tchk = true := by decide +kernel
