/-! Tables counted out by the kernel. -/
theorem tchk_12 : (List.range' 156 9).all tchk = true := by decide +kernel
theorem tchk_13 : (List.range' 165 9).all tchk = true := by decide +kernel
theorem tchk_14 : (List.range' 174 12).all tchk = true := by decide +kernel
theorem tchk_15 : (List.range' 186 5).all tchk = true := by decide +kernel
theorem tchk_16 : (List.range' 191 5).all tchk = true := by decide +kernel
theorem tchk_17 : (List.range' 196 13).all tchk = true := by decide +kernel
