/-! The table of the law, counted out by the kernel in pieces. -/
theorem lchk_0 : (List.range' 0 60).all (entOK 0) = true := by decide +kernel
theorem lchk_1 : (List.range' 60 60).all (entOK 0) = true := by decide +kernel
theorem lchk_2 : (List.range' 120 60).all (entOK 0) = true := by decide +kernel
theorem lchk_3 : (List.range' 180 60).all (entOK 0) = true := by decide +kernel
theorem lchk_4 : (List.range' 240 60).all (entOK 0) = true := by decide +kernel
theorem lchk_5 : (List.range' 300 60).all (entOK 0) = true := by decide +kernel
theorem lchk_6 : (List.range' 360 60).all (entOK 0) = true := by decide +kernel
theorem lchk_7 : (List.range' 420 60).all (entOK 0) = true := by decide +kernel
theorem lchk_8 : (List.range' 480 60).all (entOK 0) = true := by decide +kernel
theorem lchk_9 : (List.range' 540 60).all (entOK 0) = true := by decide +kernel
theorem lchk_10 : (List.range' 600 60).all (entOK 0) = true := by decide +kernel
theorem lchk_11 : (List.range' 660 60).all (entOK 0) = true := by decide +kernel
theorem lchk_12 : (List.range' 720 60).all (entOK 0) = true := by decide +kernel
theorem lchk_13 : (List.range' 780 60).all (entOK 0) = true := by decide +kernel
theorem lchk_14 : (List.range' 840 60).all (entOK 0) = true := by decide +kernel
theorem lchk_15 : (List.range' 900 60).all (entOK 0) = true := by decide +kernel
theorem lchk_16 : (List.range' 960 60).all (entOK 0) = true := by decide +kernel
theorem lchk_17 : (List.range' 1020 60).all (entOK 0) = true := by decide +kernel
theorem lchk_18 : (List.range' 1080 60).all (entOK 0) = true := by decide +kernel
theorem lchk_19 : (List.range' 1140 60).all (entOK 0) = true := by decide +kernel
theorem lchk_20 : (List.range' 1200 60).all (entOK 0) = true := by decide +kernel
theorem lchk_21 : (List.range' 1260 60).all (entOK 0) = true := by decide +kernel
theorem lchk_22 : (List.range' 1320 60).all (entOK 0) = true := by decide +kernel
theorem lchk_23 : (List.range' 1380 22).all (entOK 0) = true := by decide +kernel
theorem tchk_law : tchk 0 = true := by
  refine List.all_eq_true.mpr (fun pc hpc => ?_)
  have hl : pc < 1402 := List.mem_range.mp hpc
  by_cases h0 : pc < 60
  · exact List.all_eq_true.mp lchk_0 pc (List.mem_range'_1.mpr ⟨by omega, by omega⟩)
  by_cases h1 : pc < 120
  · exact List.all_eq_true.mp lchk_1 pc (List.mem_range'_1.mpr ⟨by omega, by omega⟩)
  by_cases h2 : pc < 180
  · exact List.all_eq_true.mp lchk_2 pc (List.mem_range'_1.mpr ⟨by omega, by omega⟩)
  by_cases h3 : pc < 240
  · exact List.all_eq_true.mp lchk_3 pc (List.mem_range'_1.mpr ⟨by omega, by omega⟩)
  by_cases h4 : pc < 300
  · exact List.all_eq_true.mp lchk_4 pc (List.mem_range'_1.mpr ⟨by omega, by omega⟩)
  by_cases h5 : pc < 360
  · exact List.all_eq_true.mp lchk_5 pc (List.mem_range'_1.mpr ⟨by omega, by omega⟩)
  by_cases h6 : pc < 420
  · exact List.all_eq_true.mp lchk_6 pc (List.mem_range'_1.mpr ⟨by omega, by omega⟩)
  by_cases h7 : pc < 480
  · exact List.all_eq_true.mp lchk_7 pc (List.mem_range'_1.mpr ⟨by omega, by omega⟩)
  by_cases h8 : pc < 540
  · exact List.all_eq_true.mp lchk_8 pc (List.mem_range'_1.mpr ⟨by omega, by omega⟩)
  by_cases h9 : pc < 600
  · exact List.all_eq_true.mp lchk_9 pc (List.mem_range'_1.mpr ⟨by omega, by omega⟩)
  by_cases h10 : pc < 660
  · exact List.all_eq_true.mp lchk_10 pc (List.mem_range'_1.mpr ⟨by omega, by omega⟩)
  by_cases h11 : pc < 720
  · exact List.all_eq_true.mp lchk_11 pc (List.mem_range'_1.mpr ⟨by omega, by omega⟩)
  by_cases h12 : pc < 780
  · exact List.all_eq_true.mp lchk_12 pc (List.mem_range'_1.mpr ⟨by omega, by omega⟩)
  by_cases h13 : pc < 840
  · exact List.all_eq_true.mp lchk_13 pc (List.mem_range'_1.mpr ⟨by omega, by omega⟩)
  by_cases h14 : pc < 900
  · exact List.all_eq_true.mp lchk_14 pc (List.mem_range'_1.mpr ⟨by omega, by omega⟩)
  by_cases h15 : pc < 960
  · exact List.all_eq_true.mp lchk_15 pc (List.mem_range'_1.mpr ⟨by omega, by omega⟩)
  by_cases h16 : pc < 1020
  · exact List.all_eq_true.mp lchk_16 pc (List.mem_range'_1.mpr ⟨by omega, by omega⟩)
  by_cases h17 : pc < 1080
  · exact List.all_eq_true.mp lchk_17 pc (List.mem_range'_1.mpr ⟨by omega, by omega⟩)
  by_cases h18 : pc < 1140
  · exact List.all_eq_true.mp lchk_18 pc (List.mem_range'_1.mpr ⟨by omega, by omega⟩)
  by_cases h19 : pc < 1200
  · exact List.all_eq_true.mp lchk_19 pc (List.mem_range'_1.mpr ⟨by omega, by omega⟩)
  by_cases h20 : pc < 1260
  · exact List.all_eq_true.mp lchk_20 pc (List.mem_range'_1.mpr ⟨by omega, by omega⟩)
  by_cases h21 : pc < 1320
  · exact List.all_eq_true.mp lchk_21 pc (List.mem_range'_1.mpr ⟨by omega, by omega⟩)
  by_cases h22 : pc < 1380
  · exact List.all_eq_true.mp lchk_22 pc (List.mem_range'_1.mpr ⟨by omega, by omega⟩)
  by_cases h23 : pc < 1402
  · exact List.all_eq_true.mp lchk_23 pc (List.mem_range'_1.mpr ⟨by omega, by omega⟩)
  exact absurd hl h23
