/-! Tables counted out by the kernel. -/
theorem tchk_18 : (List.range' 209 10).all tchk = true := by decide +kernel
theorem tchk_19 : (List.range' 219 15).all tchk = true := by decide +kernel
theorem tchk_20 : (List.range' 234 4).all tchk = true := by decide +kernel
theorem tchk_all : ∀ y, y < 238 → tchk y = true := by
  intro y hy
  by_cases hz : y = 0
  · rw [hz]; exact tchk_law
  by_cases h0 : y < 14
  · exact List.all_eq_true.mp tchk_0 y (List.mem_range'_1.mpr ⟨by omega, by omega⟩)
  by_cases h1 : y < 32
  · exact List.all_eq_true.mp tchk_1 y (List.mem_range'_1.mpr ⟨by omega, by omega⟩)
  by_cases h2 : y < 50
  · exact List.all_eq_true.mp tchk_2 y (List.mem_range'_1.mpr ⟨by omega, by omega⟩)
  by_cases h3 : y < 64
  · exact List.all_eq_true.mp tchk_3 y (List.mem_range'_1.mpr ⟨by omega, by omega⟩)
  by_cases h4 : y < 76
  · exact List.all_eq_true.mp tchk_4 y (List.mem_range'_1.mpr ⟨by omega, by omega⟩)
  by_cases h5 : y < 85
  · exact List.all_eq_true.mp tchk_5 y (List.mem_range'_1.mpr ⟨by omega, by omega⟩)
  by_cases h6 : y < 95
  · exact List.all_eq_true.mp tchk_6 y (List.mem_range'_1.mpr ⟨by omega, by omega⟩)
  by_cases h7 : y < 109
  · exact List.all_eq_true.mp tchk_7 y (List.mem_range'_1.mpr ⟨by omega, by omega⟩)
  by_cases h8 : y < 120
  · exact List.all_eq_true.mp tchk_8 y (List.mem_range'_1.mpr ⟨by omega, by omega⟩)
  by_cases h9 : y < 131
  · exact List.all_eq_true.mp tchk_9 y (List.mem_range'_1.mpr ⟨by omega, by omega⟩)
  by_cases h10 : y < 146
  · exact List.all_eq_true.mp tchk_10 y (List.mem_range'_1.mpr ⟨by omega, by omega⟩)
  by_cases h11 : y < 156
  · exact List.all_eq_true.mp tchk_11 y (List.mem_range'_1.mpr ⟨by omega, by omega⟩)
  by_cases h12 : y < 165
  · exact List.all_eq_true.mp tchk_12 y (List.mem_range'_1.mpr ⟨by omega, by omega⟩)
  by_cases h13 : y < 174
  · exact List.all_eq_true.mp tchk_13 y (List.mem_range'_1.mpr ⟨by omega, by omega⟩)
  by_cases h14 : y < 186
  · exact List.all_eq_true.mp tchk_14 y (List.mem_range'_1.mpr ⟨by omega, by omega⟩)
  by_cases h15 : y < 191
  · exact List.all_eq_true.mp tchk_15 y (List.mem_range'_1.mpr ⟨by omega, by omega⟩)
  by_cases h16 : y < 196
  · exact List.all_eq_true.mp tchk_16 y (List.mem_range'_1.mpr ⟨by omega, by omega⟩)
  by_cases h17 : y < 209
  · exact List.all_eq_true.mp tchk_17 y (List.mem_range'_1.mpr ⟨by omega, by omega⟩)
  by_cases h18 : y < 219
  · exact List.all_eq_true.mp tchk_18 y (List.mem_range'_1.mpr ⟨by omega, by omega⟩)
  by_cases h19 : y < 234
  · exact List.all_eq_true.mp tchk_19 y (List.mem_range'_1.mpr ⟨by omega, by omega⟩)
  by_cases h20 : y < 238
  · exact List.all_eq_true.mp tchk_20 y (List.mem_range'_1.mpr ⟨by omega, by omega⟩)
  exact absurd hy h20
