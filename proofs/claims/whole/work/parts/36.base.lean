/-! First contracts: the small methods of the model. -/
def bI (b : Bool) : Int32 := bif b then 1 else 0
theorem bI_B (b : Bool) : isB (bI b) = true := by cases b <;> decide
theorem bI_0 (b : Bool) : decide (bI b = 0) = !b := by cases b <;> decide
theorem bI_1 (b : Bool) : decide (bI b = 1) = b := by cases b <;> decide
theorem bI_ne0 (b : Bool) : (!decide (bI b = 0)) = b := by cases b <;> decide
theorem lgl (x y : Int64) : decide (lg_cmp x y < 0) = decide (x < y) := by rw [decide_eq_decide]; exact lg_cmp_lt x y
theorem lgg (x y : Int64) : decide (0 < lg_cmp x y) = decide (y < x) := by rw [decide_eq_decide]; exact lg_cmp_gt x y
theorem cM_in (d : Nat) (h : AH) (a b c : Int64) : call PGM (d + 1) yM_in [.long a, .long b, .long c] h = some (some (.int (bI (decide (b ≤ a) && decide (a ≤ c)))), h) := by
  rw [kM_in, eM_in_0, lgl, lgg]
  by_cases h1 : a < b
  · have h2 : ¬ b ≤ a := Int64.not_le.mpr h1
    simp [h1, h2, bI]
  · have h2 : b ≤ a := Int64.not_lt.mp h1
    by_cases h3 : c < a
    · have h4 : ¬ a ≤ c := Int64.not_le.mpr h3
      simp [h1, h2, h3, h4, bI]
    · have h4 : a ≤ c := Int64.not_lt.mp h3
      simp [h1, h2, h3, h4, bI]
theorem wle (a b : Int32) : decide (a.toInt64 ≤ b.toInt64) = decide (a ≤ b) := by
  rw [decide_eq_decide, Int64.le_iff_toInt_le, Int32.le_iff_toInt_le, Int32.toInt_toInt64, Int32.toInt_toInt64]
theorem cM_inI (d : Nat) (h : AH) (a b c : Int32) : call PGM (d + 1) yM_in [.long a.toInt64, .long b.toInt64, .long c.toInt64] h = some (some (.int (bI (decide (b ≤ a) && decide (a ≤ c)))), h) := by
  rw [cM_in, wle, wle]
theorem cM_whereIs (d : Nat) (Z : ZT) (M : MS) (j : Nat) (hj : j < 80) : call PGM (d + 1) yM_whereIs [.ref 91, .int (nI j)] (hM Z M) = some (some (.int (M.1 0 (99 + 4 * j + 1))), hM Z M) := by
  rw [kM_whereIs, eM_whereIs_0]
  have e0 : (99 : Int32) + 4 * nI j + 1 = nI (99 + 4 * j + 1) := by
    rw [show (99 : Int32) = nI 99 from rfl, show (4 : Int32) = nI 4 from rfl, show (1 : Int32) = nI 1 from rfl, pk_mul, nI_add, nI_add]
  rw [e0, inb_nI (by omega), nclamp (by omega), bif_t (by omega)]
theorem cM_isUnder (d : Nat) (h : AH) (a b : Int32) : call PGM (d + 1) yM_isUnder [.int a, .int b] h = some (some (.int (bI (decide (a = b) || (decide (b = 0) && decide (a < 8)) || (decide (b = 1) && (decide (a = 4) || decide (a = 5))) || (decide (b = 2) && decide (a = 7)) || (decide (b = 3) && decide (a = 6))))), h) := by
  rw [kM_isUnder, eM_isUnder_0]
  by_cases h0 : a = b
  · simp [h0, bI]
  · by_cases h1 : b = 0
    · subst h1
      by_cases h2 : a < 8
      · simp [h0, h2, bI]
      · simp [h0, h2, bI]
    · by_cases h2 : b = 1
      · subst h2
        by_cases h3 : a = 4
        · subst h3; simp_all [bI]
        · by_cases h4 : a = 5
          · subst h4; simp_all [bI]
          · simp_all [bI]
      · by_cases h3 : b = 2
        · subst h3
          by_cases h4 : a = 7
          · subst h4; simp_all [bI]
          · simp_all [bI]
        · by_cases h4 : b = 3
          · subst h4
            by_cases h5 : a = 6
            · subst h5; simp_all [bI]
            · simp_all [bI]
          · simp_all [bI]
theorem bI_0n (b : Bool) : decide (bI b = nI 0) = !b := bI_0 b
theorem bI_1n (b : Bool) : decide (bI b = nI 1) = b := bI_1 b
