/-! Contracts of the model: reads of people and beasts. -/
theorem cM_kindOf (d : Nat) (Z : ZT) (M : MS) (j : Nat) (hj : j < 80) : call PGM (d + 1) yM_kindOf [.ref 91, .int (nI j)] (hM Z M) = some (some (.int (M.1 0 (99 + 4 * j))), hM Z M) := by
  rw [kM_kindOf, eM_kindOf_0]
  simp (disch := omega) only [l99, l4, pk_mul, nI_add, inb_nI, nclamp, bif_t]
theorem cM_whereBeast (d : Nat) (Z : ZT) (M : MS) (j : Nat) (hj : j < 80) : call PGM (d + 1) yM_whereBeast [.ref 91, .int (nI j)] (hM Z M) = some (some (.int (M.1 0 (179 + 3 * j))), hM Z M) := by
  rw [kM_whereBeast, eM_whereBeast_0]
  simp (disch := omega) only [l179, l3, pk_mul, nI_add, inb_nI, nclamp, bif_t]
theorem cM_isAlone (d : Nat) (Z : ZT) (M : MS) (j : Nat) (hj : j < 80) : call PGM (d + 1) yM_isAlone [.ref 91, .int (nI j)] (hM Z M) = some (some (.int (bI (decide (M.1 0 (179 + 3 * j + 2) = 1)))), hM Z M) := by
  rw [kM_isAlone, eM_isAlone_0]
  have e0 : (179 : Int32) + 3 * nI j + 2 = nI (179 + 3 * j + 2) := by
    rw [l179, l3, l2, pk_mul, nI_add, nI_add]
  rw [e0, inb_nI (by omega), nclamp (by omega), bif_t (by omega)]
  by_cases h : M.1 0 (179 + 3 * j + 2) = 1 <;> simp [h, bI]
/-- how many PEOPLE are in a CELL -/
def crN (s : Nat → Int32) (c : Int32) : Nat → Nat := cnt (fun p => decide (s (99 + 4 * p + 1) = c))
theorem cM_crowd (d : Nat) (Z : ZT) (M : MS) (c : Int32) (np : Nat) (h1 : M.1 0 1 = nI np) (hnp : np ≤ 20) : call PGM (d + 2) yM_crowd [.ref 91, .int c] (hM Z M) = some (some (.int (nI (crN (M.1 0) c np))), hM Z M) := by
  have loop : ∀ (k j : Nat), j + k = np → sem PGM (d + 1) yM_crowd (4, [some (.ref 91), some (.int c), some (.int (nI (crN (M.1 0) c j))), some (.int (nI j))], [], hM Z M) = some (some (.int (nI (crN (M.1 0) c np))), hM Z M) := by
    intro k
    induction k with
    | zero =>
      intro j hj
      rw [eM_crowd_4, h1, dle (by omega) (by omega), bif_t (by omega), show j = np by omega]
    | succ k ih =>
      intro j hj
      rw [eM_crowd_4, h1, dle (by omega) (by omega), bif_f (by omega), cM_whereIs d Z M j (by omega), aft1, eM_crowd_20]
      have hs : nI j + 1 = nI (j + 1) := nI_1 j
      by_cases hc : M.1 0 (99 + 4 * j + 1) = c
      · have e1 : nI (crN (M.1 0) c j) + 1 = nI (crN (M.1 0) c (j + 1)) := by
          rw [nI_1]
          simp [crN, cnt, hc]
        rw [hc]
        simp only [decide_true, Bool.not_true, cond_false]
        rw [hs, e1]
        exact ih (j + 1) (by omega)
      · have e1 : nI (crN (M.1 0) c j) + 0 = nI (crN (M.1 0) c (j + 1)) := by
          rw [l0, nI_add]
          simp [crN, cnt, hc]
        simp only [hc, decide_false, Bool.not_false, cond_true]
        rw [hs, e1]
        exact ih (j + 1) (by omega)
  rw [kM_crowd, eM_crowd_0]
  exact loop np 0 (by omega)
