/-! Contracts of the model: counts, facts. -/
theorem down {P : Nat → Prop} {n : Nat} (he : P n) (hs : ∀ j, j < n → P (j + 1) → P j) : ∀ j, j ≤ n → P j := by
  intro j hj
  have h : ∀ k j, j + k = n → P j := by
    intro k
    induction k with
    | zero => intro j hj; rw [show j = n by omega]; exact he
    | succ k ih => intro j hj; exact hs j (by omega) (ih (j + 1) (by omega))
  exact h (n - j) j (by omega)
/-- a KIND under another -/
def under (a b : Int32) : Bool := decide (a = b) || (decide (b = 0) && decide (a < 8)) || (decide (b = 1) && (decide (a = 4) || decide (a = 5))) || (decide (b = 2) && decide (a = 7)) || (decide (b = 3) && decide (a = 6))
theorem cM_under (d : Nat) (h : AH) (a b : Int32) : call PGM (d + 1) yM_isUnder [.int a, .int b] h = some (some (.int (bI (under a b))), h) := cM_isUnder d h a b
/-- fallen ones in a CELL -/
def faN (s : Nat → Int32) (c : Int32) : Nat → Nat := cnt (fun p => decide (s (99 + 4 * p + 1) = c) && under (s (99 + 4 * p)) 3)
theorem cM_fallenIn (d : Nat) (Z : ZT) (M : MS) (c : Int32) (np : Nat) (h1 : M.1 0 1 = nI np) (hnp : np ≤ 20) : call PGM (d + 2) yM_fallenIn [.ref 91, .int c] (hM Z M) = some (some (.int (nI (faN (M.1 0) c np))), hM Z M) := by
  rw [kM_fallenIn, eM_fallenIn_0]
  refine down (n := np) (P := fun j => sem PGM (d + 1) yM_fallenIn (4, [some (.ref 91), some (.int c), some (.int (nI (faN (M.1 0) c j))), some (.int (nI j))], [], hM Z M) = some (some (.int (nI (faN (M.1 0) c np))), hM Z M)) ?_ (fun j hj ih => ?_) 0 (Nat.zero_le _)
  · rw [eM_fallenIn_4, h1, dle (by omega) (by omega), bif_t (by omega)]
  · rw [eM_fallenIn_4, h1, dle (by omega) (by omega), bif_f (by omega), cM_whereIs d Z M j (by omega), aft1, eM_fallenIn_20]
    rw [← nI_1 j] at ih
    by_cases hc : M.1 0 (99 + 4 * j + 1) = c
    · simp only [hc, decide_true, Bool.not_true, cond_false]
      rw [cM_kindOf d Z M j (by omega), aft1, eM_fallenIn_29, cM_under, aft1, eM_fallenIn_33, bI_0]
      cases hu : under (M.1 0 (99 + 4 * j)) 3 with
      | true =>
        simp only [Bool.not_true, cond_false]
        have e1 : nI (faN (M.1 0) c j) + 1 = nI (faN (M.1 0) c (j + 1)) := by
          rw [nI_1]
          simp [faN, cnt, hc, hu]
        rw [e1]
        exact ih
      | false =>
        simp only [Bool.not_false, cond_true]
        have e1 : nI (faN (M.1 0) c j) + 0 = nI (faN (M.1 0) c (j + 1)) := by
          rw [l0, nI_add]
          simp [faN, cnt, hu]
        rw [e1]
        exact ih
    · simp only [hc, decide_false, Bool.not_false, cond_true]
      have e1 : nI (faN (M.1 0) c j) + 0 = nI (faN (M.1 0) c (j + 1)) := by
        rw [l0, nI_add]
        simp [faN, cnt, hc]
      rw [e1]
      exact ih
def beN (s : Nat → Int32) (c : Int32) : Nat → Nat := cnt (fun b => decide (s (179 + 3 * b) = c))
theorem cM_beastsIn (d : Nat) (Z : ZT) (M : MS) (c : Int32) (nb : Nat) (h1 : M.1 0 2 = nI nb) (hnb : nb ≤ 6) : call PGM (d + 2) yM_beastsIn [.ref 91, .int c] (hM Z M) = some (some (.int (nI (beN (M.1 0) c nb))), hM Z M) := by
  rw [kM_beastsIn, eM_beastsIn_0]
  refine down (n := nb) (P := fun j => sem PGM (d + 1) yM_beastsIn (4, [some (.ref 91), some (.int c), some (.int (nI (beN (M.1 0) c j))), some (.int (nI j))], [], hM Z M) = some (some (.int (nI (beN (M.1 0) c nb))), hM Z M)) ?_ (fun j hj ih => ?_) 0 (Nat.zero_le _)
  · rw [eM_beastsIn_4, h1, dle (by omega) (by omega), bif_t (by omega)]
  · rw [eM_beastsIn_4, h1, dle (by omega) (by omega), bif_f (by omega), cM_whereBeast d Z M j (by omega), aft1, eM_beastsIn_20]
    rw [← nI_1 j] at ih
    by_cases hc : M.1 0 (179 + 3 * j) = c
    · simp only [hc, decide_true, Bool.not_true, cond_false]
      have e1 : nI (beN (M.1 0) c j) + 1 = nI (beN (M.1 0) c (j + 1)) := by
        rw [nI_1]
        simp [beN, cnt, hc]
      rw [e1]
      exact ih
    · simp only [hc, decide_false, Bool.not_false, cond_true]
      have e1 : nI (beN (M.1 0) c j) + 0 = nI (beN (M.1 0) c (j + 1)) := by
        rw [l0, nI_add]
        simp [beN, cnt, hc]
      rw [e1]
      exact ih
/-- NEAR of a CELL, by the first BEASTS -/
def nrF (s : Nat → Int32) (c : Int32) : Nat → Int32
  | 0 => 99
  | b + 1 => bif decide (s (179 + 3 * b) < 0) then nrF s c b else bif decide (c - s (179 + 3 * b) < 0) then nrF s c b else bif decide (nrF s c b ≤ c - s (179 + 3 * b)) then nrF s c b else c - s (179 + 3 * b)
theorem cM_nearTo (d : Nat) (Z : ZT) (M : MS) (c : Int32) (nb : Nat) (h1 : M.1 0 2 = nI nb) (hnb : nb ≤ 6) : call PGM (d + 2) yM_nearTo [.ref 91, .int c] (hM Z M) = some (some (.int (nrF (M.1 0) c nb)), hM Z M) := by
  rw [kM_nearTo, eM_nearTo_0]
  refine down (n := nb) (P := fun j => ∀ u4, sem PGM (d + 1) yM_nearTo (5, [some (.ref 91), some (.int c), some (.int (nrF (M.1 0) c j)), some (.int (nI j)), u4], [], hM Z M) = some (some (.int (nrF (M.1 0) c nb)), hM Z M)) ?_ (fun j hj ih => ?_) 0 (Nat.zero_le _) none
  · intro u4
    rw [eM_nearTo_5, h1, dle (by omega) (by omega), bif_t (by omega)]
  · intro u4
    rw [eM_nearTo_5, h1, dle (by omega) (by omega), bif_f (by omega), cM_whereBeast d Z M j (by omega), aft1, eM_nearTo_21, cM_whereBeast d Z M j (by omega), aft1, eM_nearTo_29, nI_1]
    have ih' := fun u => ih u
    rw [nrF] at ih'
    cases h2 : decide (M.1 0 (179 + 3 * j) < 0) with
    | true =>
      simp only [h2, cond_true] at ih' ⊢
      exact ih' _
    | false =>
      simp only [h2, cond_false] at ih' ⊢
      cases h3 : decide (c - M.1 0 (179 + 3 * j) < 0) with
      | true =>
        simp only [h3, cond_true] at ih' ⊢
        exact ih' _
      | false =>
        simp only [h3, cond_false] at ih' ⊢
        cases h4 : decide (nrF (M.1 0) c j ≤ c - M.1 0 (179 + 3 * j)) with
        | true =>
          simp only [h4, cond_true] at ih' ⊢
          exact ih' _
        | false =>
          simp only [h4, cond_false] at ih' ⊢
          exact ih' _
/-- how many BEASTS are ALONE -/
def loN (s : Nat → Int32) : Nat → Nat := cnt (fun b => !decide (s (179 + 3 * b) < 0) && decide (s (179 + 3 * b + 2) = 1))
theorem cM_lone (d : Nat) (Z : ZT) (M : MS) (nb : Nat) (h1 : M.1 0 2 = nI nb) (hnb : nb ≤ 6) : call PGM (d + 2) yM_lone [.ref 91] (hM Z M) = some (some (.int (nI (loN (M.1 0) nb))), hM Z M) := by
  rw [kM_lone, eM_lone_0]
  refine down (n := nb) (P := fun j => sem PGM (d + 1) yM_lone (4, [some (.ref 91), some (.int (nI (loN (M.1 0) j))), some (.int (nI j))], [], hM Z M) = some (some (.int (nI (loN (M.1 0) nb))), hM Z M)) ?_ (fun j hj ih => ?_) 0 (Nat.zero_le _)
  · rw [eM_lone_4, h1, dle (by omega) (by omega), bif_t (by omega)]
  · rw [eM_lone_4, h1, dle (by omega) (by omega), bif_f (by omega), cM_whereBeast d Z M j (by omega), aft1, eM_lone_20, nI_1]
    have e0 : ∀ z : Nat, z = loN (M.1 0) (j + 1) → nI z = nI (loN (M.1 0) (j + 1)) := fun z h => by rw [h]
    cases h2 : decide (M.1 0 (179 + 3 * j) < 0) with
    | true =>
      simp only [cond_true]
      rw [l0, nI_add, e0 _ (by simp only [loN, cnt, h2]; simp)]
      exact ih
    | false =>
      simp only [cond_false]
      rw [cM_isAlone d Z M j (by omega), aft1, eM_lone_28, bI_0, nI_1]
      cases h3 : decide (M.1 0 (179 + 3 * j + 2) = 1) with
      | true =>
        simp only [Bool.not_true, cond_false]
        rw [nI_1, e0 _ (by simp only [loN, cnt, h2, h3]; simp)]
        exact ih
      | false =>
        simp only [Bool.not_false, cond_true]
        rw [l0, nI_add, e0 _ (by simp only [loN, cnt, h2, h3]; simp)]
        exact ih
