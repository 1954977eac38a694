/-! The model's rows put aside and back. -/
def cpy (n : Nat) (f g : Nat → Int32) : Nat → Int32 := fun k => if k < n then f k else g k
theorem cpy_0 (f g : Nat → Int32) : cpy 0 f g = g := by
  funext k
  simp [cpy]
theorem cpy_s (n : Nat) (f g : Nat → Int32) : upd (cpy n f g) n (f n) = cpy (n + 1) f g := by
  funext k
  by_cases h : k = n
  · subst h
    simp [upd, cpy]
  · by_cases h' : k < n
    · simp [upd, cpy, h, h', show k < n + 1 by omega]
    · simp [upd, cpy, h, h', show ¬ k < n + 1 by omega]
theorem cpy_lt {n k : Nat} {f g : Nat → Int32} (h : k < n) : cpy n f g k = f k := by simp [cpy, h]
theorem cpy_eq {n : Nat} {f g : Nat → Int32} (h : ∀ k, n ≤ k → g k = f k) : cpy n f g = f := by
  funext k
  by_cases h' : k < n
  · simp [cpy, h']
  · simp [cpy, h', h k (by omega)]
theorem cM_puts (d : Nat) (Z : ZT) (M : MS) : call PGM (d + 1) yM_puts [.ref 91] (hM Z M) = some (none, hM Z (mA M 2 (cpy 437 (M.1 0) (M.1 2)))) := by
  have loop : ∀ k j, j + k = 437 → sem PGM d yM_puts (2, [some (.ref 91), some (.int (nI j))], [], hM Z (mA M 2 (cpy j (M.1 0) (M.1 2)))) = some (none, hM Z (mA M 2 (cpy 437 (M.1 0) (M.1 2)))) := by
    intro k
    induction k with
    | zero =>
      intro j hj
      rw [eM_puts_2]
      simp (disch := omega) only [l0, l1, l2, l3, l4, l5, l6, l7, l8, l9, l10, l11, l12, l13, l14, l15, l16, l17, l18, l19, l20, l21, l22, l23, l24, l25, l26, l27, l28, l29, l30, l31, l40, l48, l52, l57, l60, l65, l97, l99, l100, l102, l119, l122, l179, l197, l200, l201, l237, l436, l437, pk_mul, nI_add, inb_nI, nclamp, dlt, dle, deq, bif_t, bif_f, bif_nt, bif_nf, aft0, aft1, decide_true, decide_false, Bool.not_true, Bool.not_false, cond_true, cond_false, Nat.add_sub_cancel, Nat.add_one_sub_one, ou9, mo1, nI_MO, OU_lt, OU_ge, Nat.not_lt_zero, Bool.or_false, Bool.or_true, Bool.true_or, Bool.false_or, Bool.and_true, Bool.and_false, Bool.true_and, Bool.false_and, bI_0n, bI_1n, Bool.not_not]
      rw [show j = 437 by omega]
    | succ k ih =>
      intro j hj
      rw [eM_puts_2]
      simp (disch := omega) only [l0, l1, l2, l3, l4, l5, l6, l7, l8, l9, l10, l11, l12, l13, l14, l15, l16, l17, l18, l19, l20, l21, l22, l23, l24, l25, l26, l27, l28, l29, l30, l31, l40, l48, l52, l57, l60, l65, l97, l99, l100, l102, l119, l122, l179, l197, l200, l201, l237, l436, l437, pk_mul, nI_add, inb_nI, nclamp, dlt, dle, deq, bif_t, bif_f, bif_nt, bif_nf, aft0, aft1, decide_true, decide_false, Bool.not_true, Bool.not_false, cond_true, cond_false, Nat.add_sub_cancel, Nat.add_one_sub_one, ou9, mo1, nI_MO, OU_lt, OU_ge, Nat.not_lt_zero, Bool.or_false, Bool.or_true, Bool.true_or, Bool.false_or, Bool.and_true, Bool.and_false, Bool.true_and, Bool.false_and, bI_0n, bI_1n, Bool.not_not, mA_s, mA_n, mA_mA, eM_puts_21]
      rw [cpy_s]
      exact ih (j + 1) (by omega)
  have e := loop 437 0 (by omega)
  rw [cpy_0, mA_id] at e
  rw [kM_puts, eM_puts_0]
  exact e
theorem cM_putsBack (d : Nat) (Z : ZT) (M : MS) : call PGM (d + 1) yM_putsBack [.ref 91] (hM Z M) = some (none, hM Z (mA M 0 (cpy 437 (M.1 2) (M.1 0)))) := by
  have loop : ∀ k j, j + k = 437 → sem PGM d yM_putsBack (2, [some (.ref 91), some (.int (nI j))], [], hM Z (mA M 0 (cpy j (M.1 2) (M.1 0)))) = some (none, hM Z (mA M 0 (cpy 437 (M.1 2) (M.1 0)))) := by
    intro k
    induction k with
    | zero =>
      intro j hj
      rw [eM_putsBack_2]
      simp (disch := omega) only [l0, l1, l2, l3, l4, l5, l6, l7, l8, l9, l10, l11, l12, l13, l14, l15, l16, l17, l18, l19, l20, l21, l22, l23, l24, l25, l26, l27, l28, l29, l30, l31, l40, l48, l52, l57, l60, l65, l97, l99, l100, l102, l119, l122, l179, l197, l200, l201, l237, l436, l437, pk_mul, nI_add, inb_nI, nclamp, dlt, dle, deq, bif_t, bif_f, bif_nt, bif_nf, aft0, aft1, decide_true, decide_false, Bool.not_true, Bool.not_false, cond_true, cond_false, Nat.add_sub_cancel, Nat.add_one_sub_one, ou9, mo1, nI_MO, OU_lt, OU_ge, Nat.not_lt_zero, Bool.or_false, Bool.or_true, Bool.true_or, Bool.false_or, Bool.and_true, Bool.and_false, Bool.true_and, Bool.false_and, bI_0n, bI_1n, Bool.not_not]
      rw [show j = 437 by omega]
    | succ k ih =>
      intro j hj
      rw [eM_putsBack_2]
      simp (disch := omega) only [l0, l1, l2, l3, l4, l5, l6, l7, l8, l9, l10, l11, l12, l13, l14, l15, l16, l17, l18, l19, l20, l21, l22, l23, l24, l25, l26, l27, l28, l29, l30, l31, l40, l48, l52, l57, l60, l65, l97, l99, l100, l102, l119, l122, l179, l197, l200, l201, l237, l436, l437, pk_mul, nI_add, inb_nI, nclamp, dlt, dle, deq, bif_t, bif_f, bif_nt, bif_nf, aft0, aft1, decide_true, decide_false, Bool.not_true, Bool.not_false, cond_true, cond_false, Nat.add_sub_cancel, Nat.add_one_sub_one, ou9, mo1, nI_MO, OU_lt, OU_ge, Nat.not_lt_zero, Bool.or_false, Bool.or_true, Bool.true_or, Bool.false_or, Bool.and_true, Bool.and_false, Bool.true_and, Bool.false_and, bI_0n, bI_1n, Bool.not_not, mA_s, mA_n, mA_mA, eM_putsBack_21]
      rw [cpy_s]
      exact ih (j + 1) (by omega)
  have e := loop 437 0 (by omega)
  rw [cpy_0, mA_id] at e
  rw [kM_putsBack, eM_putsBack_0]
  exact e
theorem cM_keep (d : Nat) (Z : ZT) (M : MS) : call PGM (d + 1) yM_keep [.ref 91] (hM Z M) = some (some (.int 1), hM Z (mV (mA M 1 (cpy 437 (M.1 0) (M.1 1))) 0 1)) := by
  have loop : ∀ k j, j + k = 437 → sem PGM d yM_keep (2, [some (.ref 91), some (.int (nI j))], [], hM Z (mA M 1 (cpy j (M.1 0) (M.1 1)))) = some (some (.int 1), hM Z (mV (mA M 1 (cpy 437 (M.1 0) (M.1 1))) 0 1)) := by
    intro k
    induction k with
    | zero =>
      intro j hj
      rw [eM_keep_2]
      simp (disch := omega) only [l0, l1, l2, l3, l4, l5, l6, l7, l8, l9, l10, l11, l12, l13, l14, l15, l16, l17, l18, l19, l20, l21, l22, l23, l24, l25, l26, l27, l28, l29, l30, l31, l40, l48, l52, l57, l60, l65, l97, l99, l100, l102, l119, l122, l179, l197, l200, l201, l237, l436, l437, pk_mul, nI_add, inb_nI, nclamp, dlt, dle, deq, bif_t, bif_f, bif_nt, bif_nf, aft0, aft1, decide_true, decide_false, Bool.not_true, Bool.not_false, cond_true, cond_false, Nat.add_sub_cancel, Nat.add_one_sub_one, ou9, mo1, nI_MO, OU_lt, OU_ge, Nat.not_lt_zero, Bool.or_false, Bool.or_true, Bool.true_or, Bool.false_or, Bool.and_true, Bool.and_false, Bool.true_and, Bool.false_and, bI_0n, bI_1n, Bool.not_not]
      rw [show j = 437 by omega]
    | succ k ih =>
      intro j hj
      rw [eM_keep_2]
      simp (disch := omega) only [l0, l1, l2, l3, l4, l5, l6, l7, l8, l9, l10, l11, l12, l13, l14, l15, l16, l17, l18, l19, l20, l21, l22, l23, l24, l25, l26, l27, l28, l29, l30, l31, l40, l48, l52, l57, l60, l65, l97, l99, l100, l102, l119, l122, l179, l197, l200, l201, l237, l436, l437, pk_mul, nI_add, inb_nI, nclamp, dlt, dle, deq, bif_t, bif_f, bif_nt, bif_nf, aft0, aft1, decide_true, decide_false, Bool.not_true, Bool.not_false, cond_true, cond_false, Nat.add_sub_cancel, Nat.add_one_sub_one, ou9, mo1, nI_MO, OU_lt, OU_ge, Nat.not_lt_zero, Bool.or_false, Bool.or_true, Bool.true_or, Bool.false_or, Bool.and_true, Bool.and_false, Bool.true_and, Bool.false_and, bI_0n, bI_1n, Bool.not_not, mA_s, mA_n, mA_mA, eM_keep_21]
      rw [cpy_s]
      exact ih (j + 1) (by omega)
  have e := loop 437 0 (by omega)
  rw [cpy_0, mA_id] at e
  rw [kM_keep, eM_keep_0]
  exact e
theorem cM_again (d : Nat) (Z : ZT) (M : MS) (h : M.2 0 = nI 1) : call PGM (d + 1) yM_again [.ref 91] (hM Z M) = some (some (.int 1), hM Z (mA M 0 (cpy 437 (M.1 1) (M.1 0)))) := by
  have loop : ∀ k j, j + k = 437 → sem PGM d yM_again (12, [some (.ref 91), some (.int (nI j))], [], hM Z (mA M 0 (cpy j (M.1 1) (M.1 0)))) = some (some (.int 1), hM Z (mA M 0 (cpy 437 (M.1 1) (M.1 0)))) := by
    intro k
    induction k with
    | zero =>
      intro j hj
      rw [eM_again_12]
      simp (disch := omega) only [l0, l1, l2, l3, l4, l5, l6, l7, l8, l9, l10, l11, l12, l13, l14, l15, l16, l17, l18, l19, l20, l21, l22, l23, l24, l25, l26, l27, l28, l29, l30, l31, l40, l48, l52, l57, l60, l65, l97, l99, l100, l102, l119, l122, l179, l197, l200, l201, l237, l436, l437, pk_mul, nI_add, inb_nI, nclamp, dlt, dle, deq, bif_t, bif_f, bif_nt, bif_nf, aft0, aft1, decide_true, decide_false, Bool.not_true, Bool.not_false, cond_true, cond_false, Nat.add_sub_cancel, Nat.add_one_sub_one, ou9, mo1, nI_MO, OU_lt, OU_ge, Nat.not_lt_zero, Bool.or_false, Bool.or_true, Bool.true_or, Bool.false_or, Bool.and_true, Bool.and_false, Bool.true_and, Bool.false_and, bI_0n, bI_1n, Bool.not_not]
      rw [show j = 437 by omega]
    | succ k ih =>
      intro j hj
      rw [eM_again_12]
      simp (disch := omega) only [l0, l1, l2, l3, l4, l5, l6, l7, l8, l9, l10, l11, l12, l13, l14, l15, l16, l17, l18, l19, l20, l21, l22, l23, l24, l25, l26, l27, l28, l29, l30, l31, l40, l48, l52, l57, l60, l65, l97, l99, l100, l102, l119, l122, l179, l197, l200, l201, l237, l436, l437, pk_mul, nI_add, inb_nI, nclamp, dlt, dle, deq, bif_t, bif_f, bif_nt, bif_nf, aft0, aft1, decide_true, decide_false, Bool.not_true, Bool.not_false, cond_true, cond_false, Nat.add_sub_cancel, Nat.add_one_sub_one, ou9, mo1, nI_MO, OU_lt, OU_ge, Nat.not_lt_zero, Bool.or_false, Bool.or_true, Bool.true_or, Bool.false_or, Bool.and_true, Bool.and_false, Bool.true_and, Bool.false_and, bI_0n, bI_1n, Bool.not_not, mA_s, mA_n, mA_mA, eM_again_31]
      rw [cpy_s]
      exact ih (j + 1) (by omega)
  have e := loop 437 0 (by omega)
  rw [cpy_0, mA_id] at e
  rw [kM_again, eM_again_0]
  simp (disch := omega) only [l0, l1, l2, l3, l4, l5, l6, l7, l8, l9, l10, l11, l12, l13, l14, l15, l16, l17, l18, l19, l20, l21, l22, l23, l24, l25, l26, l27, l28, l29, l30, l31, l40, l48, l52, l57, l60, l65, l97, l99, l100, l102, l119, l122, l179, l197, l200, l201, l237, l436, l437, pk_mul, nI_add, inb_nI, nclamp, dlt, dle, deq, bif_t, bif_f, bif_nt, bif_nf, aft0, aft1, decide_true, decide_false, Bool.not_true, Bool.not_false, cond_true, cond_false, Nat.add_sub_cancel, Nat.add_one_sub_one, ou9, mo1, nI_MO, OU_lt, OU_ge, Nat.not_lt_zero, Bool.or_false, Bool.or_true, Bool.true_or, Bool.false_or, Bool.and_true, Bool.and_false, Bool.true_and, Bool.false_and, bI_0n, bI_1n, Bool.not_not, h]
  exact e
theorem cM_again0 (d : Nat) (Z : ZT) (M : MS) (h : M.2 0 = nI 0) : call PGM (d + 1) yM_again [.ref 91] (hM Z M) = some (some (.int (-3)), hM Z M) := by
  rw [kM_again, eM_again_0, h]
  rfl
