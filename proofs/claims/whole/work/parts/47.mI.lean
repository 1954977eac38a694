/-! The model's record of HARMS. -/
def see13 (M : MS) (p w : Int32) : Int32 :=
  bif decide (M.2 12 = nI 0) then M.2 13 else bif !decide (M.2 13 = nI 0) then M.2 13 else bif decide (M.2 14 ≤ M.2 10) then M.2 13 else
  bif !decide (M.1 8 (3 * (M.2 10).toNatClampNeg) = M.2 11) then M.2 10 + nI 1 else bif !decide (M.1 8 (3 * (M.2 10).toNatClampNeg + 1) = p) then M.2 10 + nI 1 else bif !decide (M.1 8 (3 * (M.2 10).toNatClampNeg + 2) = w) then M.2 10 + nI 1 else nI 0
def see7 (M : MS) (p w : Int32) : Nat → Int32 :=
  bif decide (M.2 9 ≤ M.2 10) then M.1 7 else upd (upd (upd (M.1 7) (3 * (M.2 10).toNatClampNeg) (M.2 11)) (3 * (M.2 10).toNatClampNeg + 1) p) (3 * (M.2 10).toNatClampNeg + 2) w
def seeM (M : MS) (p w : Int32) : MS := mV (mA (mV M 13 (see13 M p w)) 7 (see7 M p w)) 10 (M.2 10 + nI 1)
theorem up_same {α : Type} (f : Nat → α) (k : Nat) : up f k (f k) = f := by
  funext j
  simp only [up]
  cases e : Nat.beq j k with
  | true => rw [Nat.eq_of_beq_eq_true e]; rfl
  | false => rfl
theorem mV_id (M : MS) (k : Nat) : mV M k (M.2 k) = M := by
  unfold mV
  rw [up_same]
theorem cM_sees (d : Nat) (Z : ZT) (M : MS) (p n w r : Nat) (hp : p < 20) (hn : n < 500000000) (h10 : M.2 10 = nI n) (hw : w ≤ 24) (h9 : M.2 9 = nI w) (hr : r ≤ 24) (h14 : M.2 14 = nI r) :
    call PGM (d + 2) yM_sees [.ref 91, .int (nI p)] (hM Z M) = some (none, hM Z (seeM M (nI p) (M.1 0 (99 + 4 * p + 1)))) := by
  rw [kM_sees, eM_sees_0]
  have tail : ∀ (M' : MS) (u2 : Option Value), M'.1 0 = M.1 0 → M'.1 7 = M.1 7 → M'.2 9 = nI w → M'.2 10 = nI n → M'.2 11 = M.2 11 → sem PGM (d + 1) yM_sees (105, [some (.ref 91), some (.int (nI p)), u2], [], hM Z M') = some (none, hM Z (mV (mA M' 7 (see7 M (nI p) (M.1 0 (99 + 4 * p + 1)))) 10 (nI (n + 1)))) := by
    intro M' u2 e0 e7 e9 e10 e11
    rw [eM_sees_105, see7]
    by_cases hwn : w ≤ n
    · simp (disch := omega) only [l0, l1, l2, l3, l4, l5, l6, l7, l8, l9, l10, l11, l12, l13, l14, l15, l16, l17, l18, l19, l20, l21, l22, l23, l24, l25, l26, l27, l28, l29, l30, l31, l40, l48, l52, l57, l60, l65, l97, l99, l100, l102, l119, l122, l179, l197, l200, l201, l237, l436, l437, pk_mul, nI_add, inb_nI, nclamp, dlt, dle, deq, bif_t, bif_f, bif_nt, bif_nf, aft0, aft1, decide_true, decide_false, Bool.not_true, Bool.not_false, cond_true, cond_false, Nat.add_sub_cancel, Nat.add_one_sub_one, ou9, mo1, nI_MO, OU_lt, OU_ge, Nat.not_lt_zero, Bool.or_false, Bool.or_true, Bool.true_or, Bool.false_or, Bool.and_true, Bool.and_false, Bool.true_and, Bool.false_and, bI_0n, bI_1n, Bool.not_not, e9, e10, h9, h10]
      rw [eM_sees_163, e10, ← e7, mA_id]
      simp (disch := omega) only [l0, l1, l2, l3, l4, l5, l6, l7, l8, l9, l10, l11, l12, l13, l14, l15, l16, l17, l18, l19, l20, l21, l22, l23, l24, l25, l26, l27, l28, l29, l30, l31, l40, l48, l52, l57, l60, l65, l97, l99, l100, l102, l119, l122, l179, l197, l200, l201, l237, l436, l437, pk_mul, nI_add, inb_nI, nclamp, dlt, dle, deq, bif_t, bif_f, bif_nt, bif_nf, aft0, aft1, decide_true, decide_false, Bool.not_true, Bool.not_false, cond_true, cond_false, Nat.add_sub_cancel, Nat.add_one_sub_one, ou9, mo1, nI_MO, OU_lt, OU_ge, Nat.not_lt_zero, Bool.or_false, Bool.or_true, Bool.true_or, Bool.false_or, Bool.and_true, Bool.and_false, Bool.true_and, Bool.false_and, bI_0n, bI_1n, Bool.not_not]
    · simp (disch := omega) only [l0, l1, l2, l3, l4, l5, l6, l7, l8, l9, l10, l11, l12, l13, l14, l15, l16, l17, l18, l19, l20, l21, l22, l23, l24, l25, l26, l27, l28, l29, l30, l31, l40, l48, l52, l57, l60, l65, l97, l99, l100, l102, l119, l122, l179, l197, l200, l201, l237, l436, l437, pk_mul, nI_add, inb_nI, nclamp, dlt, dle, deq, bif_t, bif_f, bif_nt, bif_nf, aft0, aft1, decide_true, decide_false, Bool.not_true, Bool.not_false, cond_true, cond_false, Nat.add_sub_cancel, Nat.add_one_sub_one, ou9, mo1, nI_MO, OU_lt, OU_ge, Nat.not_lt_zero, Bool.or_false, Bool.or_true, Bool.true_or, Bool.false_or, Bool.and_true, Bool.and_false, Bool.true_and, Bool.false_and, bI_0n, bI_1n, Bool.not_not, e9, e10, h9, h10, eM_sees_131, mA_2, mA_s, mA_mA, eM_sees_145]
      rw [cM_whereIs d Z _ p (by omega), aft1, eM_sees_162]
      simp (disch := omega) only [l0, l1, l2, l3, l4, l5, l6, l7, l8, l9, l10, l11, l12, l13, l14, l15, l16, l17, l18, l19, l20, l21, l22, l23, l24, l25, l26, l27, l28, l29, l30, l31, l40, l48, l52, l57, l60, l65, l97, l99, l100, l102, l119, l122, l179, l197, l200, l201, l237, l436, l437, pk_mul, nI_add, inb_nI, nclamp, dlt, dle, deq, bif_t, bif_f, bif_nt, bif_nf, aft0, aft1, decide_true, decide_false, Bool.not_true, Bool.not_false, cond_true, cond_false, Nat.add_sub_cancel, Nat.add_one_sub_one, ou9, mo1, nI_MO, OU_lt, OU_ge, Nat.not_lt_zero, Bool.or_false, Bool.or_true, Bool.true_or, Bool.false_or, Bool.and_true, Bool.and_false, Bool.true_and, Bool.false_and, bI_0n, bI_1n, Bool.not_not, e9, e10, h9, h10, mA_2, mA_s, mA_n, mA_mA, eM_sees_163, e0, e7, e11]
  have keep : ∀ u2, sem PGM (d + 1) yM_sees (105, [some (.ref 91), some (.int (nI p)), u2], [], hM Z M) = some (none, hM Z (mV (mA (mV M 13 (M.2 13)) 7 (see7 M (nI p) (M.1 0 (99 + 4 * p + 1)))) 10 (nI (n + 1)))) := by
    intro u2
    rw [mV_id]
    exact tail M u2 rfl rfl h9 h10 rfl
  have chg : ∀ v u2, sem PGM (d + 1) yM_sees (105, [some (.ref 91), some (.int (nI p)), u2], [], hM Z (mV M 13 v)) = some (none, hM Z (mV (mA (mV M 13 v) 7 (see7 M (nI p) (M.1 0 (99 + 4 * p + 1)))) 10 (nI (n + 1)))) := by
    intro v u2
    exact tail (mV M 13 v) u2 rfl rfl h9 h10 rfl
  rw [seeM, see13]
  simp (disch := omega) only [l0, l1, l2, l3, l4, l5, l6, l7, l8, l9, l10, l11, l12, l13, l14, l15, l16, l17, l18, l19, l20, l21, l22, l23, l24, l25, l26, l27, l28, l29, l30, l31, l40, l48, l52, l57, l60, l65, l97, l99, l100, l102, l119, l122, l179, l197, l200, l201, l237, l436, l437, pk_mul, nI_add, inb_nI, nclamp, dlt, dle, deq, bif_t, bif_f, bif_nt, bif_nf, aft0, aft1, decide_true, decide_false, Bool.not_true, Bool.not_false, cond_true, cond_false, Nat.add_sub_cancel, Nat.add_one_sub_one, ou9, mo1, nI_MO, OU_lt, OU_ge, Nat.not_lt_zero, Bool.or_false, Bool.or_true, Bool.true_or, Bool.false_or, Bool.and_true, Bool.and_false, Bool.true_and, Bool.false_and, bI_0n, bI_1n, Bool.not_not, h10, h14]
  rw [keep]
  by_cases hrn : r ≤ n
  · simp (disch := omega) only [l0, l1, l2, l3, l4, l5, l6, l7, l8, l9, l10, l11, l12, l13, l14, l15, l16, l17, l18, l19, l20, l21, l22, l23, l24, l25, l26, l27, l28, l29, l30, l31, l40, l48, l52, l57, l60, l65, l97, l99, l100, l102, l119, l122, l179, l197, l200, l201, l237, l436, l437, pk_mul, nI_add, inb_nI, nclamp, dlt, dle, deq, bif_t, bif_f, bif_nt, bif_nf, aft0, aft1, decide_true, decide_false, Bool.not_true, Bool.not_false, cond_true, cond_false, Nat.add_sub_cancel, Nat.add_one_sub_one, ou9, mo1, nI_MO, OU_lt, OU_ge, Nat.not_lt_zero, Bool.or_false, Bool.or_true, Bool.true_or, Bool.false_or, Bool.and_true, Bool.and_false, Bool.true_and, Bool.false_and, bI_0n, bI_1n, Bool.not_not]
    rw [bif_same, bif_same, bif_same, bif_same]
  · have hn24 : n < 24 := by omega
    simp (disch := omega) only [l0, l1, l2, l3, l4, l5, l6, l7, l8, l9, l10, l11, l12, l13, l14, l15, l16, l17, l18, l19, l20, l21, l22, l23, l24, l25, l26, l27, l28, l29, l30, l31, l40, l48, l52, l57, l60, l65, l97, l99, l100, l102, l119, l122, l179, l197, l200, l201, l237, l436, l437, pk_mul, nI_add, inb_nI, nclamp, dlt, dle, deq, bif_t, bif_f, bif_nt, bif_nf, aft0, aft1, decide_true, decide_false, Bool.not_true, Bool.not_false, cond_true, cond_false, Nat.add_sub_cancel, Nat.add_one_sub_one, ou9, mo1, nI_MO, OU_lt, OU_ge, Nat.not_lt_zero, Bool.or_false, Bool.or_true, Bool.true_or, Bool.false_or, Bool.and_true, Bool.and_false, Bool.true_and, Bool.false_and, bI_0n, bI_1n, Bool.not_not]
    rw [cM_whereIs d Z M p (by omega), aft1, eM_sees_78, chg, chg]
    simp (disch := omega) only [l0, l1, l2, l3, l4, l5, l6, l7, l8, l9, l10, l11, l12, l13, l14, l15, l16, l17, l18, l19, l20, l21, l22, l23, l24, l25, l26, l27, l28, l29, l30, l31, l40, l48, l52, l57, l60, l65, l97, l99, l100, l102, l119, l122, l179, l197, l200, l201, l237, l436, l437, pk_mul, nI_add, inb_nI, nclamp, dlt, dle, deq, bif_t, bif_f, bif_nt, bif_nf, aft0, aft1, decide_true, decide_false, Bool.not_true, Bool.not_false, cond_true, cond_false, Nat.add_sub_cancel, Nat.add_one_sub_one, ou9, mo1, nI_MO, OU_lt, OU_ge, Nat.not_lt_zero, Bool.or_false, Bool.or_true, Bool.true_or, Bool.false_or, Bool.and_true, Bool.and_false, Bool.true_and, Bool.false_and, bI_0n, bI_1n, Bool.not_not, h10]
    rw [chg]
    cases decide (M.2 12 = nI 0) <;> cases decide (M.2 13 = nI 0) <;> cases decide (M.1 8 (3 * n) = M.2 11) <;> cases decide (M.1 8 (3 * n + 1) = nI p) <;> cases decide (M.1 8 (3 * n + 2) = M.1 0 (99 + 4 * p + 1)) <;> rfl
