/-! BEASTS' moves. -/
def okQ (nc : Nat) (x : Int32) : Prop := x = OU ∨ ∃ c, c < nc ∧ x = nI c
def rnd (z : Int32) : Int32 := ((z.toUInt32 >>> (((16 : Int32)).toUInt32 &&& Int32.toUInt32 31)).toInt32) - ((z.toUInt32 >>> (((16 : Int32)).toUInt32 &&& Int32.toUInt32 31)).toInt32) / 8 * 8
def nxt (z : Int32) : Int32 := z * 1103515245 + 12345
def herd1 (s : Nat → Int32) (b : Nat) : Nat → Int32 :=
  bif decide (s (179 + 3 * b) + 1 < s 0) then
    bif decide (s (9 + 3 * (s (179 + 3 * b) + 1).toNatClampNeg + 1) ≤ 0) then upd s (179 + 3 * b) (s (179 + 3 * b) + 1)
    else upd (upd (upd s (179 + 3 * b) (s (179 + 3 * b) + 1)) 4 (nxt (s 4))) (179 + 3 * b + 2) (bI (decide (rnd (nxt (s 4)) < s (9 + 3 * (s (179 + 3 * b) + 1).toNatClampNeg + 1))))
  else upd s (179 + 3 * b) OU
def herdF (b : Nat) : Nat → (Nat → Int32) → Nat → Int32
  | 0, s => s
  | k + 1, s => bif decide (s (179 + 3 * b) < 0) || !decide (s (179 + 3 * b + 2) = 0) then s else herdF b k (herd1 s b)
theorem bif_same {α : Type} (c : Bool) (a : α) : (bif c then a else a) = a := by cases c <;> rfl
theorem n9_lt : ((-9 : Int32) < 0) := by decide
theorem le_not_lt (a b : Int32) : decide (a ≤ b) = !decide (b < a) := by
  by_cases h1 : b < a
  · simp [h1, Int32.not_le.mpr h1]
  · simp [h1, Int32.not_lt.mp h1]
theorem er (z sl : Int32) : bI (decide (rnd z < sl)) = bif decide (sl ≤ rnd z) then nI 0 else nI 1 := by
  rw [le_not_lt]
  cases decide (rnd z < sl) <;> rfl
theorem cM_herdsL (d : Nat) (Z : ZT) (b a nc : Nat) (hb : b < 6) (hnc : nc ≤ 30) (ha : a ≤ 4) : ∀ k (M : MS) j, j + k = a → M.1 0 0 = nI nc → M.1 0 (179 + 3 * b + 1) = nI a → okQ nc (M.1 0 (179 + 3 * b)) →
    sem PGM d yM_herds (10, [some (.ref 91), some (.int (nI b)), some (.int (nI (179 + 3 * b))), some (.int (nI j))], [], hM Z M) = some (none, hM Z (mA M 0 (herdF b k (M.1 0)))) := by
  intro k
  induction k with
  | zero =>
    intro M j hj h0 h1 h2
    rw [eM_herds_10]
    simp (disch := omega) only [l0, l1, l2, l3, l4, l5, l6, l7, l8, l9, l10, l11, l12, l13, l14, l15, l16, l17, l18, l19, l20, l21, l22, l23, l24, l25, l26, l27, l28, l29, l30, l31, l40, l48, l52, l57, l60, l65, l97, l99, l100, l102, l119, l122, l179, l197, l200, l201, l237, l436, l437, pk_mul, nI_add, inb_nI, nclamp, dlt, dle, deq, bif_t, bif_f, bif_nt, bif_nf, aft0, aft1, decide_true, decide_false, Bool.not_true, Bool.not_false, cond_true, cond_false, Nat.add_sub_cancel, Nat.add_one_sub_one, ou9, mo1, nI_MO, OU_lt, OU_ge, Nat.not_lt_zero, Bool.or_false, Bool.or_true, Bool.true_or, Bool.false_or, Bool.and_true, Bool.and_false, Bool.true_and, Bool.false_and, bI_0n, bI_1n, Bool.not_not, h1]
    rw [herdF, mA_id]
  | succ k ih =>
    intro M j hj h0 h1 h2
    rw [eM_herds_10]
    simp (disch := omega) only [l0, l1, l2, l3, l4, l5, l6, l7, l8, l9, l10, l11, l12, l13, l14, l15, l16, l17, l18, l19, l20, l21, l22, l23, l24, l25, l26, l27, l28, l29, l30, l31, l40, l48, l52, l57, l60, l65, l97, l99, l100, l102, l119, l122, l179, l197, l200, l201, l237, l436, l437, pk_mul, nI_add, inb_nI, nclamp, dlt, dle, deq, bif_t, bif_f, bif_nt, bif_nf, aft0, aft1, decide_true, decide_false, Bool.not_true, Bool.not_false, cond_true, cond_false, Nat.add_sub_cancel, Nat.add_one_sub_one, ou9, mo1, nI_MO, OU_lt, OU_ge, Nat.not_lt_zero, Bool.or_false, Bool.or_true, Bool.true_or, Bool.false_or, Bool.and_true, Bool.and_false, Bool.true_and, Bool.false_and, bI_0n, bI_1n, Bool.not_not, h1]
    rw [herdF]
    rcases h2 with h2 | ⟨c, hc, h2⟩
    · rw [h2]
      simp only [OU_lt, OU_lt', cond_true, Bool.true_or, mA_id]
    · have e0 : decide (nI c < 0) = false := by rw [l0, dlt (by omega) (by omega)]; simp
      simp (disch := omega) only [l0, l1, l2, l3, l4, l5, l6, l7, l8, l9, l10, l11, l12, l13, l14, l15, l16, l17, l18, l19, l20, l21, l22, l23, l24, l25, l26, l27, l28, l29, l30, l31, l40, l48, l52, l57, l60, l65, l97, l99, l100, l102, l119, l122, l179, l197, l200, l201, l237, l436, l437, pk_mul, nI_add, inb_nI, nclamp, dlt, dle, deq, bif_t, bif_f, bif_nt, bif_nf, aft0, aft1, decide_true, decide_false, Bool.not_true, Bool.not_false, cond_true, cond_false, Nat.add_sub_cancel, Nat.add_one_sub_one, ou9, mo1, nI_MO, OU_lt, OU_ge, Nat.not_lt_zero, Bool.or_false, Bool.or_true, Bool.true_or, Bool.false_or, Bool.and_true, Bool.and_false, Bool.true_and, Bool.false_and, bI_0n, bI_1n, Bool.not_not, h2]
      by_cases h3 : M.1 0 (179 + 3 * b + 2) = nI 0
      · rw [h3]
        have g0 : (herd1 (M.1 0) b) 0 = nI nc := by
          rw [herd1]
          cases decide (M.1 0 (179 + 3 * b) + 1 < M.1 0 0) <;> cases decide (M.1 0 (9 + 3 * (M.1 0 (179 + 3 * b) + 1).toNatClampNeg + 1) ≤ 0) <;> simp (disch := omega) only [l0, l1, l2, l3, l4, l5, l6, l7, l8, l9, l10, l11, l12, l13, l14, l15, l16, l17, l18, l19, l20, l21, l22, l23, l24, l25, l26, l27, l28, l29, l30, l31, l40, l48, l52, l57, l60, l65, l97, l99, l100, l102, l119, l122, l179, l197, l200, l201, l237, l436, l437, pk_mul, nI_add, inb_nI, nclamp, dlt, dle, deq, bif_t, bif_f, bif_nt, bif_nf, aft0, aft1, decide_true, decide_false, Bool.not_true, Bool.not_false, cond_true, cond_false, Nat.add_sub_cancel, Nat.add_one_sub_one, ou9, mo1, nI_MO, OU_lt, OU_ge, Nat.not_lt_zero, Bool.or_false, Bool.or_true, Bool.true_or, Bool.false_or, Bool.and_true, Bool.and_false, Bool.true_and, Bool.false_and, bI_0n, bI_1n, Bool.not_not, upd_ne, h0]
        have g1 : (herd1 (M.1 0) b) (179 + 3 * b + 1) = nI a := by
          rw [herd1]
          cases decide (M.1 0 (179 + 3 * b) + 1 < M.1 0 0) <;> cases decide (M.1 0 (9 + 3 * (M.1 0 (179 + 3 * b) + 1).toNatClampNeg + 1) ≤ 0) <;> simp (disch := omega) only [l0, l1, l2, l3, l4, l5, l6, l7, l8, l9, l10, l11, l12, l13, l14, l15, l16, l17, l18, l19, l20, l21, l22, l23, l24, l25, l26, l27, l28, l29, l30, l31, l40, l48, l52, l57, l60, l65, l97, l99, l100, l102, l119, l122, l179, l197, l200, l201, l237, l436, l437, pk_mul, nI_add, inb_nI, nclamp, dlt, dle, deq, bif_t, bif_f, bif_nt, bif_nf, aft0, aft1, decide_true, decide_false, Bool.not_true, Bool.not_false, cond_true, cond_false, Nat.add_sub_cancel, Nat.add_one_sub_one, ou9, mo1, nI_MO, OU_lt, OU_ge, Nat.not_lt_zero, Bool.or_false, Bool.or_true, Bool.true_or, Bool.false_or, Bool.and_true, Bool.and_false, Bool.true_and, Bool.false_and, bI_0n, bI_1n, Bool.not_not, upd_ne, h1]
        have g2 : okQ nc ((herd1 (M.1 0) b) (179 + 3 * b)) := by
          rw [herd1, h0, h2, nI_1, dlt (by omega) (by omega)]
          by_cases hcc : c + 1 < nc
          · refine Or.inr ⟨c + 1, hcc, ?_⟩
            cases decide (M.1 0 (9 + 3 * (nI (c + 1)).toNatClampNeg + 1) ≤ 0) <;> simp (disch := omega) only [l0, l1, l2, l3, l4, l5, l6, l7, l8, l9, l10, l11, l12, l13, l14, l15, l16, l17, l18, l19, l20, l21, l22, l23, l24, l25, l26, l27, l28, l29, l30, l31, l40, l48, l52, l57, l60, l65, l97, l99, l100, l102, l119, l122, l179, l197, l200, l201, l237, l436, l437, pk_mul, nI_add, inb_nI, nclamp, dlt, dle, deq, bif_t, bif_f, bif_nt, bif_nf, aft0, aft1, decide_true, decide_false, Bool.not_true, Bool.not_false, cond_true, cond_false, Nat.add_sub_cancel, Nat.add_one_sub_one, ou9, mo1, nI_MO, OU_lt, OU_ge, Nat.not_lt_zero, Bool.or_false, Bool.or_true, Bool.true_or, Bool.false_or, Bool.and_true, Bool.and_false, Bool.true_and, Bool.false_and, bI_0n, bI_1n, Bool.not_not, upd_ne, upd_eq]
          · refine Or.inl ?_
            simp (disch := omega) only [l0, l1, l2, l3, l4, l5, l6, l7, l8, l9, l10, l11, l12, l13, l14, l15, l16, l17, l18, l19, l20, l21, l22, l23, l24, l25, l26, l27, l28, l29, l30, l31, l40, l48, l52, l57, l60, l65, l97, l99, l100, l102, l119, l122, l179, l197, l200, l201, l237, l436, l437, pk_mul, nI_add, inb_nI, nclamp, dlt, dle, deq, bif_t, bif_f, bif_nt, bif_nf, aft0, aft1, decide_true, decide_false, Bool.not_true, Bool.not_false, cond_true, cond_false, Nat.add_sub_cancel, Nat.add_one_sub_one, ou9, mo1, nI_MO, OU_lt, OU_ge, Nat.not_lt_zero, Bool.or_false, Bool.or_true, Bool.true_or, Bool.false_or, Bool.and_true, Bool.and_false, Bool.true_and, Bool.false_and, bI_0n, bI_1n, Bool.not_not, upd_eq]
        have key : sem PGM d yM_herds (10, [some (.ref 91), some (.int (nI b)), some (.int (nI (179 + 3 * b))), some (.int (nI (j + 1)))], [], hM Z (mA M 0 (herd1 (M.1 0) b))) = some (none, hM Z (mA M 0 (herdF b k (herd1 (M.1 0) b)))) := by
          have := ih (mA M 0 (herd1 (M.1 0) b)) (j + 1) (by omega) (by rw [mA_s]; exact g0) (by rw [mA_s]; exact g1) (by rw [mA_s]; exact g2)
          rw [mA_s, mA_mA] at this
          exact this
        simp (disch := omega) only [l0, l1, l2, l3, l4, l5, l6, l7, l8, l9, l10, l11, l12, l13, l14, l15, l16, l17, l18, l19, l20, l21, l22, l23, l24, l25, l26, l27, l28, l29, l30, l31, l40, l48, l52, l57, l60, l65, l97, l99, l100, l102, l119, l122, l179, l197, l200, l201, l237, l436, l437, pk_mul, nI_add, inb_nI, nclamp, dlt, dle, deq, bif_t, bif_f, bif_nt, bif_nf, aft0, aft1, decide_true, decide_false, Bool.not_true, Bool.not_false, cond_true, cond_false, Nat.add_sub_cancel, Nat.add_one_sub_one, ou9, mo1, nI_MO, OU_lt, OU_ge, Nat.not_lt_zero, Bool.or_false, Bool.or_true, Bool.true_or, Bool.false_or, Bool.and_true, Bool.and_false, Bool.true_and, Bool.false_and, bI_0n, bI_1n, Bool.not_not, eM_herds_52, mA_s, mA_mA, upd_eq, upd_ne, upd_upd]
        rw [← key]
        rw [herd1, h0, h2, nI_1, dlt (by omega) (by omega)]
        by_cases hcc : c + 1 < nc
        · simp (disch := omega) only [l0, l1, l2, l3, l4, l5, l6, l7, l8, l9, l10, l11, l12, l13, l14, l15, l16, l17, l18, l19, l20, l21, l22, l23, l24, l25, l26, l27, l28, l29, l30, l31, l40, l48, l52, l57, l60, l65, l97, l99, l100, l102, l119, l122, l179, l197, l200, l201, l237, l436, l437, pk_mul, nI_add, inb_nI, nclamp, dlt, dle, deq, bif_t, bif_f, bif_nt, bif_nf, aft0, aft1, decide_true, decide_false, Bool.not_true, Bool.not_false, cond_true, cond_false, Nat.add_sub_cancel, Nat.add_one_sub_one, ou9, mo1, nI_MO, OU_lt, OU_ge, Nat.not_lt_zero, Bool.or_false, Bool.or_true, Bool.true_or, Bool.false_or, Bool.and_true, Bool.and_false, Bool.true_and, Bool.false_and, bI_0n, bI_1n, Bool.not_not, h0]
          cases hs : decide (M.1 0 (9 + 3 * (c + 1) + 1) ≤ nI 0) with
          | true =>
            simp only [cond_true]
            rw [eM_herds_164, nI_1]
          | false =>
            simp only [cond_false]
            rw [eM_herds_118]
            rw [er]
            unfold rnd nxt
            simp (disch := omega) only [l0, l1, l2, l3, l4, l5, l6, l7, l8, l9, l10, l11, l12, l13, l14, l15, l16, l17, l18, l19, l20, l21, l22, l23, l24, l25, l26, l27, l28, l29, l30, l31, l40, l48, l52, l57, l60, l65, l97, l99, l100, l102, l119, l122, l179, l197, l200, l201, l237, l436, l437, pk_mul, nI_add, inb_nI, nclamp, dlt, dle, deq, bif_t, bif_f, bif_nt, bif_nf, aft0, aft1, decide_true, decide_false, Bool.not_true, Bool.not_false, cond_true, cond_false, Nat.add_sub_cancel, Nat.add_one_sub_one, ou9, mo1, nI_MO, OU_lt, OU_ge, Nat.not_lt_zero, Bool.or_false, Bool.or_true, Bool.true_or, Bool.false_or, Bool.and_true, Bool.and_false, Bool.true_and, Bool.false_and, bI_0n, bI_1n, Bool.not_not, mA_s, mA_mA, upd_eq, upd_ne, upd_upd, eM_herds_164]
            generalize decide (M.1 0 (9 + 3 * (c + 1) + 1) ≤ _) = w
            cases w <;> rfl
        · simp (disch := omega) only [l0, l1, l2, l3, l4, l5, l6, l7, l8, l9, l10, l11, l12, l13, l14, l15, l16, l17, l18, l19, l20, l21, l22, l23, l24, l25, l26, l27, l28, l29, l30, l31, l40, l48, l52, l57, l60, l65, l97, l99, l100, l102, l119, l122, l179, l197, l200, l201, l237, l436, l437, pk_mul, nI_add, inb_nI, nclamp, dlt, dle, deq, bif_t, bif_f, bif_nt, bif_nf, aft0, aft1, decide_true, decide_false, Bool.not_true, Bool.not_false, cond_true, cond_false, Nat.add_sub_cancel, Nat.add_one_sub_one, ou9, mo1, nI_MO, OU_lt, OU_ge, Nat.not_lt_zero, Bool.or_false, Bool.or_true, Bool.true_or, Bool.false_or, Bool.and_true, Bool.and_false, Bool.true_and, Bool.false_and, bI_0n, bI_1n, Bool.not_not, h0, eM_herds_75, eM_herds_164]
      · have e3 : decide (M.1 0 (179 + 3 * b + 2) = nI 0) = false := by simp [h3]
        simp only [e3, Bool.not_false, cond_true, mA_id, Bool.or_true]
theorem cM_herds (d : Nat) (Z : ZT) (M : MS) (b a nc : Nat) (hb : b < 6) (hnc : nc ≤ 30) (ha : a ≤ 4) (h0 : M.1 0 0 = nI nc) (h1 : M.1 0 (179 + 3 * b + 1) = nI a) (h2 : okQ nc (M.1 0 (179 + 3 * b))) :
    call PGM (d + 1) yM_herds [.ref 91, .int (nI b)] (hM Z M) = some (none, hM Z (mA M 0 (herdF b a (M.1 0)))) := by
  rw [kM_herds, eM_herds_0]
  have := cM_herdsL d Z b a nc hb hnc ha a M 0 (by omega) h0 h1 h2
  simp (disch := omega) only [l0, l1, l2, l3, l4, l5, l6, l7, l8, l9, l10, l11, l12, l13, l14, l15, l16, l17, l18, l19, l20, l21, l22, l23, l24, l25, l26, l27, l28, l29, l30, l31, l40, l48, l52, l57, l60, l65, l97, l99, l100, l102, l119, l122, l179, l197, l200, l201, l237, l436, l437, pk_mul, nI_add, inb_nI, nclamp, dlt, dle, deq, bif_t, bif_f, bif_nt, bif_nf, aft0, aft1, decide_true, decide_false, Bool.not_true, Bool.not_false, cond_true, cond_false, Nat.add_sub_cancel, Nat.add_one_sub_one, ou9, mo1, nI_MO, OU_lt, OU_ge, Nat.not_lt_zero, Bool.or_false, Bool.or_true, Bool.true_or, Bool.false_or, Bool.and_true, Bool.and_false, Bool.true_and, Bool.false_and, bI_0n, bI_1n, Bool.not_not]
  exact this
/-- the way of a lone BEAST, PEOPLE looked at from the first on -/
def stalkB (s : Nat → Int32) (x : Int32) : Nat → Int32
  | 0 => nI 99
  | p + 1 =>
    bif decide (s (99 + 4 * p + 1) < nI 0) then stalkB s x p else
    bif decide (s 5 < (bif decide (nI 0 ≤ s (99 + 4 * p + 1) - x) then s (99 + 4 * p + 1) - x else nI 0 - (s (99 + 4 * p + 1) - x))) then stalkB s x p else
    bif decide ((bif decide (nI 0 ≤ s (99 + 4 * p + 1) - x) then s (99 + 4 * p + 1) - x else nI 0 - (s (99 + 4 * p + 1) - x)) < (bif decide (nI 0 ≤ stalkB s x p) then stalkB s x p else nI 0 - stalkB s x p)) then s (99 + 4 * p + 1) - x else
    bif !decide ((bif decide (nI 0 ≤ s (99 + 4 * p + 1) - x) then s (99 + 4 * p + 1) - x else nI 0 - (s (99 + 4 * p + 1) - x)) = (bif decide (nI 0 ≤ stalkB s x p) then stalkB s x p else nI 0 - stalkB s x p)) then stalkB s x p else
    bif decide (s (99 + 4 * p + 1) - x ≤ stalkB s x p) then stalkB s x p else s (99 + 4 * p + 1) - x
def stalkF (s : Nat → Int32) (b np : Nat) : Nat → Int32 :=
  upd s (179 + 3 * b) (s (179 + 3 * b) + (bif decide (stalkB s (s (179 + 3 * b)) np = nI 99) then nI 0 else bif !decide (stalkB s (s (179 + 3 * b)) np = nI 0) then bif decide (stalkB s (s (179 + 3 * b)) np ≤ nI 0) then MO else nI 1 else nI 0))
theorem cM_stalks (d : Nat) (Z : ZT) (M : MS) (b np : Nat) (hb : b < 6) (h1 : M.1 0 1 = nI np) (hnp : np ≤ 20) :
    call PGM (d + 2) yM_stalks [.ref 91, .int (nI b)] (hM Z M) = some (none, hM Z (mA M 0 (stalkF (M.1 0) b np))) := by
  rw [kM_stalks, eM_stalks_0]
  simp (disch := omega) only [l0, l1, l2, l3, l4, l5, l6, l7, l8, l9, l10, l11, l12, l13, l14, l15, l16, l17, l18, l19, l20, l21, l22, l23, l24, l25, l26, l27, l28, l29, l30, l31, l40, l48, l52, l57, l60, l65, l97, l99, l100, l102, l119, l122, l179, l197, l200, l201, l237, l436, l437, pk_mul, nI_add, inb_nI, nclamp, dlt, dle, deq, bif_t, bif_f, bif_nt, bif_nf, aft0, aft1, decide_true, decide_false, Bool.not_true, Bool.not_false, cond_true, cond_false, Nat.add_sub_cancel, Nat.add_one_sub_one, ou9, mo1, nI_MO, OU_lt, OU_ge, Nat.not_lt_zero, Bool.or_false, Bool.or_true, Bool.true_or, Bool.false_or, Bool.and_true, Bool.and_false, Bool.true_and, Bool.false_and, bI_0n, bI_1n, Bool.not_not]
  have fin : ∀ (i5 i6 : Int32) (u7 : Option Value), sem PGM (d + 1) yM_stalks (14, [some (.ref 91), some (.int (nI b)), some (.int (nI (179 + 3 * b))), some (.int (stalkB (M.1 0) (M.1 0 (179 + 3 * b)) np)), some (.int (nI np)), some (.int i5), some (.int i6), u7], [], hM Z M) = some (none, hM Z (mA M 0 (stalkF (M.1 0) b np))) := by
    intro i5 i6 u7
    rw [eM_stalks_14x]
    simp (disch := omega) only [l0, l1, l2, l3, l4, l5, l6, l7, l8, l9, l10, l11, l12, l13, l14, l15, l16, l17, l18, l19, l20, l21, l22, l23, l24, l25, l26, l27, l28, l29, l30, l31, l40, l48, l52, l57, l60, l65, l97, l99, l100, l102, l119, l122, l179, l197, l200, l201, l237, l436, l437, pk_mul, nI_add, inb_nI, nclamp, dlt, dle, deq, bif_t, bif_f, bif_nt, bif_nf, aft0, aft1, decide_true, decide_false, Bool.not_true, Bool.not_false, cond_true, cond_false, Nat.add_sub_cancel, Nat.add_one_sub_one, ou9, mo1, nI_MO, OU_lt, OU_ge, Nat.not_lt_zero, Bool.or_false, Bool.or_true, Bool.true_or, Bool.false_or, Bool.and_true, Bool.and_false, Bool.true_and, Bool.false_and, bI_0n, bI_1n, Bool.not_not, h1]
    unfold stalkF
    cases decide (stalkB (M.1 0) (M.1 0 (179 + 3 * b)) np = nI 99) <;> cases decide (stalkB (M.1 0) (M.1 0 (179 + 3 * b)) np = nI 0) <;> cases decide (stalkB (M.1 0) (M.1 0 (179 + 3 * b)) np ≤ nI 0) <;> rfl
  have body : ∀ j, j < np → ∀ off far least : Int32, off = M.1 0 (99 + 4 * j + 1) - M.1 0 (179 + 3 * b) → far = (bif decide (nI 0 ≤ off) then off else nI 0 - off) → least = (bif decide (nI 0 ≤ stalkB (M.1 0) (M.1 0 (179 + 3 * b)) j) then stalkB (M.1 0) (M.1 0 (179 + 3 * b)) j else nI 0 - stalkB (M.1 0) (M.1 0 (179 + 3 * b)) j) →
      sem PGM (d + 1) yM_stalks (75, [some (.ref 91), some (.int (nI b)), some (.int (nI (179 + 3 * b))), some (.int (stalkB (M.1 0) (M.1 0 (179 + 3 * b)) j)), some (.int (nI j)), some (.int off), some (.int far), some (.int least)], [.int (M.1 0 (99 + 4 * j + 1))], hM Z M) = sem PGM (d + 1) yM_stalks (14, [some (.ref 91), some (.int (nI b)), some (.int (nI (179 + 3 * b))), some (.int (stalkB (M.1 0) (M.1 0 (179 + 3 * b)) (j + 1))), some (.int (nI (j + 1))), some (.int off), some (.int far), some (.int least)], [], hM Z M) := by
    intro j hj off far least eo ef el
    rw [eM_stalks_75, stalkB, ← eo, ← ef, ← el]
    simp (disch := omega) only [l0, l1, l2, l3, l4, l5, l6, l7, l8, l9, l10, l11, l12, l13, l14, l15, l16, l17, l18, l19, l20, l21, l22, l23, l24, l25, l26, l27, l28, l29, l30, l31, l40, l48, l52, l57, l60, l65, l97, l99, l100, l102, l119, l122, l179, l197, l200, l201, l237, l436, l437, pk_mul, nI_add, inb_nI, nclamp, dlt, dle, deq, bif_t, bif_f, bif_nt, bif_nf, aft0, aft1, decide_true, decide_false, Bool.not_true, Bool.not_false, cond_true, cond_false, Nat.add_sub_cancel, Nat.add_one_sub_one, ou9, mo1, nI_MO, OU_lt, OU_ge, Nat.not_lt_zero, Bool.or_false, Bool.or_true, Bool.true_or, Bool.false_or, Bool.and_true, Bool.and_false, Bool.true_and, Bool.false_and, bI_0n, bI_1n, Bool.not_not]
    cases decide (M.1 0 (99 + 4 * j + 1) < nI 0) <;> cases decide (M.1 0 5 < far) <;> cases decide (far < least) <;> cases decide (far = least) <;> cases decide (off ≤ stalkB (M.1 0) (M.1 0 (179 + 3 * b)) j) <;> rfl
  have loop : ∀ k j, j + k = np → ∀ (i5 i6 : Int32) (u7 : Option Value), sem PGM (d + 1) yM_stalks (14, [some (.ref 91), some (.int (nI b)), some (.int (nI (179 + 3 * b))), some (.int (stalkB (M.1 0) (M.1 0 (179 + 3 * b)) j)), some (.int (nI j)), some (.int i5), some (.int i6), u7], [], hM Z M) = some (none, hM Z (mA M 0 (stalkF (M.1 0) b np))) := by
    intro k
    induction k with
    | zero =>
      intro j hj i5 i6 u7
      rw [show j = np by omega]
      exact fin i5 i6 u7
    | succ k ih =>
      intro j hj i5 i6 u7
      rw [eM_stalks_14x]
      simp (disch := omega) only [l0, l1, l2, l3, l4, l5, l6, l7, l8, l9, l10, l11, l12, l13, l14, l15, l16, l17, l18, l19, l20, l21, l22, l23, l24, l25, l26, l27, l28, l29, l30, l31, l40, l48, l52, l57, l60, l65, l97, l99, l100, l102, l119, l122, l179, l197, l200, l201, l237, l436, l437, pk_mul, nI_add, inb_nI, nclamp, dlt, dle, deq, bif_t, bif_f, bif_nt, bif_nf, aft0, aft1, decide_true, decide_false, Bool.not_true, Bool.not_false, cond_true, cond_false, Nat.add_sub_cancel, Nat.add_one_sub_one, ou9, mo1, nI_MO, OU_lt, OU_ge, Nat.not_lt_zero, Bool.or_false, Bool.or_true, Bool.true_or, Bool.false_or, Bool.and_true, Bool.and_false, Bool.true_and, Bool.false_and, bI_0n, bI_1n, Bool.not_not, h1]
      rw [cM_whereIs d Z M j (by omega), aft1, eM_stalks_31x]
      simp (disch := omega) only [l0, l1, l2, l3, l4, l5, l6, l7, l8, l9, l10, l11, l12, l13, l14, l15, l16, l17, l18, l19, l20, l21, l22, l23, l24, l25, l26, l27, l28, l29, l30, l31, l40, l48, l52, l57, l60, l65, l97, l99, l100, l102, l119, l122, l179, l197, l200, l201, l237, l436, l437, pk_mul, nI_add, inb_nI, nclamp, dlt, dle, deq, bif_t, bif_f, bif_nt, bif_nf, aft0, aft1, decide_true, decide_false, Bool.not_true, Bool.not_false, cond_true, cond_false, Nat.add_sub_cancel, Nat.add_one_sub_one, ou9, mo1, nI_MO, OU_lt, OU_ge, Nat.not_lt_zero, Bool.or_false, Bool.or_true, Bool.true_or, Bool.false_or, Bool.and_true, Bool.and_false, Bool.true_and, Bool.false_and, bI_0n, bI_1n, Bool.not_not]
      rw [cM_whereIs d Z M j (by omega), aft1, aft1, aft1, aft1]
      cases h6 : decide (nI 0 ≤ M.1 0 (99 + 4 * j + 1) - M.1 0 (179 + 3 * b)) <;> cases h7 : decide (nI 0 ≤ stalkB (M.1 0) (M.1 0 (179 + 3 * b)) j) <;> simp only [cond_true, cond_false] <;> rw [body j (by omega) _ _ _ rfl (by rw [h6]; rfl) (by rw [h7]; rfl)] <;> exact ih (j + 1) (by omega) _ _ _
  cases np with
  | zero =>
    have h1' : M.1 0 1 = nI 0 := h1
    rw [eM_stalks_14]
    simp (disch := omega) only [l0, l1, l2, l3, l4, l5, l6, l7, l8, l9, l10, l11, l12, l13, l14, l15, l16, l17, l18, l19, l20, l21, l22, l23, l24, l25, l26, l27, l28, l29, l30, l31, l40, l48, l52, l57, l60, l65, l97, l99, l100, l102, l119, l122, l179, l197, l200, l201, l237, l436, l437, pk_mul, nI_add, inb_nI, nclamp, dlt, dle, deq, bif_t, bif_f, bif_nt, bif_nf, aft0, aft1, decide_true, decide_false, Bool.not_true, Bool.not_false, cond_true, cond_false, Nat.add_sub_cancel, Nat.add_one_sub_one, ou9, mo1, nI_MO, OU_lt, OU_ge, Nat.not_lt_zero, Bool.or_false, Bool.or_true, Bool.true_or, Bool.false_or, Bool.and_true, Bool.and_false, Bool.true_and, Bool.false_and, bI_0n, bI_1n, Bool.not_not, h1']
    unfold stalkF stalkB
    rfl
  | succ n =>
    rw [eM_stalks_14]
    simp (disch := omega) only [l0, l1, l2, l3, l4, l5, l6, l7, l8, l9, l10, l11, l12, l13, l14, l15, l16, l17, l18, l19, l20, l21, l22, l23, l24, l25, l26, l27, l28, l29, l30, l31, l40, l48, l52, l57, l60, l65, l97, l99, l100, l102, l119, l122, l179, l197, l200, l201, l237, l436, l437, pk_mul, nI_add, inb_nI, nclamp, dlt, dle, deq, bif_t, bif_f, bif_nt, bif_nf, aft0, aft1, decide_true, decide_false, Bool.not_true, Bool.not_false, cond_true, cond_false, Nat.add_sub_cancel, Nat.add_one_sub_one, ou9, mo1, nI_MO, OU_lt, OU_ge, Nat.not_lt_zero, Bool.or_false, Bool.or_true, Bool.true_or, Bool.false_or, Bool.and_true, Bool.and_false, Bool.true_and, Bool.false_and, bI_0n, bI_1n, Bool.not_not, h1]
    rw [cM_whereIs d Z M 0 (by omega), aft1, eM_stalks_31]
    simp (disch := omega) only [l0, l1, l2, l3, l4, l5, l6, l7, l8, l9, l10, l11, l12, l13, l14, l15, l16, l17, l18, l19, l20, l21, l22, l23, l24, l25, l26, l27, l28, l29, l30, l31, l40, l48, l52, l57, l60, l65, l97, l99, l100, l102, l119, l122, l179, l197, l200, l201, l237, l436, l437, pk_mul, nI_add, inb_nI, nclamp, dlt, dle, deq, bif_t, bif_f, bif_nt, bif_nf, aft0, aft1, decide_true, decide_false, Bool.not_true, Bool.not_false, cond_true, cond_false, Nat.add_sub_cancel, Nat.add_one_sub_one, ou9, mo1, nI_MO, OU_lt, OU_ge, Nat.not_lt_zero, Bool.or_false, Bool.or_true, Bool.true_or, Bool.false_or, Bool.and_true, Bool.and_false, Bool.true_and, Bool.false_and, bI_0n, bI_1n, Bool.not_not]
    rw [cM_whereIs d Z M 0 (by omega), aft1, aft1]
    have h7 : decide (nI 0 ≤ nI 99) = true := by decide
    have := body 0 (by omega)
    cases h6 : decide (nI 0 ≤ M.1 0 (99 + 4 * 0 + 1) - M.1 0 (179 + 3 * b)) <;> simp only [cond_true, cond_false]
    · refine (body 0 (by omega) _ _ _ rfl (by rw [h6]; rfl) (by rw [stalkB, h7]; rfl)).trans (loop n 1 (by omega) _ _ _)
    · refine (body 0 (by omega) _ _ _ rfl (by rw [h6]; rfl) (by rw [stalkB, h7]; rfl)).trans (loop n 1 (by omega) _ _ _)
