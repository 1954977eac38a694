/-! PEOPLE's moves. -/
def freeB (s : Nat → Int32) (np : Nat) (c : Nat) : Bool := decide (nI (crN s (nI c) np) < s (9 + 3 * c)) && decide (nI (faN s (nI c) np) < s 7)
theorem cM_isFree (d : Nat) (Z : ZT) (M : MS) (c np : Nat) (hc : c < 30) (h1 : M.1 0 1 = nI np) (hnp : np ≤ 20) : call PGM (d + 3) yM_isFree [.ref 91, .int (nI c)] (hM Z M) = some (some (.int (bI (freeB (M.1 0) np c))), hM Z M) := by
  rw [kM_isFree, eM_isFree_0, cM_crowd d Z M _ np h1 hnp, aft1, eM_isFree_5]
  simp (disch := omega) only [l0, l1, l2, l3, l4, l5, l6, l7, l8, l9, l10, l11, l12, l13, l14, l15, l16, l17, l18, l19, l20, l21, l22, l23, l24, l25, l26, l27, l28, l29, l30, l31, l40, l48, l52, l57, l60, l65, l97, l99, l100, l102, l119, l122, l179, l197, l200, l201, l237, l436, l437, pk_mul, nI_add, inb_nI, nclamp, dlt, dle, deq, bif_t, bif_f, bif_nt, bif_nf, aft0, aft1, decide_true, decide_false, Bool.not_true, Bool.not_false, cond_true, cond_false, Nat.add_sub_cancel, Nat.add_one_sub_one, ou9, mo1, nI_MO, OU_lt, OU_ge, Nat.not_lt_zero, Bool.or_false, Bool.or_true, Bool.true_or, Bool.false_or, Bool.and_true, Bool.and_false, Bool.true_and, Bool.false_and, bI_0n, bI_1n, Bool.not_not]
  rw [cM_fallenIn d Z M _ np h1 hnp, aft1, eM_isFree_24, freeB, le_not_lt, le_not_lt]
  cases decide (nI (crN (M.1 0) (nI c) np) < M.1 0 (9 + 3 * c)) <;> cases decide (nI (faN (M.1 0) (nI c) np) < M.1 0 7) <;> rfl
def walkF (np p : Nat) : Nat → (Nat → Int32) → Nat → Int32
  | 0, s => s
  | k + 1, s => bif decide (s (99 + 4 * p + 1) + 1 = s 0) then upd s (99 + 4 * p + 1) OU else bif freeB s np (s (99 + 4 * p + 1) + 1).toNatClampNeg then walkF np p k (upd s (99 + 4 * p + 1) (s (99 + 4 * p + 1) + 1)) else s
theorem cM_walk (d : Nat) (Z : ZT) (p nc np t : Nat) (hp : p < 20) (hnc : nc ≤ 30) (hnp : np ≤ 20) (ht : t ≤ 4) : ∀ k (M : MS) j (u6 : Option Value) (c : Nat), j + k = t → M.1 0 0 = nI nc → M.1 0 1 = nI np → c < nc → M.1 0 (99 + 4 * p + 1) = nI c →
    sem PGM (d + 3) yM_runs (158, [some (.ref 91), some (.int (nI p)), some (.int (nI (99 + 4 * p))), some (.int (nI t)), some (.int (nI 1)), some (.int (nI j)), u6], [], hM Z M) = some (none, hM Z (mA M 0 (walkF np p k (M.1 0)))) := by
  have stop : ∀ (M : MS) (j : Nat) (u6 : Option Value), sem PGM (d + 3) yM_runs (158, [some (.ref 91), some (.int (nI p)), some (.int (nI (99 + 4 * p))), some (.int (nI t)), some (.int (nI 0)), some (.int (nI j)), u6], [], hM Z M) = some (none, hM Z M) := by
    intro M j u6
    rw [eM_runs_158]
    simp (disch := omega) only [l0, l1, l2, l3, l4, l5, l6, l7, l8, l9, l10, l11, l12, l13, l14, l15, l16, l17, l18, l19, l20, l21, l22, l23, l24, l25, l26, l27, l28, l29, l30, l31, l40, l48, l52, l57, l60, l65, l97, l99, l100, l102, l119, l122, l179, l197, l200, l201, l237, l436, l437, pk_mul, nI_add, inb_nI, nclamp, dlt, dle, deq, bif_t, bif_f, bif_nt, bif_nf, aft0, aft1, decide_true, decide_false, Bool.not_true, Bool.not_false, cond_true, cond_false, Nat.add_sub_cancel, Nat.add_one_sub_one, ou9, mo1, nI_MO, OU_lt, OU_ge, Nat.not_lt_zero, Bool.or_false, Bool.or_true, Bool.true_or, Bool.false_or, Bool.and_true, Bool.and_false, Bool.true_and, Bool.false_and, bI_0n, bI_1n, Bool.not_not]
    exact bif_same _ _
  intro k
  induction k with
  | zero =>
    intro M j u6 c hj h0 h1 hc h2
    rw [eM_runs_158]
    simp (disch := omega) only [l0, l1, l2, l3, l4, l5, l6, l7, l8, l9, l10, l11, l12, l13, l14, l15, l16, l17, l18, l19, l20, l21, l22, l23, l24, l25, l26, l27, l28, l29, l30, l31, l40, l48, l52, l57, l60, l65, l97, l99, l100, l102, l119, l122, l179, l197, l200, l201, l237, l436, l437, pk_mul, nI_add, inb_nI, nclamp, dlt, dle, deq, bif_t, bif_f, bif_nt, bif_nf, aft0, aft1, decide_true, decide_false, Bool.not_true, Bool.not_false, cond_true, cond_false, Nat.add_sub_cancel, Nat.add_one_sub_one, ou9, mo1, nI_MO, OU_lt, OU_ge, Nat.not_lt_zero, Bool.or_false, Bool.or_true, Bool.true_or, Bool.false_or, Bool.and_true, Bool.and_false, Bool.true_and, Bool.false_and, bI_0n, bI_1n, Bool.not_not]
    rw [walkF, mA_id]
  | succ k ih =>
    intro M j u6 c hj h0 h1 hc h2
    rw [eM_runs_158, walkF]
    simp (disch := omega) only [l0, l1, l2, l3, l4, l5, l6, l7, l8, l9, l10, l11, l12, l13, l14, l15, l16, l17, l18, l19, l20, l21, l22, l23, l24, l25, l26, l27, l28, l29, l30, l31, l40, l48, l52, l57, l60, l65, l97, l99, l100, l102, l119, l122, l179, l197, l200, l201, l237, l436, l437, pk_mul, nI_add, inb_nI, nclamp, dlt, dle, deq, bif_t, bif_f, bif_nt, bif_nf, aft0, aft1, decide_true, decide_false, Bool.not_true, Bool.not_false, cond_true, cond_false, Nat.add_sub_cancel, Nat.add_one_sub_one, ou9, mo1, nI_MO, OU_lt, OU_ge, Nat.not_lt_zero, Bool.or_false, Bool.or_true, Bool.true_or, Bool.false_or, Bool.and_true, Bool.and_false, Bool.true_and, Bool.false_and, bI_0n, bI_1n, Bool.not_not, h2, h0]
    by_cases hcc : c + 1 = nc
    · simp (disch := omega) only [l0, l1, l2, l3, l4, l5, l6, l7, l8, l9, l10, l11, l12, l13, l14, l15, l16, l17, l18, l19, l20, l21, l22, l23, l24, l25, l26, l27, l28, l29, l30, l31, l40, l48, l52, l57, l60, l65, l97, l99, l100, l102, l119, l122, l179, l197, l200, l201, l237, l436, l437, pk_mul, nI_add, inb_nI, nclamp, dlt, dle, deq, bif_t, bif_f, bif_nt, bif_nf, aft0, aft1, decide_true, decide_false, Bool.not_true, Bool.not_false, cond_true, cond_false, Nat.add_sub_cancel, Nat.add_one_sub_one, ou9, mo1, nI_MO, OU_lt, OU_ge, Nat.not_lt_zero, Bool.or_false, Bool.or_true, Bool.true_or, Bool.false_or, Bool.and_true, Bool.and_false, Bool.true_and, Bool.false_and, bI_0n, bI_1n, Bool.not_not, eM_runs_202]
      rw [stop]
    · have hlt : c + 1 < 30 := by omega
      simp (disch := omega) only [l0, l1, l2, l3, l4, l5, l6, l7, l8, l9, l10, l11, l12, l13, l14, l15, l16, l17, l18, l19, l20, l21, l22, l23, l24, l25, l26, l27, l28, l29, l30, l31, l40, l48, l52, l57, l60, l65, l97, l99, l100, l102, l119, l122, l179, l197, l200, l201, l237, l436, l437, pk_mul, nI_add, inb_nI, nclamp, dlt, dle, deq, bif_t, bif_f, bif_nt, bif_nf, aft0, aft1, decide_true, decide_false, Bool.not_true, Bool.not_false, cond_true, cond_false, Nat.add_sub_cancel, Nat.add_one_sub_one, ou9, mo1, nI_MO, OU_lt, OU_ge, Nat.not_lt_zero, Bool.or_false, Bool.or_true, Bool.true_or, Bool.false_or, Bool.and_true, Bool.and_false, Bool.true_and, Bool.false_and, bI_0n, bI_1n, Bool.not_not]
      rw [cM_isFree d Z M (c + 1) np hlt h1 hnp, aft1, eM_runs_214, bI_0]
      cases hf : freeB (M.1 0) np (c + 1) with
      | false =>
        simp only [Bool.not_false, cond_true, cond_false]
        simp (disch := omega) only [l0, l1, l2, l3, l4, l5, l6, l7, l8, l9, l10, l11, l12, l13, l14, l15, l16, l17, l18, l19, l20, l21, l22, l23, l24, l25, l26, l27, l28, l29, l30, l31, l40, l48, l52, l57, l60, l65, l97, l99, l100, l102, l119, l122, l179, l197, l200, l201, l237, l436, l437, pk_mul, nI_add, inb_nI, nclamp, dlt, dle, deq, bif_t, bif_f, bif_nt, bif_nf, aft0, aft1, decide_true, decide_false, Bool.not_true, Bool.not_false, cond_true, cond_false, Nat.add_sub_cancel, Nat.add_one_sub_one, ou9, mo1, nI_MO, OU_lt, OU_ge, Nat.not_lt_zero, Bool.or_false, Bool.or_true, Bool.true_or, Bool.false_or, Bool.and_true, Bool.and_false, Bool.true_and, Bool.false_and, bI_0n, bI_1n, Bool.not_not]
        rw [stop, mA_id]
      | true =>
        simp (disch := omega) only [l0, l1, l2, l3, l4, l5, l6, l7, l8, l9, l10, l11, l12, l13, l14, l15, l16, l17, l18, l19, l20, l21, l22, l23, l24, l25, l26, l27, l28, l29, l30, l31, l40, l48, l52, l57, l60, l65, l97, l99, l100, l102, l119, l122, l179, l197, l200, l201, l237, l436, l437, pk_mul, nI_add, inb_nI, nclamp, dlt, dle, deq, bif_t, bif_f, bif_nt, bif_nf, aft0, aft1, decide_true, decide_false, Bool.not_true, Bool.not_false, cond_true, cond_false, Nat.add_sub_cancel, Nat.add_one_sub_one, ou9, mo1, nI_MO, OU_lt, OU_ge, Nat.not_lt_zero, Bool.or_false, Bool.or_true, Bool.true_or, Bool.false_or, Bool.and_true, Bool.and_false, Bool.true_and, Bool.false_and, bI_0n, bI_1n, Bool.not_not, eM_runs_227]
        have := ih (mA M 0 (upd (M.1 0) (99 + 4 * p + 1) (nI (c + 1)))) (j + 1) (some (.int (nI (c + 1)))) (c + 1) (by omega) (by rw [mA_s, upd_ne (by omega)]; exact h0) (by rw [mA_s, upd_ne (by omega)]; exact h1) (by omega) (by rw [mA_s, upd_eq])
        rw [mA_mA, mA_s] at this
        exact this
def paceN (kind : Int32) (a : Nat) : Nat := if kind = nI 4 then a + 1 else if kind = nI 5 then (if a ≤ 1 then a else a - 1) else a
def runF (s : Nat → Int32) (np nb p : Nat) : Nat → Int32 :=
  bif under (s (99 + 4 * p)) (nI 3) then
    upd s (99 + 4 * p) (bif decide (nrF s (s (99 + 4 * p + 1)) nb ≤ s 6) then s (99 + 4 * p) else bif decide (s (99 + 4 * p) = nI 3) then nI 1 else bif decide (s 7 ≤ nI (faN s (s (99 + 4 * p + 1)) np)) then s (99 + 4 * p) else nI 1)
  else walkF np p (paceN (s (99 + 4 * p)) (s (99 + 4 * p + 2)).toNatClampNeg) s
theorem cM_runs (d : Nat) (Z : ZT) (M : MS) (p nc np nb a c : Nat) (hp : p < 20) (hnc : nc ≤ 30) (hnp : np ≤ 20) (hnb : nb ≤ 6) (h0 : M.1 0 0 = nI nc) (h1 : M.1 0 1 = nI np) (h2 : M.1 0 2 = nI nb) (hc : c < nc) (h3 : M.1 0 (99 + 4 * p + 1) = nI c) (ha : 1 ≤ a ∧ a ≤ 3) (h4 : M.1 0 (99 + 4 * p + 2) = nI a) :
    call PGM (d + 4) yM_runs [.ref 91, .int (nI p)] (hM Z M) = some (none, hM Z (mA M 0 (runF (M.1 0) np nb p))) := by
  rw [kM_runs, eM_runs_0]
  simp (disch := omega) only [l0, l1, l2, l3, l4, l5, l6, l7, l8, l9, l10, l11, l12, l13, l14, l15, l16, l17, l18, l19, l20, l21, l22, l23, l24, l25, l26, l27, l28, l29, l30, l31, l40, l48, l52, l57, l60, l65, l97, l99, l100, l102, l119, l122, l179, l197, l200, l201, l237, l436, l437, pk_mul, nI_add, inb_nI, nclamp, dlt, dle, deq, bif_t, bif_f, bif_nt, bif_nf, aft0, aft1, decide_true, decide_false, Bool.not_true, Bool.not_false, cond_true, cond_false, Nat.add_sub_cancel, Nat.add_one_sub_one, ou9, mo1, nI_MO, OU_lt, OU_ge, Nat.not_lt_zero, Bool.or_false, Bool.or_true, Bool.true_or, Bool.false_or, Bool.and_true, Bool.and_false, Bool.true_and, Bool.false_and, bI_0n, bI_1n, Bool.not_not]
  rw [cM_under, aft1, eM_runs_17, bI_0, runF]
  cases hu : under (M.1 0 (99 + 4 * p)) (nI 3) with
  | true =>
    simp (disch := omega) only [l0, l1, l2, l3, l4, l5, l6, l7, l8, l9, l10, l11, l12, l13, l14, l15, l16, l17, l18, l19, l20, l21, l22, l23, l24, l25, l26, l27, l28, l29, l30, l31, l40, l48, l52, l57, l60, l65, l97, l99, l100, l102, l119, l122, l179, l197, l200, l201, l237, l436, l437, pk_mul, nI_add, inb_nI, nclamp, dlt, dle, deq, bif_t, bif_f, bif_nt, bif_nf, aft0, aft1, decide_true, decide_false, Bool.not_true, Bool.not_false, cond_true, cond_false, Nat.add_sub_cancel, Nat.add_one_sub_one, ou9, mo1, nI_MO, OU_lt, OU_ge, Nat.not_lt_zero, Bool.or_false, Bool.or_true, Bool.true_or, Bool.false_or, Bool.and_true, Bool.and_false, Bool.true_and, Bool.false_and, bI_0n, bI_1n, Bool.not_not]
    rw [cM_nearTo (d + 1) Z M _ nb h2 hnb, aft1, eM_runs_32]
    simp (disch := omega) only [l0, l1, l2, l3, l4, l5, l6, l7, l8, l9, l10, l11, l12, l13, l14, l15, l16, l17, l18, l19, l20, l21, l22, l23, l24, l25, l26, l27, l28, l29, l30, l31, l40, l48, l52, l57, l60, l65, l97, l99, l100, l102, l119, l122, l179, l197, l200, l201, l237, l436, l437, pk_mul, nI_add, inb_nI, nclamp, dlt, dle, deq, bif_t, bif_f, bif_nt, bif_nf, aft0, aft1, decide_true, decide_false, Bool.not_true, Bool.not_false, cond_true, cond_false, Nat.add_sub_cancel, Nat.add_one_sub_one, ou9, mo1, nI_MO, OU_lt, OU_ge, Nat.not_lt_zero, Bool.or_false, Bool.or_true, Bool.true_or, Bool.false_or, Bool.and_true, Bool.and_false, Bool.true_and, Bool.false_and, bI_0n, bI_1n, Bool.not_not]
    rw [cM_fallenIn (d + 1) Z M _ np h1 hnp, aft1, eM_runs_64]
    simp (disch := omega) only [l0, l1, l2, l3, l4, l5, l6, l7, l8, l9, l10, l11, l12, l13, l14, l15, l16, l17, l18, l19, l20, l21, l22, l23, l24, l25, l26, l27, l28, l29, l30, l31, l40, l48, l52, l57, l60, l65, l97, l99, l100, l102, l119, l122, l179, l197, l200, l201, l237, l436, l437, pk_mul, nI_add, inb_nI, nclamp, dlt, dle, deq, bif_t, bif_f, bif_nt, bif_nf, aft0, aft1, decide_true, decide_false, Bool.not_true, Bool.not_false, cond_true, cond_false, Nat.add_sub_cancel, Nat.add_one_sub_one, ou9, mo1, nI_MO, OU_lt, OU_ge, Nat.not_lt_zero, Bool.or_false, Bool.or_true, Bool.true_or, Bool.false_or, Bool.and_true, Bool.and_false, Bool.true_and, Bool.false_and, bI_0n, bI_1n, Bool.not_not]
    cases decide (nrF (M.1 0) (M.1 0 (99 + 4 * p + 1)) nb ≤ M.1 0 6) <;> cases decide (M.1 0 (99 + 4 * p) = nI 3) <;> cases decide (M.1 0 7 ≤ nI (faN (M.1 0) (M.1 0 (99 + 4 * p + 1)) np)) <;> rfl
  | false =>
    have w : ∀ t, t ≤ 4 → sem PGM (d + 3) yM_runs (158, [some (.ref 91), some (.int (nI p)), some (.int (nI (99 + 4 * p))), some (.int (nI t)), some (.int (nI 1)), some (.int (nI 0)), none], [], hM Z M) = some (none, hM Z (mA M 0 (walkF np p t (M.1 0)))) := fun t ht => cM_walk d Z p nc np t hp hnc hnp ht t M 0 none c (by omega) h0 h1 hc h3
    simp (disch := omega) only [l0, l1, l2, l3, l4, l5, l6, l7, l8, l9, l10, l11, l12, l13, l14, l15, l16, l17, l18, l19, l20, l21, l22, l23, l24, l25, l26, l27, l28, l29, l30, l31, l40, l48, l52, l57, l60, l65, l97, l99, l100, l102, l119, l122, l179, l197, l200, l201, l237, l436, l437, pk_mul, nI_add, inb_nI, nclamp, dlt, dle, deq, bif_t, bif_f, bif_nt, bif_nf, aft0, aft1, decide_true, decide_false, Bool.not_true, Bool.not_false, cond_true, cond_false, Nat.add_sub_cancel, Nat.add_one_sub_one, ou9, mo1, nI_MO, OU_lt, OU_ge, Nat.not_lt_zero, Bool.or_false, Bool.or_true, Bool.true_or, Bool.false_or, Bool.and_true, Bool.and_false, Bool.true_and, Bool.false_and, bI_0n, bI_1n, Bool.not_not, h4]
    unfold paceN
    by_cases h5 : M.1 0 (99 + 4 * p) = nI 4
    · simp only [h5, if_true, decide_true, Bool.not_true, cond_false]
      exact w (a + 1) (by omega)
    · by_cases h6 : M.1 0 (99 + 4 * p) = nI 5
      · simp only [h6, if_true, decide_true, Bool.not_true, cond_false]
        have e54 : decide (nI 5 = nI 4) = false := by decide
        have e54' : ¬ nI 5 = nI 4 := by decide
        simp only [e54, e54', Bool.not_false, cond_true, if_false]
        by_cases h7 : a ≤ 1
        · simp only [h7, decide_true, cond_true, if_true]
          exact w a (by omega)
        · simp only [h7, decide_false, cond_false, if_false]
          have := w (a - 1) (by omega)
          rw [show a = a - 1 + 1 by omega, nI_MO]
          exact this
      · simp only [h5, h6, if_false, decide_false, Bool.not_false, cond_true]
        exact w a (by omega)
