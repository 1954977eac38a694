/-! LAWS in the model's row; the CLAUSE by which one goes. -/
abbrev CL : Type := Nat × Nat × Bool × Nat × List Op
/-- a CLAUSE as it lies in the row -/
def clM (s : Nat → Int32) (k : Nat) (c : CL) : Prop :=
  c.1 < 8 ∧ c.2.1 < 4 ∧ s (197 + 5 * k) = nI c.1 ∧ s (197 + 5 * k + 1) = nI c.2.1 ∧ s (197 + 5 * k + 2) = bI c.2.2.1 ∧ s (197 + 5 * k + 3) = nI c.2.2.2.1 ∧ s (197 + 5 * k + 4) = nI (c.2.2.2.1 + (opsM c.2.2.2.2).length) ∧ c.2.2.2.1 + (opsM c.2.2.2.2).length ≤ 200 ∧ (∀ j, j < (opsM c.2.2.2.2).length → s (237 + c.2.2.2.1 + j) = (opsM c.2.2.2.2).getD j 0) ∧ (c.2.2.1 = true → okS c.2.2.2.2 0) ∧ (c.2.2.1 = false → c.2.2.2.2 = [])
def lawM (s : Nat → Int32) (n : Nat) (C : Nat → CL) : Prop := n ≤ 8 ∧ s 8 = nI n ∧ ∀ k, k < n → clM s k (C k)
def saysO (f : Nat → Int32) (c : CL) : Bool := !c.2.2.1 || (evO f c.2.2.2.2 []).headD false
theorem cM_holds (d : Nat) (Z : ZT) (M : MS) (k p np nb : Nat) (c : CL) (hk : k < 8) (hp : p < 80) (hc : clM (M.1 0) k c) (h1 : M.1 0 1 = nI np) (hnp : np ≤ 20) (h2 : M.1 0 2 = nI nb) (hnb : nb ≤ 6) :
    ∃ q, call PGM (d + 5) yM_holds [.ref 91, .int (nI k), .int (nI p)] (hM Z M) = some (some (.int (bI (saysO (factN (M.1 0) np nb (M.1 0 (99 + 4 * p + 1))) c))), hM Z (mA M 6 q)) := by
  obtain ⟨_, _, _, _, e2, e3, e4, hle, hj, hy, hn⟩ := hc
  rw [kM_holds, eM_holds_0]
  simp (disch := omega) only [l0, l1, l2, l3, l4, l5, l6, l7, l8, l9, l10, l11, l12, l13, l14, l15, l16, l17, l18, l19, l20, l21, l22, l23, l24, l25, l26, l27, l28, l29, l30, l31, l40, l48, l52, l57, l60, l65, l97, l99, l100, l102, l119, l122, l179, l197, l200, l201, l237, l436, l437, pk_mul, nI_add, inb_nI, nclamp, dlt, dle, deq, bif_t, bif_f, bif_nt, bif_nf, aft0, aft1, decide_true, decide_false, Bool.not_true, Bool.not_false, cond_true, cond_false, Nat.add_sub_cancel, Nat.add_one_sub_one, ou9, mo1, nI_MO, OU_lt, OU_ge, Nat.not_lt_zero, Bool.or_false, Bool.or_true, Bool.true_or, Bool.false_or, Bool.and_true, Bool.and_false, Bool.true_and, Bool.false_and, bI_0n, bI_1n, Bool.not_not, e3]
  cases hh : c.2.2.1 with
  | true =>
    rw [hh] at e2
    obtain ⟨q, hq⟩ := mH_loop d Z M (some (.int (nI k))) p (197 + 5 * k) _ np nb hp (by omega) hle e4 e2 h1 hnp h2 hnb c.2.2.2.2 [] c.2.2.2.1 (M.1 6) none (hy hh) (by simp) hj rfl trivial
    rw [mA_id] at hq
    refine ⟨q, hq.trans ?_⟩
    simp only [saysO, hh, Bool.not_true, Bool.false_or]
  | false =>
    have e := hn hh
    rw [e] at e4 hle
    rw [hh] at e2
    refine ⟨M.1 6, ?_⟩
    rw [mA_id, eM_holds_21]
    have e4' : M.1 0 (197 + 5 * k + 4) = nI c.2.2.2.1 := e4
    have e2' : M.1 0 (197 + 5 * k + 2) = nI 0 := e2
    simp (disch := omega) only [l0, l1, l2, l3, l4, l5, l6, l7, l8, l9, l10, l11, l12, l13, l14, l15, l16, l17, l18, l19, l20, l21, l22, l23, l24, l25, l26, l27, l28, l29, l30, l31, l40, l48, l52, l57, l60, l65, l97, l99, l100, l102, l119, l122, l179, l197, l200, l201, l237, l436, l437, pk_mul, nI_add, inb_nI, nclamp, dlt, dle, deq, bif_t, bif_f, bif_nt, bif_nf, aft0, aft1, decide_true, decide_false, Bool.not_true, Bool.not_false, cond_true, cond_false, Nat.add_sub_cancel, Nat.add_one_sub_one, ou9, mo1, nI_MO, OU_lt, OU_ge, Nat.not_lt_zero, Bool.or_false, Bool.or_true, Bool.true_or, Bool.false_or, Bool.and_true, Bool.and_false, Bool.true_and, Bool.false_and, bI_0n, bI_1n, Bool.not_not, e4', e2']
    simp [saysO, hh, bI, nI]
/-- the first that says yes -/
def pikC (g : Nat → Bool) : Nat → Nat → Int32
  | 0, _ => OU
  | m + 1, k => bif g k then nI k else pikC g m (k + 1)
def goodC (s : Nat → Int32) (np nb : Nat) (C : Nat → CL) (wo : Int32) (p k : Nat) : Bool := !decide (nI k = wo) && (under (s (99 + 4 * p)) (nI (C k).1) && saysO (factN s np nb (s (99 + 4 * p + 1))) (C k))
theorem cM_clauseOf (d : Nat) (Z : ZT) (M : MS) (n p np nb : Nat) (C : Nat → CL) (hp : p < 80) (hl : lawM (M.1 0) n C) (h1 : M.1 0 1 = nI np) (hnp : np ≤ 20) (h2 : M.1 0 2 = nI nb) (hnb : nb ≤ 6) :
    ∃ q, call PGM (d + 6) yM_clauseOf [.ref 91, .int (nI p)] (hM Z M) = some (some (.int (pikC (goodC (M.1 0) np nb C (M.2 8) p) n 0)), hM Z (mA M 6 q)) := by
  obtain ⟨hn, h8, hC⟩ := hl
  rw [kM_clauseOf, eM_clauseOf_0]
  have loop : ∀ m k, k + m = n → ∀ q, ∃ q', sem PGM (d + 5) yM_clauseOf (2, [some (.ref 91), some (.int (nI p)), some (.int (nI k))], [], hM Z (mA M 6 q)) = some (some (.int (pikC (goodC (M.1 0) np nb C (M.2 8) p) m k)), hM Z (mA M 6 q')) := by
    intro m
    induction m with
    | zero =>
      intro k hk q
      refine ⟨q, ?_⟩
      rw [eM_clauseOf_2]
      simp (disch := omega) only [l0, l1, l2, l3, l4, l5, l6, l7, l8, l9, l10, l11, l12, l13, l14, l15, l16, l17, l18, l19, l20, l21, l22, l23, l24, l25, l26, l27, l28, l29, l30, l31, l40, l48, l52, l57, l60, l65, l97, l99, l100, l102, l119, l122, l179, l197, l200, l201, l237, l436, l437, pk_mul, nI_add, inb_nI, nclamp, dlt, dle, deq, bif_t, bif_f, bif_nt, bif_nf, aft0, aft1, decide_true, decide_false, Bool.not_true, Bool.not_false, cond_true, cond_false, Nat.add_sub_cancel, Nat.add_one_sub_one, ou9, mo1, nI_MO, OU_lt, OU_ge, Nat.not_lt_zero, Bool.or_false, Bool.or_true, Bool.true_or, Bool.false_or, Bool.and_true, Bool.and_false, Bool.true_and, Bool.false_and, bI_0n, bI_1n, Bool.not_not, mA_n, h8]
      rfl
    | succ m ih =>
      intro k hk q
      rw [eM_clauseOf_2]
      simp (disch := omega) only [l0, l1, l2, l3, l4, l5, l6, l7, l8, l9, l10, l11, l12, l13, l14, l15, l16, l17, l18, l19, l20, l21, l22, l23, l24, l25, l26, l27, l28, l29, l30, l31, l40, l48, l52, l57, l60, l65, l97, l99, l100, l102, l119, l122, l179, l197, l200, l201, l237, l436, l437, pk_mul, nI_add, inb_nI, nclamp, dlt, dle, deq, bif_t, bif_f, bif_nt, bif_nf, aft0, aft1, decide_true, decide_false, Bool.not_true, Bool.not_false, cond_true, cond_false, Nat.add_sub_cancel, Nat.add_one_sub_one, ou9, mo1, nI_MO, OU_lt, OU_ge, Nat.not_lt_zero, Bool.or_false, Bool.or_true, Bool.true_or, Bool.false_or, Bool.and_true, Bool.and_false, Bool.true_and, Bool.false_and, bI_0n, bI_1n, Bool.not_not, mA_n, mA_2, h8]
      have hc := hC k (by omega)
      cases hw : decide (nI k = M.2 8) with
      | true =>
        simp only [cond_true]
        obtain ⟨q', hq'⟩ := ih (k + 1) (by omega) q
        refine ⟨q', hq'.trans ?_⟩
        simp [pikC, goodC, hw]
      | false =>
        simp only [cond_false]
        rw [cM_kindOf (d + 4) Z (mA M 6 q) p hp, aft1, eM_clauseOf_26]
        simp (disch := omega) only [l0, l1, l2, l3, l4, l5, l6, l7, l8, l9, l10, l11, l12, l13, l14, l15, l16, l17, l18, l19, l20, l21, l22, l23, l24, l25, l26, l27, l28, l29, l30, l31, l40, l48, l52, l57, l60, l65, l97, l99, l100, l102, l119, l122, l179, l197, l200, l201, l237, l436, l437, pk_mul, nI_add, inb_nI, nclamp, dlt, dle, deq, bif_t, bif_f, bif_nt, bif_nf, aft0, aft1, decide_true, decide_false, Bool.not_true, Bool.not_false, cond_true, cond_false, Nat.add_sub_cancel, Nat.add_one_sub_one, ou9, mo1, nI_MO, OU_lt, OU_ge, Nat.not_lt_zero, Bool.or_false, Bool.or_true, Bool.true_or, Bool.false_or, Bool.and_true, Bool.and_false, Bool.true_and, Bool.false_and, bI_0n, bI_1n, Bool.not_not, mA_n, hc.2.2.1]
        rw [cM_under, aft1, eM_clauseOf_41, bI_0]
        cases hu : under (M.1 0 (99 + 4 * p)) (nI (C k).1) with
        | false =>
          simp only [Bool.not_false, cond_true]
          rw [nI_1]
          obtain ⟨q', hq'⟩ := ih (k + 1) (by omega) q
          refine ⟨q', hq'.trans ?_⟩
          simp [pikC, goodC, hw, hu]
        | true =>
          simp only [Bool.not_true, cond_false]
          obtain ⟨q1, hq1⟩ := cM_holds d Z (mA M 6 q) k p np nb (C k) (by omega) hp hc h1 hnp h2 hnb
          rw [mA_mA] at hq1
          rw [hq1, aft1, eM_clauseOf_50, bI_0]
          cases hs : saysO (factN (M.1 0) np nb (M.1 0 (99 + 4 * p + 1))) (C k) with
          | false =>
            rw [mA_n (show (0 : Nat) ≠ 6 by omega)]
            simp only [hs, Bool.not_false, cond_true]
            rw [nI_1]
            obtain ⟨q', hq'⟩ := ih (k + 1) (by omega) q1
            refine ⟨q', hq'.trans ?_⟩
            simp [pikC, goodC, hw, hu, hs]
          | true =>
            rw [mA_n (show (0 : Nat) ≠ 6 by omega)]
            simp only [hs, Bool.not_true, cond_false]
            refine ⟨q1, ?_⟩
            simp [pikC, goodC, hw, hu, hs]
  have := loop n 0 (by omega) (M.1 6)
  rw [mA_id] at this
  exact this
