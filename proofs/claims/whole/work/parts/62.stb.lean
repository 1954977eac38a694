/-! The class's street: counts of BEASTS, FACTS. -/
theorem sub_ltz {c b : Nat} (hc : c < 1000) (hb : b < 1000) : decide (nI c - nI b < nI 0) = decide (c < b) := by
  rw [decide_eq_decide, Int32.lt_iff_toInt_lt, iv_sub hc hb, nI_toInt (by omega)]
  omega
theorem RS_v {S : SS} {s : Nat → Int32} {np nb : Nat} (h : RS S s np nb) {k : Nat} (hk : k < 5) : S.2.1 k = s k := h.1 k hk
theorem cS_nearOf (d : Nat) {o : Nat} (ho : o = 43 ∨ o = 59) {S : SS} (Z : RT) {s : Nat → Int32} {nc np nb T p c : Nat} {B : Nat → Nat} (h : RS S s np nb) (W : WF s nc np nb T B) (hp : p < np) (hc : c < nc) (hs : s (99 + 4 * p + 1) = nI c) :
    call PGM (d + 1) yS_nearOf [.ref o, .int (nI p)] (hS o S Z) = some (some (.int (nrF s (nI c) nb)), hS o S Z) := by
  have hnp := W.1.2.1.2
  have hnc := W.1.1.2.2
  have hnb : nb ≤ 6 := W.1.2.2.1.2
  have e2 : S.2.1 2 = nI nb := (h.1 2 (by omega)).trans W.1.2.2.1.1
  have p6 : S.1 6 p = nI c := (h.2.2.1 p hp).2.1.trans hs
  rw [kS_nearOf, eS_nearOf_0 d o ho]
  refine down (n := nb) (P := fun j => sem PGM d yS_nearOf (5, [some (.ref o), some (.int (nI p)), some (.int (nrF s (nI c) j)), some (.int (nI j))], [], hS o S Z) = some (some (.int (nrF s (nI c) nb)), hS o S Z)) ?_ (fun j hj ih => ?_) 0 (Nat.zero_le _)
  · rw [eS_nearOf_5 d o ho, e2]
    simp (disch := omega) only [l0, l1, l2, l3, l4, l5, l6, l7, l8, l9, l10, l11, l12, l13, l14, l15, l16, l17, l18, l19, l20, l21, l22, l23, l24, l25, l26, l27, l28, l29, l30, l31, l40, l48, l52, l57, l60, l65, l97, l99, l100, l102, l119, l122, l179, l197, l200, l201, l237, l436, l437, pk_mul, nI_add, inb_nI, nclamp, dlt, dle, deq, bif_t, bif_f, bif_nt, bif_nf, aft0, aft1, decide_true, decide_false, Bool.not_true, Bool.not_false, cond_true, cond_false, Nat.add_sub_cancel, Nat.add_one_sub_one, ou9, mo1, nI_MO, OU_lt, OU_ge, Nat.not_lt_zero, Bool.or_false, Bool.or_true, Bool.true_or, Bool.false_or, Bool.and_true, Bool.and_false, Bool.true_and, Bool.false_and, bI_0n, bI_1n, Bool.not_not]
  · have b9 : S.1 9 j = s (179 + 3 * j) := (h.2.2.2.1 j hj).1
    rw [eS_nearOf_5 d o ho, e2]
    rw [nrF] at ih
    simp (disch := omega) only [l0, l1, l2, l3, l4, l5, l6, l7, l8, l9, l10, l11, l12, l13, l14, l15, l16, l17, l18, l19, l20, l21, l22, l23, l24, l25, l26, l27, l28, l29, l30, l31, l40, l48, l52, l57, l60, l65, l97, l99, l100, l102, l119, l122, l179, l197, l200, l201, l237, l436, l437, pk_mul, nI_add, inb_nI, nclamp, dlt, dle, deq, bif_t, bif_f, bif_nt, bif_nf, aft0, aft1, decide_true, decide_false, Bool.not_true, Bool.not_false, cond_true, cond_false, Nat.add_sub_cancel, Nat.add_one_sub_one, ou9, mo1, nI_MO, OU_lt, OU_ge, Nat.not_lt_zero, Bool.or_false, Bool.or_true, Bool.true_or, Bool.false_or, Bool.and_true, Bool.and_false, Bool.true_and, Bool.false_and, bI_0n, bI_1n, Bool.not_not, b9, p6]
    rcases (W.2.2.2 j hj).1 with hq | ⟨e, he, hq⟩
    · simp (disch := omega) only [l0, l1, l2, l3, l4, l5, l6, l7, l8, l9, l10, l11, l12, l13, l14, l15, l16, l17, l18, l19, l20, l21, l22, l23, l24, l25, l26, l27, l28, l29, l30, l31, l40, l48, l52, l57, l60, l65, l97, l99, l100, l102, l119, l122, l179, l197, l200, l201, l237, l436, l437, pk_mul, nI_add, inb_nI, nclamp, dlt, dle, deq, bif_t, bif_f, bif_nt, bif_nf, aft0, aft1, decide_true, decide_false, Bool.not_true, Bool.not_false, cond_true, cond_false, Nat.add_sub_cancel, Nat.add_one_sub_one, ou9, mo1, nI_MO, OU_lt, OU_ge, Nat.not_lt_zero, Bool.or_false, Bool.or_true, Bool.true_or, Bool.false_or, Bool.and_true, Bool.and_false, Bool.true_and, Bool.false_and, bI_0n, bI_1n, Bool.not_not, hq] at ih
      simp (disch := omega) only [l0, l1, l2, l3, l4, l5, l6, l7, l8, l9, l10, l11, l12, l13, l14, l15, l16, l17, l18, l19, l20, l21, l22, l23, l24, l25, l26, l27, l28, l29, l30, l31, l40, l48, l52, l57, l60, l65, l97, l99, l100, l102, l119, l122, l179, l197, l200, l201, l237, l436, l437, pk_mul, nI_add, inb_nI, nclamp, dlt, dle, deq, bif_t, bif_f, bif_nt, bif_nf, aft0, aft1, decide_true, decide_false, Bool.not_true, Bool.not_false, cond_true, cond_false, Nat.add_sub_cancel, Nat.add_one_sub_one, ou9, mo1, nI_MO, OU_lt, OU_ge, Nat.not_lt_zero, Bool.or_false, Bool.or_true, Bool.true_or, Bool.false_or, Bool.and_true, Bool.and_false, Bool.true_and, Bool.false_and, bI_0n, bI_1n, Bool.not_not, hq]
      exact ih
    · have hz := sub_ltz (c := c) (b := e) (by omega) (by omega)
      simp (disch := omega) only [l0, l1, l2, l3, l4, l5, l6, l7, l8, l9, l10, l11, l12, l13, l14, l15, l16, l17, l18, l19, l20, l21, l22, l23, l24, l25, l26, l27, l28, l29, l30, l31, l40, l48, l52, l57, l60, l65, l97, l99, l100, l102, l119, l122, l179, l197, l200, l201, l237, l436, l437, pk_mul, nI_add, inb_nI, nclamp, dlt, dle, deq, bif_t, bif_f, bif_nt, bif_nf, aft0, aft1, decide_true, decide_false, Bool.not_true, Bool.not_false, cond_true, cond_false, Nat.add_sub_cancel, Nat.add_one_sub_one, ou9, mo1, nI_MO, OU_lt, OU_ge, Nat.not_lt_zero, Bool.or_false, Bool.or_true, Bool.true_or, Bool.false_or, Bool.and_true, Bool.and_false, Bool.true_and, Bool.false_and, bI_0n, bI_1n, Bool.not_not, hq, hz] at ih
      simp (disch := omega) only [l0, l1, l2, l3, l4, l5, l6, l7, l8, l9, l10, l11, l12, l13, l14, l15, l16, l17, l18, l19, l20, l21, l22, l23, l24, l25, l26, l27, l28, l29, l30, l31, l40, l48, l52, l57, l60, l65, l97, l99, l100, l102, l119, l122, l179, l197, l200, l201, l237, l436, l437, pk_mul, nI_add, inb_nI, nclamp, dlt, dle, deq, bif_t, bif_f, bif_nt, bif_nf, aft0, aft1, decide_true, decide_false, Bool.not_true, Bool.not_false, cond_true, cond_false, Nat.add_sub_cancel, Nat.add_one_sub_one, ou9, mo1, nI_MO, OU_lt, OU_ge, Nat.not_lt_zero, Bool.or_false, Bool.or_true, Bool.true_or, Bool.false_or, Bool.and_true, Bool.and_false, Bool.true_and, Bool.false_and, bI_0n, bI_1n, Bool.not_not, hq]
      by_cases hce : c < e
      · simp only [hce, decide_true, cond_true] at ih ⊢
        exact ih
      · simp only [hce, decide_false, cond_false] at ih ⊢
        rw [le_not_lt] at ih
        by_cases hl : nI c - nI e < nrF s (nI c) j
        · simp only [hl, decide_true, Bool.not_true, cond_false, if_true] at ih ⊢
          exact ih
        · simp only [hl, decide_false, Bool.not_false, cond_true, if_false] at ih ⊢
          exact ih
theorem cS_lone (d : Nat) {o : Nat} (ho : o = 43 ∨ o = 59) {S : SS} (Z : RT) {s : Nat → Int32} {np nb : Nat} (h : RS S s np nb) (hnb : nb ≤ 6) (h2 : s 2 = nI nb) :
    call PGM (d + 1) yS_lone [.ref o] (hS o S Z) = some (some (.int (nI (loN s nb))), hS o S Z) := by
  have e2 : S.2.1 2 = nI nb := (h.1 2 (by omega)).trans h2
  rw [kS_lone, eS_lone_0 d o ho]
  refine down (n := nb) (P := fun j => sem PGM d yS_lone (4, [some (.ref o), some (.int (nI (loN s j))), some (.int (nI j))], [], hS o S Z) = some (some (.int (nI (loN s nb))), hS o S Z)) ?_ (fun j hj ih => ?_) 0 (Nat.zero_le _)
  · rw [eS_lone_4 d o ho, e2]
    simp (disch := omega) only [l0, l1, l2, l3, l4, l5, l6, l7, l8, l9, l10, l11, l12, l13, l14, l15, l16, l17, l18, l19, l20, l21, l22, l23, l24, l25, l26, l27, l28, l29, l30, l31, l40, l48, l52, l57, l60, l65, l97, l99, l100, l102, l119, l122, l179, l197, l200, l201, l237, l436, l437, pk_mul, nI_add, inb_nI, nclamp, dlt, dle, deq, bif_t, bif_f, bif_nt, bif_nf, aft0, aft1, decide_true, decide_false, Bool.not_true, Bool.not_false, cond_true, cond_false, Nat.add_sub_cancel, Nat.add_one_sub_one, ou9, mo1, nI_MO, OU_lt, OU_ge, Nat.not_lt_zero, Bool.or_false, Bool.or_true, Bool.true_or, Bool.false_or, Bool.and_true, Bool.and_false, Bool.true_and, Bool.false_and, bI_0n, bI_1n, Bool.not_not]
  · obtain ⟨b9, b10, b11⟩ := h.2.2.2.1 j hj
    have e0 : loN s (j + 1) = loN s j + (bif (!decide (s (179 + 3 * j) < 0) && decide (s (179 + 3 * j + 2) = 1)) then 1 else 0) := rfl
    rw [eS_lone_4 d o ho, e2]
    rw [e0] at ih
    simp (disch := omega) only [l0, l1, l2, l3, l4, l5, l6, l7, l8, l9, l10, l11, l12, l13, l14, l15, l16, l17, l18, l19, l20, l21, l22, l23, l24, l25, l26, l27, l28, l29, l30, l31, l40, l48, l52, l57, l60, l65, l97, l99, l100, l102, l119, l122, l179, l197, l200, l201, l237, l436, l437, pk_mul, nI_add, inb_nI, nclamp, dlt, dle, deq, bif_t, bif_f, bif_nt, bif_nf, aft0, aft1, decide_true, decide_false, Bool.not_true, Bool.not_false, cond_true, cond_false, Nat.add_sub_cancel, Nat.add_one_sub_one, ou9, mo1, nI_MO, OU_lt, OU_ge, Nat.not_lt_zero, Bool.or_false, Bool.or_true, Bool.true_or, Bool.false_or, Bool.and_true, Bool.and_false, Bool.true_and, Bool.false_and, bI_0n, bI_1n, Bool.not_not, b9, b11]
    simp (disch := omega) only [l0, l1, l2, l3, l4, l5, l6, l7, l8, l9, l10, l11, l12, l13, l14, l15, l16, l17, l18, l19, l20, l21, l22, l23, l24, l25, l26, l27, l28, l29, l30, l31, l40, l48, l52, l57, l60, l65, l97, l99, l100, l102, l119, l122, l179, l197, l200, l201, l237, l436, l437, pk_mul, nI_add, inb_nI, nclamp, dlt, dle, deq, bif_t, bif_f, bif_nt, bif_nf, aft0, aft1, decide_true, decide_false, Bool.not_true, Bool.not_false, cond_true, cond_false, Nat.add_sub_cancel, Nat.add_one_sub_one, ou9, mo1, nI_MO, OU_lt, OU_ge, Nat.not_lt_zero, Bool.or_false, Bool.or_true, Bool.true_or, Bool.false_or, Bool.and_true, Bool.and_false, Bool.true_and, Bool.false_and, bI_0n, bI_1n, Bool.not_not] at ih
    cases h6 : decide (s (179 + 3 * j) < nI 0) <;> cases h7 : decide (s (179 + 3 * j + 2) = nI 1) <;> simp only [h6, h7] at ih ⊢ <;> exact ih
theorem cS_beastsIn (d : Nat) {o : Nat} (ho : o = 43 ∨ o = 59) {S : SS} (Z : RT) {s : Nat → Int32} {np nb : Nat} {c : Int32} (h : RS S s np nb) (hnb : nb ≤ 6) (h2 : s 2 = nI nb) :
    call PGM (d + 1) yS_beastsIn [.ref o, .int c] (hS o S Z) = some (some (.int (nI (beN s c nb))), hS o S Z) := by
  have e2 : S.2.1 2 = nI nb := (h.1 2 (by omega)).trans h2
  rw [kS_beastsIn, eS_beastsIn_0 d o ho]
  refine down (n := nb) (P := fun j => sem PGM d yS_beastsIn (4, [some (.ref o), some (.int c), some (.int (nI (beN s c j))), some (.int (nI j))], [], hS o S Z) = some (some (.int (nI (beN s c nb))), hS o S Z)) ?_ (fun j hj ih => ?_) 0 (Nat.zero_le _)
  · rw [eS_beastsIn_4 d o ho, e2]
    simp (disch := omega) only [l0, l1, l2, l3, l4, l5, l6, l7, l8, l9, l10, l11, l12, l13, l14, l15, l16, l17, l18, l19, l20, l21, l22, l23, l24, l25, l26, l27, l28, l29, l30, l31, l40, l48, l52, l57, l60, l65, l97, l99, l100, l102, l119, l122, l179, l197, l200, l201, l237, l436, l437, pk_mul, nI_add, inb_nI, nclamp, dlt, dle, deq, bif_t, bif_f, bif_nt, bif_nf, aft0, aft1, decide_true, decide_false, Bool.not_true, Bool.not_false, cond_true, cond_false, Nat.add_sub_cancel, Nat.add_one_sub_one, ou9, mo1, nI_MO, OU_lt, OU_ge, Nat.not_lt_zero, Bool.or_false, Bool.or_true, Bool.true_or, Bool.false_or, Bool.and_true, Bool.and_false, Bool.true_and, Bool.false_and, bI_0n, bI_1n, Bool.not_not]
  · obtain ⟨b9, b10, b11⟩ := h.2.2.2.1 j hj
    have e0 : beN s c (j + 1) = beN s c j + (bif decide (s (179 + 3 * j) = c) then 1 else 0) := rfl
    rw [eS_beastsIn_4 d o ho, e2]
    rw [e0] at ih
    simp (disch := omega) only [l0, l1, l2, l3, l4, l5, l6, l7, l8, l9, l10, l11, l12, l13, l14, l15, l16, l17, l18, l19, l20, l21, l22, l23, l24, l25, l26, l27, l28, l29, l30, l31, l40, l48, l52, l57, l60, l65, l97, l99, l100, l102, l119, l122, l179, l197, l200, l201, l237, l436, l437, pk_mul, nI_add, inb_nI, nclamp, dlt, dle, deq, bif_t, bif_f, bif_nt, bif_nf, aft0, aft1, decide_true, decide_false, Bool.not_true, Bool.not_false, cond_true, cond_false, Nat.add_sub_cancel, Nat.add_one_sub_one, ou9, mo1, nI_MO, OU_lt, OU_ge, Nat.not_lt_zero, Bool.or_false, Bool.or_true, Bool.true_or, Bool.false_or, Bool.and_true, Bool.and_false, Bool.true_and, Bool.false_and, bI_0n, bI_1n, Bool.not_not, b9]
    cases h6 : decide (s (179 + 3 * j) = c) <;> simp only [h6] at ih ⊢ <;> exact ih
/-- HURTS of the first PEOPLE -/
def huS (s : Nat → Int32) : Nat → Int32
  | 0 => nI 0
  | p + 1 => huS s p + s (99 + 4 * p + 3)
theorem cS_allHurts (d : Nat) {o : Nat} (ho : o = 43 ∨ o = 59) {S : SS} (Z : RT) {s : Nat → Int32} {np nb : Nat} (h : RS S s np nb) (hnp : np ≤ 20) (h1 : s 1 = nI np) :
    call PGM (d + 1) yS_allHurts [.ref o] (hS o S Z) = some (some (.int (huS s np)), hS o S Z) := by
  have e1 : S.2.1 1 = nI np := (h.1 1 (by omega)).trans h1
  rw [kS_allHurts, eS_allHurts_0 d o ho]
  refine down (n := np) (P := fun j => sem PGM d yS_allHurts (4, [some (.ref o), some (.int (huS s j)), some (.int (nI j))], [], hS o S Z) = some (some (.int (huS s np)), hS o S Z)) ?_ (fun j hj ih => ?_) 0 (Nat.zero_le _)
  · rw [eS_allHurts_4 d o ho, e1]
    simp (disch := omega) only [l0, l1, l2, l3, l4, l5, l6, l7, l8, l9, l10, l11, l12, l13, l14, l15, l16, l17, l18, l19, l20, l21, l22, l23, l24, l25, l26, l27, l28, l29, l30, l31, l40, l48, l52, l57, l60, l65, l97, l99, l100, l102, l119, l122, l179, l197, l200, l201, l237, l436, l437, pk_mul, nI_add, inb_nI, nclamp, dlt, dle, deq, bif_t, bif_f, bif_nt, bif_nf, aft0, aft1, decide_true, decide_false, Bool.not_true, Bool.not_false, cond_true, cond_false, Nat.add_sub_cancel, Nat.add_one_sub_one, ou9, mo1, nI_MO, OU_lt, OU_ge, Nat.not_lt_zero, Bool.or_false, Bool.or_true, Bool.true_or, Bool.false_or, Bool.and_true, Bool.and_false, Bool.true_and, Bool.false_and, bI_0n, bI_1n, Bool.not_not]
  · obtain ⟨p5, p6, p7, p8⟩ := h.2.2.1 j hj
    rw [eS_allHurts_4 d o ho, e1]
    rw [huS] at ih
    simp (disch := omega) only [l0, l1, l2, l3, l4, l5, l6, l7, l8, l9, l10, l11, l12, l13, l14, l15, l16, l17, l18, l19, l20, l21, l22, l23, l24, l25, l26, l27, l28, l29, l30, l31, l40, l48, l52, l57, l60, l65, l97, l99, l100, l102, l119, l122, l179, l197, l200, l201, l237, l436, l437, pk_mul, nI_add, inb_nI, nclamp, dlt, dle, deq, bif_t, bif_f, bif_nt, bif_nf, aft0, aft1, decide_true, decide_false, Bool.not_true, Bool.not_false, cond_true, cond_false, Nat.add_sub_cancel, Nat.add_one_sub_one, ou9, mo1, nI_MO, OU_lt, OU_ge, Nat.not_lt_zero, Bool.or_false, Bool.or_true, Bool.true_or, Bool.false_or, Bool.and_true, Bool.and_false, Bool.true_and, Bool.false_and, bI_0n, bI_1n, Bool.not_not, p8]
    exact ih
def ouN (s : Nat → Int32) : Nat → Nat := cnt (fun p => decide (s (99 + 4 * p + 1) < 0))
theorem cS_peopleOut (d : Nat) {o : Nat} (ho : o = 43 ∨ o = 59) {S : SS} (Z : RT) {s : Nat → Int32} {np nb : Nat} (h : RS S s np nb) (hnp : np ≤ 20) (h1 : s 1 = nI np) :
    call PGM (d + 2) yS_peopleOut [.ref o] (hS o S Z) = some (some (.int (nI (ouN s np))), hS o S Z) := by
  have e1 : S.2.1 1 = nI np := (h.1 1 (by omega)).trans h1
  rw [kS_peopleOut, eS_peopleOut_0 (d + 1) o ho]
  refine down (n := np) (P := fun j => sem PGM (d + 1) yS_peopleOut (4, [some (.ref o), some (.int (nI (ouN s j))), some (.int (nI j))], [], hS o S Z) = some (some (.int (nI (ouN s np))), hS o S Z)) ?_ (fun j hj ih => ?_) 0 (Nat.zero_le _)
  · rw [eS_peopleOut_4 (d + 1) o ho, e1]
    simp (disch := omega) only [l0, l1, l2, l3, l4, l5, l6, l7, l8, l9, l10, l11, l12, l13, l14, l15, l16, l17, l18, l19, l20, l21, l22, l23, l24, l25, l26, l27, l28, l29, l30, l31, l40, l48, l52, l57, l60, l65, l97, l99, l100, l102, l119, l122, l179, l197, l200, l201, l237, l436, l437, pk_mul, nI_add, inb_nI, nclamp, dlt, dle, deq, bif_t, bif_f, bif_nt, bif_nf, aft0, aft1, decide_true, decide_false, Bool.not_true, Bool.not_false, cond_true, cond_false, Nat.add_sub_cancel, Nat.add_one_sub_one, ou9, mo1, nI_MO, OU_lt, OU_ge, Nat.not_lt_zero, Bool.or_false, Bool.or_true, Bool.true_or, Bool.false_or, Bool.and_true, Bool.and_false, Bool.true_and, Bool.false_and, bI_0n, bI_1n, Bool.not_not]
  · obtain ⟨p5, p6, p7, p8⟩ := h.2.2.1 j hj
    have e0 : ouN s (j + 1) = ouN s j + (bif decide (s (99 + 4 * j + 1) < 0) then 1 else 0) := rfl
    rw [eS_peopleOut_4 (d + 1) o ho, e1]
    rw [cS_isOut d ho S Z (show j < 20 by omega), aft1, eS_peopleOut_17 (d + 1) o ho, p6]
    rw [e0] at ih
    simp (disch := omega) only [l0, l1, l2, l3, l4, l5, l6, l7, l8, l9, l10, l11, l12, l13, l14, l15, l16, l17, l18, l19, l20, l21, l22, l23, l24, l25, l26, l27, l28, l29, l30, l31, l40, l48, l52, l57, l60, l65, l97, l99, l100, l102, l119, l122, l179, l197, l200, l201, l237, l436, l437, pk_mul, nI_add, inb_nI, nclamp, dlt, dle, deq, bif_t, bif_f, bif_nt, bif_nf, aft0, aft1, decide_true, decide_false, Bool.not_true, Bool.not_false, cond_true, cond_false, Nat.add_sub_cancel, Nat.add_one_sub_one, ou9, mo1, nI_MO, OU_lt, OU_ge, Nat.not_lt_zero, Bool.or_false, Bool.or_true, Bool.true_or, Bool.false_or, Bool.and_true, Bool.and_false, Bool.true_and, Bool.false_and, bI_0n, bI_1n, Bool.not_not]
    simp (disch := omega) only [l0, l1, l2, l3, l4, l5, l6, l7, l8, l9, l10, l11, l12, l13, l14, l15, l16, l17, l18, l19, l20, l21, l22, l23, l24, l25, l26, l27, l28, l29, l30, l31, l40, l48, l52, l57, l60, l65, l97, l99, l100, l102, l119, l122, l179, l197, l200, l201, l237, l436, l437, pk_mul, nI_add, inb_nI, nclamp, dlt, dle, deq, bif_t, bif_f, bif_nt, bif_nf, aft0, aft1, decide_true, decide_false, Bool.not_true, Bool.not_false, cond_true, cond_false, Nat.add_sub_cancel, Nat.add_one_sub_one, ou9, mo1, nI_MO, OU_lt, OU_ge, Nat.not_lt_zero, Bool.or_false, Bool.or_true, Bool.true_or, Bool.false_or, Bool.and_true, Bool.and_false, Bool.true_and, Bool.false_and, bI_0n, bI_1n, Bool.not_not] at ih
    cases h6 : decide (s (99 + 4 * j + 1) < nI 0) <;> simp only [h6] at ih ⊢ <;> exact ih
theorem sA_sA (S : SS) (k : Nat) (f g : Nat → Int32) : sA (sA S k f) k g = sA S k g := by
  unfold sA
  congr 1
  funext j
  simp only [up]
  cases Nat.beq j k <;> rfl
theorem RS_13 {S : SS} {s : Nat → Int32} {np nb : Nat} (h : RS S s np nb) (f : Nat → Int32) : RS (sA S 13 f) s np nb := by
  obtain ⟨hV, hC, hP, hB, hR, hN⟩ := h
  refine ⟨hV, fun c hc => ?_, fun p hp => ?_, fun b hb => ?_, fun k hk => ?_, fun c hc => ?_⟩
  · rw [sA_n (by omega), sA_n (by omega), sA_n (by omega)]; exact hC c hc
  · rw [sA_n (by omega), sA_n (by omega), sA_n (by omega), sA_n (by omega)]; exact hP p hp
  · rw [sA_n (by omega), sA_n (by omega), sA_n (by omega)]; exact hB b hb
  · rw [sA_n (by omega)]; exact hR k hk
  · rw [sA_n (by omega), sA_n (by omega)]; exact hN c hc
theorem cS_lookAround (d : Nat) {o : Nat} (ho : o = 43 ∨ o = 59) {S : SS} (Z : RT) {s : Nat → Int32} {nc np nb T p c : Nat} {B : Nat → Nat} (h : RS S s np nb) (W : WF s nc np nb T B) (hp : p < np) (hc : c < nc) (hs : s (99 + 4 * p + 1) = nI c) :
    ∃ f, call PGM (d + 3) yS_lookAround [.ref o, .int (nI p)] (hS o S Z) = some (none, hS o (sA S 13 f) Z) ∧ ∀ w, w < 6 → f w = factN s np nb (nI c) w := by
  have hnp := W.1.2.1.2
  have hnc := W.1.1.2.2
  have hnb : nb ≤ 6 := W.1.2.2.1.2
  have e0 : S.2.1 0 = nI nc := (h.1 0 (by omega)).trans W.1.1.1
  have p6 : S.1 6 p = nI c := (h.2.2.1 p hp).2.1.trans hs
  have c3 : S.1 3 c = nI (crN s (nI c) np) := (h.2.2.2.2.2 c (by omega)).1
  rw [kS_lookAround, eS_lookAround_0 (d + 2) o ho, cS_nearOf (d + 1) ho Z h W hp hc hs]
  simp (disch := omega) only [l0, l1, l2, l3, l4, l5, l6, l7, l8, l9, l10, l11, l12, l13, l14, l15, l16, l17, l18, l19, l20, l21, l22, l23, l24, l25, l26, l27, l28, l29, l30, l31, l40, l48, l52, l57, l60, l65, l97, l99, l100, l102, l119, l122, l179, l197, l200, l201, l237, l436, l437, pk_mul, nI_add, inb_nI, nclamp, dlt, dle, deq, bif_t, bif_f, bif_nt, bif_nf, aft0, aft1, decide_true, decide_false, Bool.not_true, Bool.not_false, cond_true, cond_false, Nat.add_sub_cancel, Nat.add_one_sub_one, ou9, mo1, nI_MO, OU_lt, OU_ge, Nat.not_lt_zero, Bool.or_false, Bool.or_true, Bool.true_or, Bool.false_or, Bool.and_true, Bool.and_false, Bool.true_and, Bool.false_and, bI_0n, bI_1n, Bool.not_not, p6]
  rw [eS_lookAround_17 (d + 2) o ho]
  simp (disch := omega) only [l0, l1, l2, l3, l4, l5, l6, l7, l8, l9, l10, l11, l12, l13, l14, l15, l16, l17, l18, l19, l20, l21, l22, l23, l24, l25, l26, l27, l28, l29, l30, l31, l40, l48, l52, l57, l60, l65, l97, l99, l100, l102, l119, l122, l179, l197, l200, l201, l237, l436, l437, pk_mul, nI_add, inb_nI, nclamp, dlt, dle, deq, bif_t, bif_f, bif_nt, bif_nf, aft0, aft1, decide_true, decide_false, Bool.not_true, Bool.not_false, cond_true, cond_false, Nat.add_sub_cancel, Nat.add_one_sub_one, ou9, mo1, nI_MO, OU_lt, OU_ge, Nat.not_lt_zero, Bool.or_false, Bool.or_true, Bool.true_or, Bool.false_or, Bool.and_true, Bool.and_false, Bool.true_and, Bool.false_and, bI_0n, bI_1n, Bool.not_not]
  rw [eS_lookAround_18 (d + 2) o ho, cS_crowdIn d ho Z (S := sA S 13 _) (c := c) (nc := nc) (by omega) hnc e0, aft1, eS_lookAround_28 (d + 2) o ho]
  simp (disch := omega) only [l0, l1, l2, l3, l4, l5, l6, l7, l8, l9, l10, l11, l12, l13, l14, l15, l16, l17, l18, l19, l20, l21, l22, l23, l24, l25, l26, l27, l28, l29, l30, l31, l40, l48, l52, l57, l60, l65, l97, l99, l100, l102, l119, l122, l179, l197, l200, l201, l237, l436, l437, pk_mul, nI_add, inb_nI, nclamp, dlt, dle, deq, bif_t, bif_f, bif_nt, bif_nf, aft0, aft1, decide_true, decide_false, Bool.not_true, Bool.not_false, cond_true, cond_false, Nat.add_sub_cancel, Nat.add_one_sub_one, ou9, mo1, nI_MO, OU_lt, OU_ge, Nat.not_lt_zero, Bool.or_false, Bool.or_true, Bool.true_or, Bool.false_or, Bool.and_true, Bool.and_false, Bool.true_and, Bool.false_and, bI_0n, bI_1n, Bool.not_not, sA_s, sA_n, sA_sA, c3]
  rw [eS_lookAround_29 (d + 2) o ho]
  simp (disch := omega) only [l0, l1, l2, l3, l4, l5, l6, l7, l8, l9, l10, l11, l12, l13, l14, l15, l16, l17, l18, l19, l20, l21, l22, l23, l24, l25, l26, l27, l28, l29, l30, l31, l40, l48, l52, l57, l60, l65, l97, l99, l100, l102, l119, l122, l179, l197, l200, l201, l237, l436, l437, pk_mul, nI_add, inb_nI, nclamp, dlt, dle, deq, bif_t, bif_f, bif_nt, bif_nf, aft0, aft1, decide_true, decide_false, Bool.not_true, Bool.not_false, cond_true, cond_false, Nat.add_sub_cancel, Nat.add_one_sub_one, ou9, mo1, nI_MO, OU_lt, OU_ge, Nat.not_lt_zero, Bool.or_false, Bool.or_true, Bool.true_or, Bool.false_or, Bool.and_true, Bool.and_false, Bool.true_and, Bool.false_and, bI_0n, bI_1n, Bool.not_not]
  rw [cS_hasCellN (d + 1) ho Z (S := sA S 13 _) (c := c + 1) (nc := nc) (by omega) hnc e0, aft1, eS_lookAround_41 (d + 2) o ho]
  have rest : ∀ x, x = ahN s (nI c) np → ∃ f, sem PGM (d + 2) yS_lookAround (58, [some (.ref o), some (.int (nI p)), some (.int (nI c))], [], hS o (sA S 13 (upd (upd (upd (S.1 13) 0 (nrF s (nI c) nb)) 1 (nI (crN s (nI c) np))) 2 x)) Z) = some (none, hS o (sA S 13 f) Z) ∧ ∀ w, w < 6 → f w = factN s np nb (nI c) w := by
    intro x hx
    rw [eS_lookAround_58 (d + 2) o ho, eS_lookAround_65 (d + 2) o ho, eS_lookAround_75 (d + 2) o ho, cS_lone (d + 1) ho Z (RS_13 (RS_13 (RS_13 h _) _) _) hnb W.1.2.2.1.1, aft1, eS_lookAround_84 (d + 2) o ho]
    have z5 : inb (5 : Int32) 6 = true := by decide
    rw [z5, cond_true]
    refine ⟨_, by rw [sA_sA, sA_sA, sA_sA], fun w hw => ?_⟩
    rw [sA_s, sA_s, sA_s]
    have c5 : (5 : Int32).toNatClampNeg = 5 := by decide
    have e3 : (sA (sA S 13 (upd (upd (upd (S.1 13) 0 (nrF s (nI c) nb)) 1 (nI (crN s (nI c) np))) 2 x)) 13 (upd (upd (upd (upd (S.1 13) 0 (nrF s (nI c) nb)) 1 (nI (crN s (nI c) np))) 2 x) 3 (nI c))).2.1 3 = s 3 := h.1 3 (by omega)
    rw [c5, e3]
    have e : w = 0 ∨ w = 1 ∨ w = 2 ∨ w = 3 ∨ w = 4 ∨ w = 5 := by omega
    rcases e with e | e | e | e | e | e <;> subst e <;> simp [upd, factN, hx]
  by_cases hcc : c + 1 < nc
  · have c3' : S.1 3 (c + 1) = nI (crN s (nI (c + 1)) np) := (h.2.2.2.2.2 (c + 1) (by omega)).1
    simp (disch := omega) only [l0, l1, l2, l3, l4, l5, l6, l7, l8, l9, l10, l11, l12, l13, l14, l15, l16, l17, l18, l19, l20, l21, l22, l23, l24, l25, l26, l27, l28, l29, l30, l31, l40, l48, l52, l57, l60, l65, l97, l99, l100, l102, l119, l122, l179, l197, l200, l201, l237, l436, l437, pk_mul, nI_add, inb_nI, nclamp, dlt, dle, deq, bif_t, bif_f, bif_nt, bif_nf, aft0, aft1, decide_true, decide_false, Bool.not_true, Bool.not_false, cond_true, cond_false, Nat.add_sub_cancel, Nat.add_one_sub_one, ou9, mo1, nI_MO, OU_lt, OU_ge, Nat.not_lt_zero, Bool.or_false, Bool.or_true, Bool.true_or, Bool.false_or, Bool.and_true, Bool.and_false, Bool.true_and, Bool.false_and, bI_0n, bI_1n, Bool.not_not, sA_s, sA_n, sA_sA, hcc, c3']
    refine rest _ ?_
    rw [ahN, W.1.1.1, nI_1, dle (by omega) (by omega), bif_f (by omega)]
  · simp (disch := omega) only [l0, l1, l2, l3, l4, l5, l6, l7, l8, l9, l10, l11, l12, l13, l14, l15, l16, l17, l18, l19, l20, l21, l22, l23, l24, l25, l26, l27, l28, l29, l30, l31, l40, l48, l52, l57, l60, l65, l97, l99, l100, l102, l119, l122, l179, l197, l200, l201, l237, l436, l437, pk_mul, nI_add, inb_nI, nclamp, dlt, dle, deq, bif_t, bif_f, bif_nt, bif_nf, aft0, aft1, decide_true, decide_false, Bool.not_true, Bool.not_false, cond_true, cond_false, Nat.add_sub_cancel, Nat.add_one_sub_one, ou9, mo1, nI_MO, OU_lt, OU_ge, Nat.not_lt_zero, Bool.or_false, Bool.or_true, Bool.true_or, Bool.false_or, Bool.and_true, Bool.and_false, Bool.true_and, Bool.false_and, bI_0n, bI_1n, Bool.not_not, sA_s, sA_n, sA_sA, hcc]
    refine rest _ ?_
    rw [ahN, W.1.1.1, nI_1, dle (by omega) (by omega), bif_t (by omega)]
    rfl
