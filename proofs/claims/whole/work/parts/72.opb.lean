/-! Calls of both: cell, cellOf, personOf, beastOf, many, trace, says, fact. -/
theorem op_cell (d i : Nat) (g : GT) (X : XS) (N T K : SS) (M : MS) (dd : AH) (h : INV i X N K M dd) (a b v : Int32) : OPR d i g X N T K M dd yB_cell yM_cell [.int a, .int b, .int v] := by
  have h' := h
  obtain ⟨⟨⟨nc, np, nb, n, C, R, W, L, D⟩, wo5⟩, _⟩ := h'
  have hnp := W.1.2.1.2
  have hnc := W.1.1.2.2
  have e0 : N.2.1 0 = nI nc := (R.1 0 (by omega)).trans W.1.1.1
  have ent : call PGM (d + 40) yB_cell [.ref 12, .int a, .int b, .int v] (heapOf g X N T K M dd) = sem PGM (d + 39) yB_cell (8, [some (.ref 12), some (.int a), some (.int b), some (.int v), none], [.int (bI (hasB a nc))], heapOf g X N T K M dd) := by
    rw [kB_cell, eB_cell_0, cN_hasCell (d + 38) g X T K M dd a e0, aft1]
  have entM : ∀ Z : ZT, call PGM (d + 40) yM_cell [.ref 91, .int a, .int b, .int v] (hM Z M) = sem PGM (d + 39) yM_cell (5, [some (.ref 91), some (.int a), some (.int b), some (.int v), none], [.int (bI (hasB a nc))], hM Z M) := by
    intro Z
    rw [kM_cell, eM_cell_0, cM_isCell (d + 37) Z M a hnc W.1.1.1, aft1]
  cases ha : hasB a nc with
  | false =>
    refine op_ro MO h ?_ ?_
    · rw [ent, ha, eB_cell_8]
      rfl
    · rw [hM_eq, entM, ha, eM_cell_5]
      rfl
  | true =>
    obtain ⟨c, hc, rfl⟩ := has_t (by omega) ha
    have step : ∀ Z : ZT, call PGM (d + 40) yM_cell [.ref 91, .int (nI c), .int b, .int v] (hM Z M) = sem PGM (d + 39) yM_cell (17, [some (.ref 91), some (.int (nI c)), some (.int b), some (.int v), none], [.int (bI (rng b 0 2))], hM Z M) := by
      intro Z
      rw [entM, ha, eM_cell_5, bI_0, w0, w2, cM_rng (d + 38), aft1]
      rfl
    rcases rng3 b (lo := 0) (hi := 2) (by omega) (by omega) with ⟨k, k0, k2, rfl⟩ | ⟨hr, hc1⟩ | ⟨hr, hc1, hc2, hc3⟩
    · have lim : ∀ lo hi, lo ≤ hi → hi ≤ 9 → (k = 0 → lo = 1 ∧ hi = 9) → (k = 1 → lo = 0 ∧ hi = 4) → (k = 2 → lo = 0 ∧ hi = 1) → OPR d i g X N T K M dd yB_cell yM_cell [.int (nI c), .int (nI k), .int v] := by
        intro lo hi lh h9 e0' e1' e2'
        have r02 : rng (nI k) 0 2 = true := by rw [rng_n (by omega) (by omega) (by omega)]; simp; omega
        have cM : ∀ Z : ZT, call PGM (d + 40) yM_cell [.ref 91, .int (nI c), .int (nI k), .int v] (hM Z M) = sem PGM (d + 39) yM_cell (56, [some (.ref 91), some (.int (nI c)), some (.int (nI k)), some (.int v), none], [.int (bI (rng v lo hi))], hM Z M) := by
          intro Z
          rw [step, r02, eM_cell_17, bI_0, w0, w1, w4, w9, cM_rng (d + 38), cM_rng (d + 38), cM_rng (d + 38), cM_rng (d + 38), cM_rng (d + 38), cM_rng (d + 38), aft1, aft1, aft1, aft1, aft1, aft1]
          have e : k = 0 ∨ k = 1 ∨ k = 2 := by omega
          rcases e with e | e | e <;> subst e
          · rw [(e0' rfl).1, (e0' rfl).2]
            simp (disch := omega) only [l0, l1, l2, l3, l4, l5, l6, l7, l8, l9, l10, l11, l12, l13, l14, l15, l16, l17, l18, l19, l20, l21, l22, l23, l24, l25, l26, l27, l28, l29, l30, l31, l40, l48, l52, l57, l60, l65, l97, l99, l100, l102, l119, l122, l179, l197, l200, l201, l237, l436, l437, pk_mul, nI_add, inb_nI, nclamp, dlt, dle, deq, bif_t, bif_f, bif_nt, bif_nf, aft0, aft1, decide_true, decide_false, Bool.not_true, Bool.not_false, cond_true, cond_false, Nat.add_sub_cancel, Nat.add_one_sub_one, ou9, mo1, nI_MO, OU_lt, OU_ge, Nat.not_lt_zero, Bool.or_false, Bool.or_true, Bool.true_or, Bool.false_or, Bool.and_true, Bool.and_false, Bool.true_and, Bool.false_and, bI_0n, bI_1n, Bool.not_not]
          · rw [(e1' rfl).1, (e1' rfl).2]
            simp (disch := omega) only [l0, l1, l2, l3, l4, l5, l6, l7, l8, l9, l10, l11, l12, l13, l14, l15, l16, l17, l18, l19, l20, l21, l22, l23, l24, l25, l26, l27, l28, l29, l30, l31, l40, l48, l52, l57, l60, l65, l97, l99, l100, l102, l119, l122, l179, l197, l200, l201, l237, l436, l437, pk_mul, nI_add, inb_nI, nclamp, dlt, dle, deq, bif_t, bif_f, bif_nt, bif_nf, aft0, aft1, decide_true, decide_false, Bool.not_true, Bool.not_false, cond_true, cond_false, Nat.add_sub_cancel, Nat.add_one_sub_one, ou9, mo1, nI_MO, OU_lt, OU_ge, Nat.not_lt_zero, Bool.or_false, Bool.or_true, Bool.true_or, Bool.false_or, Bool.and_true, Bool.and_false, Bool.true_and, Bool.false_and, bI_0n, bI_1n, Bool.not_not]
          · rw [(e2' rfl).1, (e2' rfl).2]
            simp (disch := omega) only [l0, l1, l2, l3, l4, l5, l6, l7, l8, l9, l10, l11, l12, l13, l14, l15, l16, l17, l18, l19, l20, l21, l22, l23, l24, l25, l26, l27, l28, l29, l30, l31, l40, l48, l52, l57, l60, l65, l97, l99, l100, l102, l119, l122, l179, l197, l200, l201, l237, l436, l437, pk_mul, nI_add, inb_nI, nclamp, dlt, dle, deq, bif_t, bif_f, bif_nt, bif_nf, aft0, aft1, decide_true, decide_false, Bool.not_true, Bool.not_false, cond_true, cond_false, Nat.add_sub_cancel, Nat.add_one_sub_one, ou9, mo1, nI_MO, OU_lt, OU_ge, Nat.not_lt_zero, Bool.or_false, Bool.or_true, Bool.true_or, Bool.false_or, Bool.and_true, Bool.and_false, Bool.true_and, Bool.false_and, bI_0n, bI_1n, Bool.not_not]
        rcases rng3 v (lo := lo) (hi := hi) (by omega) lh with ⟨x, x0, x2, rfl⟩ | ⟨hr, hc1⟩ | ⟨hr, hc1, hc2, hc3⟩
        · have hwf : WF (upd (M.1 0) (9 + 3 * c + k) (nI x)) nc np nb (60 * i) (fun _ => 180 * i) := WF_cell W (by omega) (by omega) (by omega) (by omega) (by omega)
          refine op_ns (N.1 k c) (sA N k (upd (N.1 k) c (nI x))) (upd (M.1 0) (9 + 3 * c + k) (nI x)) h ?_ ?_ (iS_up (RS_c R hnp (by omega) (by omega)) hwf (lawM_congr L (upd_ne (by omega)) (fun j hj => upd_ne (by omega))) D) wo5
          · rw [ent, ha, eB_cell_8]
            have e : k = 0 ∨ k = 1 ∨ k = 2 := by omega
            rcases e with e | e | e <;> subst e
            · have := e0' rfl
              simp (disch := omega) only [l0, l1, l2, l3, l4, l5, l6, l7, l8, l9, l10, l11, l12, l13, l14, l15, l16, l17, l18, l19, l20, l21, l22, l23, l24, l25, l26, l27, l28, l29, l30, l31, l40, l48, l52, l57, l60, l65, l97, l99, l100, l102, l119, l122, l179, l197, l200, l201, l237, l436, l437, pk_mul, nI_add, inb_nI, nclamp, dlt, dle, deq, bif_t, bif_f, bif_nt, bif_nf, aft0, aft1, decide_true, decide_false, Bool.not_true, Bool.not_false, cond_true, cond_false, Nat.add_sub_cancel, Nat.add_one_sub_one, ou9, mo1, nI_MO, OU_lt, OU_ge, Nat.not_lt_zero, Bool.or_false, Bool.or_true, Bool.true_or, Bool.false_or, Bool.and_true, Bool.and_false, Bool.true_and, Bool.false_and, bI_0n, bI_1n, Bool.not_not, g40, g50]
            · have := e1' rfl
              simp (disch := omega) only [l0, l1, l2, l3, l4, l5, l6, l7, l8, l9, l10, l11, l12, l13, l14, l15, l16, l17, l18, l19, l20, l21, l22, l23, l24, l25, l26, l27, l28, l29, l30, l31, l40, l48, l52, l57, l60, l65, l97, l99, l100, l102, l119, l122, l179, l197, l200, l201, l237, l436, l437, pk_mul, nI_add, inb_nI, nclamp, dlt, dle, deq, bif_t, bif_f, bif_nt, bif_nf, aft0, aft1, decide_true, decide_false, Bool.not_true, Bool.not_false, cond_true, cond_false, Nat.add_sub_cancel, Nat.add_one_sub_one, ou9, mo1, nI_MO, OU_lt, OU_ge, Nat.not_lt_zero, Bool.or_false, Bool.or_true, Bool.true_or, Bool.false_or, Bool.and_true, Bool.and_false, Bool.true_and, Bool.false_and, bI_0n, bI_1n, Bool.not_not, g41, g51]
            · have := e2' rfl
              simp (disch := omega) only [l0, l1, l2, l3, l4, l5, l6, l7, l8, l9, l10, l11, l12, l13, l14, l15, l16, l17, l18, l19, l20, l21, l22, l23, l24, l25, l26, l27, l28, l29, l30, l31, l40, l48, l52, l57, l60, l65, l97, l99, l100, l102, l119, l122, l179, l197, l200, l201, l237, l436, l437, pk_mul, nI_add, inb_nI, nclamp, dlt, dle, deq, bif_t, bif_f, bif_nt, bif_nf, aft0, aft1, decide_true, decide_false, Bool.not_true, Bool.not_false, cond_true, cond_false, Nat.add_sub_cancel, Nat.add_one_sub_one, ou9, mo1, nI_MO, OU_lt, OU_ge, Nat.not_lt_zero, Bool.or_false, Bool.or_true, Bool.true_or, Bool.false_or, Bool.and_true, Bool.and_false, Bool.true_and, Bool.false_and, bI_0n, bI_1n, Bool.not_not, g42, g52]
          · have rt : rng (nI x) lo hi = true := by rw [rng_n (by omega) (by omega) (by omega)]; simp; omega
            have eN : N.1 k c = M.1 0 (9 + 3 * c + k) := by
              have e : k = 0 ∨ k = 1 ∨ k = 2 := by omega
              rcases e with e | e | e <;> subst e
              · exact (R.2.1 c (by omega)).1
              · exact (R.2.1 c (by omega)).2.1
              · exact (R.2.1 c (by omega)).2.2
            rw [hM_eq, cM, rt, eM_cell_56, eN]
            simp (disch := omega) only [l0, l1, l2, l3, l4, l5, l6, l7, l8, l9, l10, l11, l12, l13, l14, l15, l16, l17, l18, l19, l20, l21, l22, l23, l24, l25, l26, l27, l28, l29, l30, l31, l40, l48, l52, l57, l60, l65, l97, l99, l100, l102, l119, l122, l179, l197, l200, l201, l237, l436, l437, pk_mul, nI_add, inb_nI, nclamp, dlt, dle, deq, bif_t, bif_f, bif_nt, bif_nf, aft0, aft1, decide_true, decide_false, Bool.not_true, Bool.not_false, cond_true, cond_false, Nat.add_sub_cancel, Nat.add_one_sub_one, ou9, mo1, nI_MO, OU_lt, OU_ge, Nat.not_lt_zero, Bool.or_false, Bool.or_true, Bool.true_or, Bool.false_or, Bool.and_true, Bool.and_false, Bool.true_and, Bool.false_and, bI_0n, bI_1n, Bool.not_not]
            rfl
        · refine op_ro MO h ?_ ?_
          · rw [ent, ha, eB_cell_8]
            have e : k = 0 ∨ k = 1 ∨ k = 2 := by omega
            rcases e with e | e | e <;> subst e
            · rw [(e0' rfl).1] at hc1
              simp (disch := omega) only [l0, l1, l2, l3, l4, l5, l6, l7, l8, l9, l10, l11, l12, l13, l14, l15, l16, l17, l18, l19, l20, l21, l22, l23, l24, l25, l26, l27, l28, l29, l30, l31, l40, l48, l52, l57, l60, l65, l97, l99, l100, l102, l119, l122, l179, l197, l200, l201, l237, l436, l437, pk_mul, nI_add, inb_nI, nclamp, dlt, dle, deq, bif_t, bif_f, bif_nt, bif_nf, aft0, aft1, decide_true, decide_false, Bool.not_true, Bool.not_false, cond_true, cond_false, Nat.add_sub_cancel, Nat.add_one_sub_one, ou9, mo1, nI_MO, OU_lt, OU_ge, Nat.not_lt_zero, Bool.or_false, Bool.or_true, Bool.true_or, Bool.false_or, Bool.and_true, Bool.and_false, Bool.true_and, Bool.false_and, bI_0n, bI_1n, Bool.not_not, g40, g50, hc1]
            · rw [(e1' rfl).1] at hc1
              simp (disch := omega) only [l0, l1, l2, l3, l4, l5, l6, l7, l8, l9, l10, l11, l12, l13, l14, l15, l16, l17, l18, l19, l20, l21, l22, l23, l24, l25, l26, l27, l28, l29, l30, l31, l40, l48, l52, l57, l60, l65, l97, l99, l100, l102, l119, l122, l179, l197, l200, l201, l237, l436, l437, pk_mul, nI_add, inb_nI, nclamp, dlt, dle, deq, bif_t, bif_f, bif_nt, bif_nf, aft0, aft1, decide_true, decide_false, Bool.not_true, Bool.not_false, cond_true, cond_false, Nat.add_sub_cancel, Nat.add_one_sub_one, ou9, mo1, nI_MO, OU_lt, OU_ge, Nat.not_lt_zero, Bool.or_false, Bool.or_true, Bool.true_or, Bool.false_or, Bool.and_true, Bool.and_false, Bool.true_and, Bool.false_and, bI_0n, bI_1n, Bool.not_not, g41, g51, hc1]
            · rw [(e2' rfl).1] at hc1
              simp (disch := omega) only [l0, l1, l2, l3, l4, l5, l6, l7, l8, l9, l10, l11, l12, l13, l14, l15, l16, l17, l18, l19, l20, l21, l22, l23, l24, l25, l26, l27, l28, l29, l30, l31, l40, l48, l52, l57, l60, l65, l97, l99, l100, l102, l119, l122, l179, l197, l200, l201, l237, l436, l437, pk_mul, nI_add, inb_nI, nclamp, dlt, dle, deq, bif_t, bif_f, bif_nt, bif_nf, aft0, aft1, decide_true, decide_false, Bool.not_true, Bool.not_false, cond_true, cond_false, Nat.add_sub_cancel, Nat.add_one_sub_one, ou9, mo1, nI_MO, OU_lt, OU_ge, Nat.not_lt_zero, Bool.or_false, Bool.or_true, Bool.true_or, Bool.false_or, Bool.and_true, Bool.and_false, Bool.true_and, Bool.false_and, bI_0n, bI_1n, Bool.not_not, g42, g52, hc1]
          · rw [hM_eq, cM, hr, eM_cell_56]
            rfl
        · refine op_ro MO h ?_ ?_
          · rw [ent, ha, eB_cell_8]
            have e : k = 0 ∨ k = 1 ∨ k = 2 := by omega
            rcases e with e | e | e <;> subst e
            · rw [(e0' rfl).1] at hc1
              rw [(e0' rfl).2] at hc3
              simp (disch := omega) only [l0, l1, l2, l3, l4, l5, l6, l7, l8, l9, l10, l11, l12, l13, l14, l15, l16, l17, l18, l19, l20, l21, l22, l23, l24, l25, l26, l27, l28, l29, l30, l31, l40, l48, l52, l57, l60, l65, l97, l99, l100, l102, l119, l122, l179, l197, l200, l201, l237, l436, l437, pk_mul, nI_add, inb_nI, nclamp, dlt, dle, deq, bif_t, bif_f, bif_nt, bif_nf, aft0, aft1, decide_true, decide_false, Bool.not_true, Bool.not_false, cond_true, cond_false, Nat.add_sub_cancel, Nat.add_one_sub_one, ou9, mo1, nI_MO, OU_lt, OU_ge, Nat.not_lt_zero, Bool.or_false, Bool.or_true, Bool.true_or, Bool.false_or, Bool.and_true, Bool.and_false, Bool.true_and, Bool.false_and, bI_0n, bI_1n, Bool.not_not, g40, g50, hc1, hc3]
            · rw [(e1' rfl).1] at hc1
              rw [(e1' rfl).2] at hc3
              simp (disch := omega) only [l0, l1, l2, l3, l4, l5, l6, l7, l8, l9, l10, l11, l12, l13, l14, l15, l16, l17, l18, l19, l20, l21, l22, l23, l24, l25, l26, l27, l28, l29, l30, l31, l40, l48, l52, l57, l60, l65, l97, l99, l100, l102, l119, l122, l179, l197, l200, l201, l237, l436, l437, pk_mul, nI_add, inb_nI, nclamp, dlt, dle, deq, bif_t, bif_f, bif_nt, bif_nf, aft0, aft1, decide_true, decide_false, Bool.not_true, Bool.not_false, cond_true, cond_false, Nat.add_sub_cancel, Nat.add_one_sub_one, ou9, mo1, nI_MO, OU_lt, OU_ge, Nat.not_lt_zero, Bool.or_false, Bool.or_true, Bool.true_or, Bool.false_or, Bool.and_true, Bool.and_false, Bool.true_and, Bool.false_and, bI_0n, bI_1n, Bool.not_not, g41, g51, hc1, hc3]
            · rw [(e2' rfl).1] at hc1
              rw [(e2' rfl).2] at hc3
              simp (disch := omega) only [l0, l1, l2, l3, l4, l5, l6, l7, l8, l9, l10, l11, l12, l13, l14, l15, l16, l17, l18, l19, l20, l21, l22, l23, l24, l25, l26, l27, l28, l29, l30, l31, l40, l48, l52, l57, l60, l65, l97, l99, l100, l102, l119, l122, l179, l197, l200, l201, l237, l436, l437, pk_mul, nI_add, inb_nI, nclamp, dlt, dle, deq, bif_t, bif_f, bif_nt, bif_nf, aft0, aft1, decide_true, decide_false, Bool.not_true, Bool.not_false, cond_true, cond_false, Nat.add_sub_cancel, Nat.add_one_sub_one, ou9, mo1, nI_MO, OU_lt, OU_ge, Nat.not_lt_zero, Bool.or_false, Bool.or_true, Bool.true_or, Bool.false_or, Bool.and_true, Bool.and_false, Bool.true_and, Bool.false_and, bI_0n, bI_1n, Bool.not_not, g42, g52, hc1, hc3]
          · rw [hM_eq, cM, hr, eM_cell_56]
            rfl
      have e : k = 0 ∨ k = 1 ∨ k = 2 := by omega
      rcases e with e | e | e
      · exact lim 1 9 (by omega) (by omega) (by omega) (by omega) (by omega)
      · exact lim 0 4 (by omega) (by omega) (by omega) (by omega) (by omega)
      · exact lim 0 1 (by omega) (by omega) (by omega) (by omega) (by omega)
    · refine op_ro MO h ?_ ?_
      · rw [ent, ha, eB_cell_8]
        simp (disch := omega) only [l0, l1, l2, l3, l4, l5, l6, l7, l8, l9, l10, l11, l12, l13, l14, l15, l16, l17, l18, l19, l20, l21, l22, l23, l24, l25, l26, l27, l28, l29, l30, l31, l40, l48, l52, l57, l60, l65, l97, l99, l100, l102, l119, l122, l179, l197, l200, l201, l237, l436, l437, pk_mul, nI_add, inb_nI, nclamp, dlt, dle, deq, bif_t, bif_f, bif_nt, bif_nf, aft0, aft1, decide_true, decide_false, Bool.not_true, Bool.not_false, cond_true, cond_false, Nat.add_sub_cancel, Nat.add_one_sub_one, ou9, mo1, nI_MO, OU_lt, OU_ge, Nat.not_lt_zero, Bool.or_false, Bool.or_true, Bool.true_or, Bool.false_or, Bool.and_true, Bool.and_false, Bool.true_and, Bool.false_and, bI_0n, bI_1n, Bool.not_not, hc1]
      · rw [hM_eq, step, hr, eM_cell_17]
        rfl
    · refine op_ro MO h ?_ ?_
      · rw [ent, ha, eB_cell_8]
        simp (disch := omega) only [l0, l1, l2, l3, l4, l5, l6, l7, l8, l9, l10, l11, l12, l13, l14, l15, l16, l17, l18, l19, l20, l21, l22, l23, l24, l25, l26, l27, l28, l29, l30, l31, l40, l48, l52, l57, l60, l65, l97, l99, l100, l102, l119, l122, l179, l197, l200, l201, l237, l436, l437, pk_mul, nI_add, inb_nI, nclamp, dlt, dle, deq, bif_t, bif_f, bif_nt, bif_nf, aft0, aft1, decide_true, decide_false, Bool.not_true, Bool.not_false, cond_true, cond_false, Nat.add_sub_cancel, Nat.add_one_sub_one, ou9, mo1, nI_MO, OU_lt, OU_ge, Nat.not_lt_zero, Bool.or_false, Bool.or_true, Bool.true_or, Bool.false_or, Bool.and_true, Bool.and_false, Bool.true_and, Bool.false_and, bI_0n, bI_1n, Bool.not_not, hc1, hc3]
      · rw [hM_eq, step, hr, eM_cell_17]
        rfl
theorem op_cellOf (d i : Nat) (g : GT) (X : XS) (N T K : SS) (M : MS) (dd : AH) (h : INV i X N K M dd) (a b : Int32) : OPR d i g X N T K M dd yB_cellOf yM_cellOf [.int a, .int b] := by
  have h' := h
  obtain ⟨⟨⟨nc, np, nb, n, C, R, W, L, D⟩, wo5⟩, _⟩ := h'
  have hnp := W.1.2.1.2
  have hnc := W.1.1.2.2
  have hnb : nb ≤ 6 := W.1.2.2.1.2
  have e0 : N.2.1 0 = nI nc := (R.1 0 (by omega)).trans W.1.1.1
  have ent : call PGM (d + 40) yB_cellOf [.ref 12, .int a, .int b] (heapOf g X N T K M dd) = sem PGM (d + 39) yB_cellOf (8, [some (.ref 12), some (.int a), some (.int b)], [.int (bI (hasB a nc))], heapOf g X N T K M dd) := by
    rw [kB_cellOf, eB_cellOf_0, cN_hasCell (d + 38) g X T K M dd a e0, aft1]
  have entM : call PGM (d + 40) yM_cellOf [.ref 91, .int a, .int b] (heapOf g X N T K M dd) = sem PGM (d + 39) yM_cellOf (5, [some (.ref 91), some (.int a), some (.int b)], [.int (bI (hasB a nc))], heapOf g X N T K M dd) := by
    rw [hM_eq, kM_cellOf, eM_cellOf_0, cM_isCell (d + 37) _ M a hnc W.1.1.1, aft1]
  cases ha : hasB a nc with
  | false =>
    refine op_ro MO h ?_ ?_
    · rw [ent, ha, eB_cellOf_8]
      rfl
    · rw [entM, ha, hM_eq, eM_cellOf_5]
      rfl
  | true =>
    obtain ⟨c, hc, rfl⟩ := has_t (by omega) ha
    have step : call PGM (d + 40) yM_cellOf [.ref 91, .int (nI c), .int b] (heapOf g X N T K M dd) = sem PGM (d + 39) yM_cellOf (17, [some (.ref 91), some (.int (nI c)), some (.int b)], [.int (bI (rng b 0 5))], heapOf g X N T K M dd) := by
      rw [entM, ha, hM_eq, eM_cellOf_5, bI_0, w0, w5, cM_rng (d + 38), aft1]
      rfl
    obtain ⟨c0, c1, c2⟩ := R.2.1 c (by omega)
    obtain ⟨c3, c4⟩ := R.2.2.2.2.2 c (by omega)
    have cB : call PGM (d + 39) yS_beastsIn [.ref 43, .int (nI c)] (heapOf g X N T K M dd) = some (some (.int (nI (beN (M.1 0) (nI c) nb))), heapOf g X N T K M dd) := by
      rw [hN_eq, cS_beastsIn (d + 38) (Or.inl rfl) _ R hnb W.1.2.2.1.1]
    cases hr : rng b 0 5 with
    | true =>
      obtain ⟨k, k0, k5, rfl⟩ := rng_t (by omega) (by omega) hr
      have e : k = 0 ∨ k = 1 ∨ k = 2 ∨ k = 3 ∨ k = 4 ∨ k = 5 := by omega
      have fin : ∀ r, sem PGM (d + 39) yB_cellOf (8, [some (.ref 12), some (.int (nI c)), some (.int (nI k))], [.int (bI true)], heapOf g X N T K M dd) = some (some (.int r), heapOf g X N T K M dd) → sem PGM (d + 39) yM_cellOf (17, [some (.ref 91), some (.int (nI c)), some (.int (nI k))], [.int (bI true)], heapOf g X N T K M dd) = some (some (.int r), heapOf g X N T K M dd) → OPR d i g X N T K M dd yB_cellOf yM_cellOf [.int (nI c), .int (nI k)] := by
        intro r h1 h2
        exact op_ro r h (by rw [ent, ha]; exact h1) (by rw [step, hr]; exact h2)
      rcases e with e | e | e | e | e | e <;> subst e
      · refine fin (N.1 0 c) ?_ ?_
        · rw [eB_cellOf_8]
          simp (disch := omega) only [l0, l1, l2, l3, l4, l5, l6, l7, l8, l9, l10, l11, l12, l13, l14, l15, l16, l17, l18, l19, l20, l21, l22, l23, l24, l25, l26, l27, l28, l29, l30, l31, l40, l48, l52, l57, l60, l65, l97, l99, l100, l102, l119, l122, l179, l197, l200, l201, l237, l436, l437, pk_mul, nI_add, inb_nI, nclamp, dlt, dle, deq, bif_t, bif_f, bif_nt, bif_nf, aft0, aft1, decide_true, decide_false, Bool.not_true, Bool.not_false, cond_true, cond_false, Nat.add_sub_cancel, Nat.add_one_sub_one, ou9, mo1, nI_MO, OU_lt, OU_ge, Nat.not_lt_zero, Bool.or_false, Bool.or_true, Bool.true_or, Bool.false_or, Bool.and_true, Bool.and_false, Bool.true_and, Bool.false_and, bI_0n, bI_1n, Bool.not_not, o0]
        · rw [hM_eq, eM_cellOf_17, c0]
          simp (disch := omega) only [l0, l1, l2, l3, l4, l5, l6, l7, l8, l9, l10, l11, l12, l13, l14, l15, l16, l17, l18, l19, l20, l21, l22, l23, l24, l25, l26, l27, l28, l29, l30, l31, l40, l48, l52, l57, l60, l65, l97, l99, l100, l102, l119, l122, l179, l197, l200, l201, l237, l436, l437, pk_mul, nI_add, inb_nI, nclamp, dlt, dle, deq, bif_t, bif_f, bif_nt, bif_nf, aft0, aft1, decide_true, decide_false, Bool.not_true, Bool.not_false, cond_true, cond_false, Nat.add_sub_cancel, Nat.add_one_sub_one, ou9, mo1, nI_MO, OU_lt, OU_ge, Nat.not_lt_zero, Bool.or_false, Bool.or_true, Bool.true_or, Bool.false_or, Bool.and_true, Bool.and_false, Bool.true_and, Bool.false_and, bI_0n, bI_1n, Bool.not_not, Nat.add_zero]
      · refine fin (N.1 1 c) ?_ ?_
        · rw [eB_cellOf_8]
          simp (disch := omega) only [l0, l1, l2, l3, l4, l5, l6, l7, l8, l9, l10, l11, l12, l13, l14, l15, l16, l17, l18, l19, l20, l21, l22, l23, l24, l25, l26, l27, l28, l29, l30, l31, l40, l48, l52, l57, l60, l65, l97, l99, l100, l102, l119, l122, l179, l197, l200, l201, l237, l436, l437, pk_mul, nI_add, inb_nI, nclamp, dlt, dle, deq, bif_t, bif_f, bif_nt, bif_nf, aft0, aft1, decide_true, decide_false, Bool.not_true, Bool.not_false, cond_true, cond_false, Nat.add_sub_cancel, Nat.add_one_sub_one, ou9, mo1, nI_MO, OU_lt, OU_ge, Nat.not_lt_zero, Bool.or_false, Bool.or_true, Bool.true_or, Bool.false_or, Bool.and_true, Bool.and_false, Bool.true_and, Bool.false_and, bI_0n, bI_1n, Bool.not_not, o0, o1]
        · rw [hM_eq, eM_cellOf_17, c1]
          simp (disch := omega) only [l0, l1, l2, l3, l4, l5, l6, l7, l8, l9, l10, l11, l12, l13, l14, l15, l16, l17, l18, l19, l20, l21, l22, l23, l24, l25, l26, l27, l28, l29, l30, l31, l40, l48, l52, l57, l60, l65, l97, l99, l100, l102, l119, l122, l179, l197, l200, l201, l237, l436, l437, pk_mul, nI_add, inb_nI, nclamp, dlt, dle, deq, bif_t, bif_f, bif_nt, bif_nf, aft0, aft1, decide_true, decide_false, Bool.not_true, Bool.not_false, cond_true, cond_false, Nat.add_sub_cancel, Nat.add_one_sub_one, ou9, mo1, nI_MO, OU_lt, OU_ge, Nat.not_lt_zero, Bool.or_false, Bool.or_true, Bool.true_or, Bool.false_or, Bool.and_true, Bool.and_false, Bool.true_and, Bool.false_and, bI_0n, bI_1n, Bool.not_not]
      · refine fin (N.1 2 c) ?_ ?_
        · rw [eB_cellOf_8]
          simp (disch := omega) only [l0, l1, l2, l3, l4, l5, l6, l7, l8, l9, l10, l11, l12, l13, l14, l15, l16, l17, l18, l19, l20, l21, l22, l23, l24, l25, l26, l27, l28, l29, l30, l31, l40, l48, l52, l57, l60, l65, l97, l99, l100, l102, l119, l122, l179, l197, l200, l201, l237, l436, l437, pk_mul, nI_add, inb_nI, nclamp, dlt, dle, deq, bif_t, bif_f, bif_nt, bif_nf, aft0, aft1, decide_true, decide_false, Bool.not_true, Bool.not_false, cond_true, cond_false, Nat.add_sub_cancel, Nat.add_one_sub_one, ou9, mo1, nI_MO, OU_lt, OU_ge, Nat.not_lt_zero, Bool.or_false, Bool.or_true, Bool.true_or, Bool.false_or, Bool.and_true, Bool.and_false, Bool.true_and, Bool.false_and, bI_0n, bI_1n, Bool.not_not, o0, o1, o2]
        · rw [hM_eq, eM_cellOf_17, c2]
          simp (disch := omega) only [l0, l1, l2, l3, l4, l5, l6, l7, l8, l9, l10, l11, l12, l13, l14, l15, l16, l17, l18, l19, l20, l21, l22, l23, l24, l25, l26, l27, l28, l29, l30, l31, l40, l48, l52, l57, l60, l65, l97, l99, l100, l102, l119, l122, l179, l197, l200, l201, l237, l436, l437, pk_mul, nI_add, inb_nI, nclamp, dlt, dle, deq, bif_t, bif_f, bif_nt, bif_nf, aft0, aft1, decide_true, decide_false, Bool.not_true, Bool.not_false, cond_true, cond_false, Nat.add_sub_cancel, Nat.add_one_sub_one, ou9, mo1, nI_MO, OU_lt, OU_ge, Nat.not_lt_zero, Bool.or_false, Bool.or_true, Bool.true_or, Bool.false_or, Bool.and_true, Bool.and_false, Bool.true_and, Bool.false_and, bI_0n, bI_1n, Bool.not_not]
      · refine fin (N.1 3 c) ?_ ?_
        · rw [eB_cellOf_8]
          simp (disch := omega) only [l0, l1, l2, l3, l4, l5, l6, l7, l8, l9, l10, l11, l12, l13, l14, l15, l16, l17, l18, l19, l20, l21, l22, l23, l24, l25, l26, l27, l28, l29, l30, l31, l40, l48, l52, l57, l60, l65, l97, l99, l100, l102, l119, l122, l179, l197, l200, l201, l237, l436, l437, pk_mul, nI_add, inb_nI, nclamp, dlt, dle, deq, bif_t, bif_f, bif_nt, bif_nf, aft0, aft1, decide_true, decide_false, Bool.not_true, Bool.not_false, cond_true, cond_false, Nat.add_sub_cancel, Nat.add_one_sub_one, ou9, mo1, nI_MO, OU_lt, OU_ge, Nat.not_lt_zero, Bool.or_false, Bool.or_true, Bool.true_or, Bool.false_or, Bool.and_true, Bool.and_false, Bool.true_and, Bool.false_and, bI_0n, bI_1n, Bool.not_not, o0, o1, o2, o3]
        · rw [hM_eq, eM_cellOf_17, c3, cM_crowd (d + 37) _ M _ np W.1.2.1.1 hnp]
          simp (disch := omega) only [l0, l1, l2, l3, l4, l5, l6, l7, l8, l9, l10, l11, l12, l13, l14, l15, l16, l17, l18, l19, l20, l21, l22, l23, l24, l25, l26, l27, l28, l29, l30, l31, l40, l48, l52, l57, l60, l65, l97, l99, l100, l102, l119, l122, l179, l197, l200, l201, l237, l436, l437, pk_mul, nI_add, inb_nI, nclamp, dlt, dle, deq, bif_t, bif_f, bif_nt, bif_nf, aft0, aft1, decide_true, decide_false, Bool.not_true, Bool.not_false, cond_true, cond_false, Nat.add_sub_cancel, Nat.add_one_sub_one, ou9, mo1, nI_MO, OU_lt, OU_ge, Nat.not_lt_zero, Bool.or_false, Bool.or_true, Bool.true_or, Bool.false_or, Bool.and_true, Bool.and_false, Bool.true_and, Bool.false_and, bI_0n, bI_1n, Bool.not_not, eM_cellOf_53]
      · refine fin (N.1 4 c) ?_ ?_
        · rw [eB_cellOf_8]
          simp (disch := omega) only [l0, l1, l2, l3, l4, l5, l6, l7, l8, l9, l10, l11, l12, l13, l14, l15, l16, l17, l18, l19, l20, l21, l22, l23, l24, l25, l26, l27, l28, l29, l30, l31, l40, l48, l52, l57, l60, l65, l97, l99, l100, l102, l119, l122, l179, l197, l200, l201, l237, l436, l437, pk_mul, nI_add, inb_nI, nclamp, dlt, dle, deq, bif_t, bif_f, bif_nt, bif_nf, aft0, aft1, decide_true, decide_false, Bool.not_true, Bool.not_false, cond_true, cond_false, Nat.add_sub_cancel, Nat.add_one_sub_one, ou9, mo1, nI_MO, OU_lt, OU_ge, Nat.not_lt_zero, Bool.or_false, Bool.or_true, Bool.true_or, Bool.false_or, Bool.and_true, Bool.and_false, Bool.true_and, Bool.false_and, bI_0n, bI_1n, Bool.not_not, o0, o1, o2, o3, o4]
        · rw [hM_eq, eM_cellOf_17, c4, cM_fallenIn (d + 37) _ M _ np W.1.2.1.1 hnp]
          simp (disch := omega) only [l0, l1, l2, l3, l4, l5, l6, l7, l8, l9, l10, l11, l12, l13, l14, l15, l16, l17, l18, l19, l20, l21, l22, l23, l24, l25, l26, l27, l28, l29, l30, l31, l40, l48, l52, l57, l60, l65, l97, l99, l100, l102, l119, l122, l179, l197, l200, l201, l237, l436, l437, pk_mul, nI_add, inb_nI, nclamp, dlt, dle, deq, bif_t, bif_f, bif_nt, bif_nf, aft0, aft1, decide_true, decide_false, Bool.not_true, Bool.not_false, cond_true, cond_false, Nat.add_sub_cancel, Nat.add_one_sub_one, ou9, mo1, nI_MO, OU_lt, OU_ge, Nat.not_lt_zero, Bool.or_false, Bool.or_true, Bool.true_or, Bool.false_or, Bool.and_true, Bool.and_false, Bool.true_and, Bool.false_and, bI_0n, bI_1n, Bool.not_not, eM_cellOf_66]
      · refine fin (nI (beN (M.1 0) (nI c) nb)) ?_ ?_
        · rw [eB_cellOf_8, cB]
          simp (disch := omega) only [l0, l1, l2, l3, l4, l5, l6, l7, l8, l9, l10, l11, l12, l13, l14, l15, l16, l17, l18, l19, l20, l21, l22, l23, l24, l25, l26, l27, l28, l29, l30, l31, l40, l48, l52, l57, l60, l65, l97, l99, l100, l102, l119, l122, l179, l197, l200, l201, l237, l436, l437, pk_mul, nI_add, inb_nI, nclamp, dlt, dle, deq, bif_t, bif_f, bif_nt, bif_nf, aft0, aft1, decide_true, decide_false, Bool.not_true, Bool.not_false, cond_true, cond_false, Nat.add_sub_cancel, Nat.add_one_sub_one, ou9, mo1, nI_MO, OU_lt, OU_ge, Nat.not_lt_zero, Bool.or_false, Bool.or_true, Bool.true_or, Bool.false_or, Bool.and_true, Bool.and_false, Bool.true_and, Bool.false_and, bI_0n, bI_1n, Bool.not_not, o0, o1, o2, o3, o4, o5, eB_cellOf_92]
        · rw [hM_eq, eM_cellOf_17, cM_beastsIn (d + 37) _ M _ nb W.1.2.2.1.1 hnb]
          simp (disch := omega) only [l0, l1, l2, l3, l4, l5, l6, l7, l8, l9, l10, l11, l12, l13, l14, l15, l16, l17, l18, l19, l20, l21, l22, l23, l24, l25, l26, l27, l28, l29, l30, l31, l40, l48, l52, l57, l60, l65, l97, l99, l100, l102, l119, l122, l179, l197, l200, l201, l237, l436, l437, pk_mul, nI_add, inb_nI, nclamp, dlt, dle, deq, bif_t, bif_f, bif_nt, bif_nf, aft0, aft1, decide_true, decide_false, Bool.not_true, Bool.not_false, cond_true, cond_false, Nat.add_sub_cancel, Nat.add_one_sub_one, ou9, mo1, nI_MO, OU_lt, OU_ge, Nat.not_lt_zero, Bool.or_false, Bool.or_true, Bool.true_or, Bool.false_or, Bool.and_true, Bool.and_false, Bool.true_and, Bool.false_and, bI_0n, bI_1n, Bool.not_not, eM_cellOf_74]
    | false =>
      refine op_ro MO h ?_ ?_
      · rw [ent, ha, eB_cellOf_8]
        simp (disch := omega) only [l0, l1, l2, l3, l4, l5, l6, l7, l8, l9, l10, l11, l12, l13, l14, l15, l16, l17, l18, l19, l20, l21, l22, l23, l24, l25, l26, l27, l28, l29, l30, l31, l40, l48, l52, l57, l60, l65, l97, l99, l100, l102, l119, l122, l179, l197, l200, l201, l237, l436, l437, pk_mul, nI_add, inb_nI, nclamp, dlt, dle, deq, bif_t, bif_f, bif_nt, bif_nf, aft0, aft1, decide_true, decide_false, Bool.not_true, Bool.not_false, cond_true, cond_false, Nat.add_sub_cancel, Nat.add_one_sub_one, ou9, mo1, nI_MO, OU_lt, OU_ge, Nat.not_lt_zero, Bool.or_false, Bool.or_true, Bool.true_or, Bool.false_or, Bool.and_true, Bool.and_false, Bool.true_and, Bool.false_and, bI_0n, bI_1n, Bool.not_not, o0, o1, o2, o3, o4, o5, rng_ne hr (show 0 ≤ 0 by omega) (show 0 ≤ 5 by omega) (by omega), rng_ne hr (show 0 ≤ 1 by omega) (show 1 ≤ 5 by omega) (by omega), rng_ne hr (show 0 ≤ 2 by omega) (show 2 ≤ 5 by omega) (by omega), rng_ne hr (show 0 ≤ 3 by omega) (show 3 ≤ 5 by omega) (by omega), rng_ne hr (show 0 ≤ 4 by omega) (show 4 ≤ 5 by omega) (by omega), rng_ne hr (show 0 ≤ 5 by omega) (show 5 ≤ 5 by omega) (by omega)]
      · rw [step, hr, hM_eq, eM_cellOf_17]
        rfl
theorem op_personOf (d i : Nat) (g : GT) (X : XS) (N T K : SS) (M : MS) (dd : AH) (h : INV i X N K M dd) (a b : Int32) : OPR d i g X N T K M dd yB_personOf yM_personOf [.int a, .int b] := by
  have h' := h
  obtain ⟨⟨⟨nc, np, nb, n, C, R, W, L, D⟩, wo5⟩, _⟩ := h'
  have hnp := W.1.2.1.2
  have hnc := W.1.1.2.2
  have hnb : nb ≤ 6 := W.1.2.2.1.2
  have e1 : N.2.1 1 = nI np := (R.1 1 (by omega)).trans W.1.2.1.1
  have ent : call PGM (d + 40) yB_personOf [.ref 12, .int a, .int b] (heapOf g X N T K M dd) = sem PGM (d + 39) yB_personOf (8, [some (.ref 12), some (.int a), some (.int b)], [.int (bI (hasB a np))], heapOf g X N T K M dd) := by
    rw [kB_personOf, eB_personOf_0, cN_hasPerson (d + 38) g X T K M dd a e1, aft1]
  have entM : call PGM (d + 40) yM_personOf [.ref 91, .int a, .int b] (heapOf g X N T K M dd) = sem PGM (d + 39) yM_personOf (5, [some (.ref 91), some (.int a), some (.int b)], [.int (bI (hasB a np))], heapOf g X N T K M dd) := by
    rw [hM_eq, kM_personOf, eM_personOf_0, cM_isPerson (d + 37) _ M a hnp W.1.2.1.1, aft1]
  cases ha : hasB a np with
  | false =>
    refine op_ro MO h ?_ ?_
    · rw [ent, ha, eB_personOf_8]
      rfl
    · rw [entM, ha, hM_eq, eM_personOf_5]
      rfl
  | true =>
    obtain ⟨p, hp, rfl⟩ := has_t (by omega) ha
    have step : call PGM (d + 40) yM_personOf [.ref 91, .int (nI p), .int b] (heapOf g X N T K M dd) = sem PGM (d + 39) yM_personOf (17, [some (.ref 91), some (.int (nI p)), some (.int b)], [.int (bI (rng b 0 4))], heapOf g X N T K M dd) := by
      rw [entM, ha, hM_eq, eM_personOf_5, bI_0, w0, w4, cM_rng (d + 38), aft1]
      rfl
    obtain ⟨p5, p6, p7, p8⟩ := R.2.2.1 p hp
    cases hr : rng b 0 4 with
    | true =>
      obtain ⟨k, k0, k5, rfl⟩ := rng_t (by omega) (by omega) hr
      have e : k = 0 ∨ k = 1 ∨ k = 2 ∨ k = 3 ∨ k = 4 := by omega
      have fin : ∀ r, sem PGM (d + 39) yB_personOf (8, [some (.ref 12), some (.int (nI p)), some (.int (nI k))], [.int (bI true)], heapOf g X N T K M dd) = some (some (.int r), heapOf g X N T K M dd) → sem PGM (d + 39) yM_personOf (17, [some (.ref 91), some (.int (nI p)), some (.int (nI k))], [.int (bI true)], heapOf g X N T K M dd) = some (some (.int r), heapOf g X N T K M dd) → OPR d i g X N T K M dd yB_personOf yM_personOf [.int (nI p), .int (nI k)] := by
        intro r h1 h2
        exact op_ro r h (by rw [ent, ha]; exact h1) (by rw [step, hr]; exact h2)
      rcases e with e | e | e | e | e <;> subst e
      · refine fin (N.1 5 p) ?_ ?_
        · rw [eB_personOf_8]
          simp (disch := omega) only [l0, l1, l2, l3, l4, l5, l6, l7, l8, l9, l10, l11, l12, l13, l14, l15, l16, l17, l18, l19, l20, l21, l22, l23, l24, l25, l26, l27, l28, l29, l30, l31, l40, l48, l52, l57, l60, l65, l97, l99, l100, l102, l119, l122, l179, l197, l200, l201, l237, l436, l437, pk_mul, nI_add, inb_nI, nclamp, dlt, dle, deq, bif_t, bif_f, bif_nt, bif_nf, aft0, aft1, decide_true, decide_false, Bool.not_true, Bool.not_false, cond_true, cond_false, Nat.add_sub_cancel, Nat.add_one_sub_one, ou9, mo1, nI_MO, OU_lt, OU_ge, Nat.not_lt_zero, Bool.or_false, Bool.or_true, Bool.true_or, Bool.false_or, Bool.and_true, Bool.and_false, Bool.true_and, Bool.false_and, bI_0n, bI_1n, Bool.not_not, o0]
        · rw [hM_eq, eM_personOf_17, p5]
          simp (disch := omega) only [l0, l1, l2, l3, l4, l5, l6, l7, l8, l9, l10, l11, l12, l13, l14, l15, l16, l17, l18, l19, l20, l21, l22, l23, l24, l25, l26, l27, l28, l29, l30, l31, l40, l48, l52, l57, l60, l65, l97, l99, l100, l102, l119, l122, l179, l197, l200, l201, l237, l436, l437, pk_mul, nI_add, inb_nI, nclamp, dlt, dle, deq, bif_t, bif_f, bif_nt, bif_nf, aft0, aft1, decide_true, decide_false, Bool.not_true, Bool.not_false, cond_true, cond_false, Nat.add_sub_cancel, Nat.add_one_sub_one, ou9, mo1, nI_MO, OU_lt, OU_ge, Nat.not_lt_zero, Bool.or_false, Bool.or_true, Bool.true_or, Bool.false_or, Bool.and_true, Bool.and_false, Bool.true_and, Bool.false_and, bI_0n, bI_1n, Bool.not_not, Nat.add_zero]
      · refine fin (N.1 6 p) ?_ ?_
        · rw [eB_personOf_8]
          simp (disch := omega) only [l0, l1, l2, l3, l4, l5, l6, l7, l8, l9, l10, l11, l12, l13, l14, l15, l16, l17, l18, l19, l20, l21, l22, l23, l24, l25, l26, l27, l28, l29, l30, l31, l40, l48, l52, l57, l60, l65, l97, l99, l100, l102, l119, l122, l179, l197, l200, l201, l237, l436, l437, pk_mul, nI_add, inb_nI, nclamp, dlt, dle, deq, bif_t, bif_f, bif_nt, bif_nf, aft0, aft1, decide_true, decide_false, Bool.not_true, Bool.not_false, cond_true, cond_false, Nat.add_sub_cancel, Nat.add_one_sub_one, ou9, mo1, nI_MO, OU_lt, OU_ge, Nat.not_lt_zero, Bool.or_false, Bool.or_true, Bool.true_or, Bool.false_or, Bool.and_true, Bool.and_false, Bool.true_and, Bool.false_and, bI_0n, bI_1n, Bool.not_not, o0, o1]
        · rw [hM_eq, eM_personOf_17, p6]
          simp (disch := omega) only [l0, l1, l2, l3, l4, l5, l6, l7, l8, l9, l10, l11, l12, l13, l14, l15, l16, l17, l18, l19, l20, l21, l22, l23, l24, l25, l26, l27, l28, l29, l30, l31, l40, l48, l52, l57, l60, l65, l97, l99, l100, l102, l119, l122, l179, l197, l200, l201, l237, l436, l437, pk_mul, nI_add, inb_nI, nclamp, dlt, dle, deq, bif_t, bif_f, bif_nt, bif_nf, aft0, aft1, decide_true, decide_false, Bool.not_true, Bool.not_false, cond_true, cond_false, Nat.add_sub_cancel, Nat.add_one_sub_one, ou9, mo1, nI_MO, OU_lt, OU_ge, Nat.not_lt_zero, Bool.or_false, Bool.or_true, Bool.true_or, Bool.false_or, Bool.and_true, Bool.and_false, Bool.true_and, Bool.false_and, bI_0n, bI_1n, Bool.not_not]
      · refine fin (N.1 7 p) ?_ ?_
        · rw [eB_personOf_8]
          simp (disch := omega) only [l0, l1, l2, l3, l4, l5, l6, l7, l8, l9, l10, l11, l12, l13, l14, l15, l16, l17, l18, l19, l20, l21, l22, l23, l24, l25, l26, l27, l28, l29, l30, l31, l40, l48, l52, l57, l60, l65, l97, l99, l100, l102, l119, l122, l179, l197, l200, l201, l237, l436, l437, pk_mul, nI_add, inb_nI, nclamp, dlt, dle, deq, bif_t, bif_f, bif_nt, bif_nf, aft0, aft1, decide_true, decide_false, Bool.not_true, Bool.not_false, cond_true, cond_false, Nat.add_sub_cancel, Nat.add_one_sub_one, ou9, mo1, nI_MO, OU_lt, OU_ge, Nat.not_lt_zero, Bool.or_false, Bool.or_true, Bool.true_or, Bool.false_or, Bool.and_true, Bool.and_false, Bool.true_and, Bool.false_and, bI_0n, bI_1n, Bool.not_not, o0, o1, o2]
        · rw [hM_eq, eM_personOf_17, p7]
          simp (disch := omega) only [l0, l1, l2, l3, l4, l5, l6, l7, l8, l9, l10, l11, l12, l13, l14, l15, l16, l17, l18, l19, l20, l21, l22, l23, l24, l25, l26, l27, l28, l29, l30, l31, l40, l48, l52, l57, l60, l65, l97, l99, l100, l102, l119, l122, l179, l197, l200, l201, l237, l436, l437, pk_mul, nI_add, inb_nI, nclamp, dlt, dle, deq, bif_t, bif_f, bif_nt, bif_nf, aft0, aft1, decide_true, decide_false, Bool.not_true, Bool.not_false, cond_true, cond_false, Nat.add_sub_cancel, Nat.add_one_sub_one, ou9, mo1, nI_MO, OU_lt, OU_ge, Nat.not_lt_zero, Bool.or_false, Bool.or_true, Bool.true_or, Bool.false_or, Bool.and_true, Bool.and_false, Bool.true_and, Bool.false_and, bI_0n, bI_1n, Bool.not_not]
      · refine fin (N.1 8 p) ?_ ?_
        · rw [eB_personOf_8]
          simp (disch := omega) only [l0, l1, l2, l3, l4, l5, l6, l7, l8, l9, l10, l11, l12, l13, l14, l15, l16, l17, l18, l19, l20, l21, l22, l23, l24, l25, l26, l27, l28, l29, l30, l31, l40, l48, l52, l57, l60, l65, l97, l99, l100, l102, l119, l122, l179, l197, l200, l201, l237, l436, l437, pk_mul, nI_add, inb_nI, nclamp, dlt, dle, deq, bif_t, bif_f, bif_nt, bif_nf, aft0, aft1, decide_true, decide_false, Bool.not_true, Bool.not_false, cond_true, cond_false, Nat.add_sub_cancel, Nat.add_one_sub_one, ou9, mo1, nI_MO, OU_lt, OU_ge, Nat.not_lt_zero, Bool.or_false, Bool.or_true, Bool.true_or, Bool.false_or, Bool.and_true, Bool.and_false, Bool.true_and, Bool.false_and, bI_0n, bI_1n, Bool.not_not, o0, o1, o2, o3]
        · rw [hM_eq, eM_personOf_17, p8]
          simp (disch := omega) only [l0, l1, l2, l3, l4, l5, l6, l7, l8, l9, l10, l11, l12, l13, l14, l15, l16, l17, l18, l19, l20, l21, l22, l23, l24, l25, l26, l27, l28, l29, l30, l31, l40, l48, l52, l57, l60, l65, l97, l99, l100, l102, l119, l122, l179, l197, l200, l201, l237, l436, l437, pk_mul, nI_add, inb_nI, nclamp, dlt, dle, deq, bif_t, bif_f, bif_nt, bif_nf, aft0, aft1, decide_true, decide_false, Bool.not_true, Bool.not_false, cond_true, cond_false, Nat.add_sub_cancel, Nat.add_one_sub_one, ou9, mo1, nI_MO, OU_lt, OU_ge, Nat.not_lt_zero, Bool.or_false, Bool.or_true, Bool.true_or, Bool.false_or, Bool.and_true, Bool.and_false, Bool.true_and, Bool.false_and, bI_0n, bI_1n, Bool.not_not]
      · have io : call PGM (d + 39) yS_isOut [.ref 43, .int (nI p)] (heapOf g X N T K M dd) = some (some (.int (bI (decide (N.1 6 p < 0)))), heapOf g X N T K M dd) := by
          rw [hN_eq, cS_isOut (d + 38) (Or.inl rfl) N _ (by omega)]
        have b1 : sem PGM (d + 39) yB_personOf (8, [some (.ref 12), some (.int (nI p)), some (.int (nI 4))], [.int (bI true)], heapOf g X N T K M dd) = sem PGM (d + 39) yB_personOf (96, [some (.ref 12), some (.int (nI p)), some (.int (nI 4))], [.int (bI (decide (M.1 0 (99 + 4 * p + 1) < 0)))], heapOf g X N T K M dd) := by
          rw [eB_personOf_8, io, p6]
          simp (disch := omega) only [l0, l1, l2, l3, l4, l5, l6, l7, l8, l9, l10, l11, l12, l13, l14, l15, l16, l17, l18, l19, l20, l21, l22, l23, l24, l25, l26, l27, l28, l29, l30, l31, l40, l48, l52, l57, l60, l65, l97, l99, l100, l102, l119, l122, l179, l197, l200, l201, l237, l436, l437, pk_mul, nI_add, inb_nI, nclamp, dlt, dle, deq, bif_t, bif_f, bif_nt, bif_nf, aft0, aft1, decide_true, decide_false, Bool.not_true, Bool.not_false, cond_true, cond_false, Nat.add_sub_cancel, Nat.add_one_sub_one, ou9, mo1, nI_MO, OU_lt, OU_ge, Nat.not_lt_zero, Bool.or_false, Bool.or_true, Bool.true_or, Bool.false_or, Bool.and_true, Bool.and_false, Bool.true_and, Bool.false_and, bI_0n, bI_1n, Bool.not_not, o0, o1, o2, o3, o4]
        have m1 : ∀ Z : ZT, sem PGM (d + 39) yM_personOf (17, [some (.ref 91), some (.int (nI p)), some (.int (nI 4))], [.int (bI true)], hM Z M) = sem PGM (d + 39) yM_personOf (48, [some (.ref 91), some (.int (nI p)), some (.int (nI 4))], [.int (M.1 0 (99 + 4 * p + 1))], hM Z M) := by
          intro Z
          rw [eM_personOf_17, cM_whereIs (d + 38) Z M p (by omega)]
          simp (disch := omega) only [l0, l1, l2, l3, l4, l5, l6, l7, l8, l9, l10, l11, l12, l13, l14, l15, l16, l17, l18, l19, l20, l21, l22, l23, l24, l25, l26, l27, l28, l29, l30, l31, l40, l48, l52, l57, l60, l65, l97, l99, l100, l102, l119, l122, l179, l197, l200, l201, l237, l436, l437, pk_mul, nI_add, inb_nI, nclamp, dlt, dle, deq, bif_t, bif_f, bif_nt, bif_nf, aft0, aft1, decide_true, decide_false, Bool.not_true, Bool.not_false, cond_true, cond_false, Nat.add_sub_cancel, Nat.add_one_sub_one, ou9, mo1, nI_MO, OU_lt, OU_ge, Nat.not_lt_zero, Bool.or_false, Bool.or_true, Bool.true_or, Bool.false_or, Bool.and_true, Bool.and_false, Bool.true_and, Bool.false_and, bI_0n, bI_1n, Bool.not_not]
        rcases (W.2.2.1 p hp).2.1 with hq | ⟨c, hc, hq⟩
        · refine fin OU ?_ ?_
          · rw [b1, hq, OU_lt', eB_personOf_96]
            rfl
          · rw [hM_eq, m1, hq, eM_personOf_48]
            rfl
        · have no : call PGM (d + 39) yS_nearOf [.ref 43, .int (nI p)] (heapOf g X N T K M dd) = some (some (.int (nrF (M.1 0) (nI c) nb)), heapOf g X N T K M dd) := by
            rw [hN_eq, cS_nearOf (d + 38) (Or.inl rfl) _ R W hp hc hq]
          refine fin (nrF (M.1 0) (nI c) nb) ?_ ?_
          · rw [b1, hq, eB_personOf_96, no]
            simp (disch := omega) only [l0, l1, l2, l3, l4, l5, l6, l7, l8, l9, l10, l11, l12, l13, l14, l15, l16, l17, l18, l19, l20, l21, l22, l23, l24, l25, l26, l27, l28, l29, l30, l31, l40, l48, l52, l57, l60, l65, l97, l99, l100, l102, l119, l122, l179, l197, l200, l201, l237, l436, l437, pk_mul, nI_add, inb_nI, nclamp, dlt, dle, deq, bif_t, bif_f, bif_nt, bif_nf, aft0, aft1, decide_true, decide_false, Bool.not_true, Bool.not_false, cond_true, cond_false, Nat.add_sub_cancel, Nat.add_one_sub_one, ou9, mo1, nI_MO, OU_lt, OU_ge, Nat.not_lt_zero, Bool.or_false, Bool.or_true, Bool.true_or, Bool.false_or, Bool.and_true, Bool.and_false, Bool.true_and, Bool.false_and, bI_0n, bI_1n, Bool.not_not, eB_personOf_112]
          · rw [hM_eq, m1, hq, eM_personOf_48, cM_whereIs (d + 38) _ M p (by omega), aft1, eM_personOf_62, hq, cM_nearTo (d + 37) _ M _ nb W.1.2.2.1.1 hnb, aft1, eM_personOf_65]
            simp (disch := omega) only [l0, l1, l2, l3, l4, l5, l6, l7, l8, l9, l10, l11, l12, l13, l14, l15, l16, l17, l18, l19, l20, l21, l22, l23, l24, l25, l26, l27, l28, l29, l30, l31, l40, l48, l52, l57, l60, l65, l97, l99, l100, l102, l119, l122, l179, l197, l200, l201, l237, l436, l437, pk_mul, nI_add, inb_nI, nclamp, dlt, dle, deq, bif_t, bif_f, bif_nt, bif_nf, aft0, aft1, decide_true, decide_false, Bool.not_true, Bool.not_false, cond_true, cond_false, Nat.add_sub_cancel, Nat.add_one_sub_one, ou9, mo1, nI_MO, OU_lt, OU_ge, Nat.not_lt_zero, Bool.or_false, Bool.or_true, Bool.true_or, Bool.false_or, Bool.and_true, Bool.and_false, Bool.true_and, Bool.false_and, bI_0n, bI_1n, Bool.not_not]
    | false =>
      refine op_ro MO h ?_ ?_
      · rw [ent, ha, eB_personOf_8]
        simp (disch := omega) only [l0, l1, l2, l3, l4, l5, l6, l7, l8, l9, l10, l11, l12, l13, l14, l15, l16, l17, l18, l19, l20, l21, l22, l23, l24, l25, l26, l27, l28, l29, l30, l31, l40, l48, l52, l57, l60, l65, l97, l99, l100, l102, l119, l122, l179, l197, l200, l201, l237, l436, l437, pk_mul, nI_add, inb_nI, nclamp, dlt, dle, deq, bif_t, bif_f, bif_nt, bif_nf, aft0, aft1, decide_true, decide_false, Bool.not_true, Bool.not_false, cond_true, cond_false, Nat.add_sub_cancel, Nat.add_one_sub_one, ou9, mo1, nI_MO, OU_lt, OU_ge, Nat.not_lt_zero, Bool.or_false, Bool.or_true, Bool.true_or, Bool.false_or, Bool.and_true, Bool.and_false, Bool.true_and, Bool.false_and, bI_0n, bI_1n, Bool.not_not, o0, o1, o2, o3, o4, rng_ne hr (show 0 ≤ 0 by omega) (show 0 ≤ 4 by omega) (by omega), rng_ne hr (show 0 ≤ 1 by omega) (show 1 ≤ 4 by omega) (by omega), rng_ne hr (show 0 ≤ 2 by omega) (show 2 ≤ 4 by omega) (by omega), rng_ne hr (show 0 ≤ 3 by omega) (show 3 ≤ 4 by omega) (by omega), rng_ne hr (show 0 ≤ 4 by omega) (show 4 ≤ 4 by omega) (by omega)]
      · rw [step, hr, hM_eq, eM_personOf_17]
        rfl
theorem op_beastOf (d i : Nat) (g : GT) (X : XS) (N T K : SS) (M : MS) (dd : AH) (h : INV i X N K M dd) (a b : Int32) : OPR d i g X N T K M dd yB_beastOf yM_beastOf [.int a, .int b] := by
  have h' := h
  obtain ⟨⟨⟨nc, np, nb, n, C, R, W, L, D⟩, wo5⟩, _⟩ := h'
  have hnb : nb ≤ 6 := W.1.2.2.1.2
  have e2 : N.2.1 2 = nI nb := (R.1 2 (by omega)).trans W.1.2.2.1.1
  have ent : call PGM (d + 40) yB_beastOf [.ref 12, .int a, .int b] (heapOf g X N T K M dd) = sem PGM (d + 39) yB_beastOf (8, [some (.ref 12), some (.int a), some (.int b)], [.int (bI (hasB a nb))], heapOf g X N T K M dd) := by
    rw [kB_beastOf, eB_beastOf_0, cN_hasBeast (d + 38) g X T K M dd a e2, aft1]
  have entM : call PGM (d + 40) yM_beastOf [.ref 91, .int a, .int b] (heapOf g X N T K M dd) = sem PGM (d + 39) yM_beastOf (5, [some (.ref 91), some (.int a), some (.int b)], [.int (bI (hasB a nb))], heapOf g X N T K M dd) := by
    rw [hM_eq, kM_beastOf, eM_beastOf_0, cM_isBeast (d + 37) _ M a hnb W.1.2.2.1.1, aft1]
  cases ha : hasB a nb with
  | false =>
    refine op_ro MO h ?_ ?_
    · rw [ent, ha, eB_beastOf_8]
      rfl
    · rw [entM, ha, hM_eq, eM_beastOf_5]
      rfl
  | true =>
    obtain ⟨p, hp, rfl⟩ := has_t (by omega) ha
    have step : call PGM (d + 40) yM_beastOf [.ref 91, .int (nI p), .int b] (heapOf g X N T K M dd) = sem PGM (d + 39) yM_beastOf (17, [some (.ref 91), some (.int (nI p)), some (.int b)], [.int (bI (rng b 0 2))], heapOf g X N T K M dd) := by
      rw [entM, ha, hM_eq, eM_beastOf_5, bI_0, w0, w2, cM_rng (d + 38), aft1]
      rfl
    obtain ⟨b9, b10, b11⟩ := R.2.2.2.1 p hp
    cases hr : rng b 0 2 with
    | true =>
      obtain ⟨k, k0, k5, rfl⟩ := rng_t (by omega) (by omega) hr
      have e : k = 0 ∨ k = 1 ∨ k = 2 := by omega
      have fin : ∀ r, sem PGM (d + 39) yB_beastOf (8, [some (.ref 12), some (.int (nI p)), some (.int (nI k))], [.int (bI true)], heapOf g X N T K M dd) = some (some (.int r), heapOf g X N T K M dd) → sem PGM (d + 39) yM_beastOf (17, [some (.ref 91), some (.int (nI p)), some (.int (nI k))], [.int (bI true)], heapOf g X N T K M dd) = some (some (.int r), heapOf g X N T K M dd) → OPR d i g X N T K M dd yB_beastOf yM_beastOf [.int (nI p), .int (nI k)] := by
        intro r h1 h2
        exact op_ro r h (by rw [ent, ha]; exact h1) (by rw [step, hr]; exact h2)
      rcases e with e | e | e <;> subst e
      · refine fin (N.1 9 p) ?_ ?_
        · rw [eB_beastOf_8]
          simp (disch := omega) only [l0, l1, l2, l3, l4, l5, l6, l7, l8, l9, l10, l11, l12, l13, l14, l15, l16, l17, l18, l19, l20, l21, l22, l23, l24, l25, l26, l27, l28, l29, l30, l31, l40, l48, l52, l57, l60, l65, l97, l99, l100, l102, l119, l122, l179, l197, l200, l201, l237, l436, l437, pk_mul, nI_add, inb_nI, nclamp, dlt, dle, deq, bif_t, bif_f, bif_nt, bif_nf, aft0, aft1, decide_true, decide_false, Bool.not_true, Bool.not_false, cond_true, cond_false, Nat.add_sub_cancel, Nat.add_one_sub_one, ou9, mo1, nI_MO, OU_lt, OU_ge, Nat.not_lt_zero, Bool.or_false, Bool.or_true, Bool.true_or, Bool.false_or, Bool.and_true, Bool.and_false, Bool.true_and, Bool.false_and, bI_0n, bI_1n, Bool.not_not, o0]
        · rw [hM_eq, eM_beastOf_17, b9]
          simp (disch := omega) only [l0, l1, l2, l3, l4, l5, l6, l7, l8, l9, l10, l11, l12, l13, l14, l15, l16, l17, l18, l19, l20, l21, l22, l23, l24, l25, l26, l27, l28, l29, l30, l31, l40, l48, l52, l57, l60, l65, l97, l99, l100, l102, l119, l122, l179, l197, l200, l201, l237, l436, l437, pk_mul, nI_add, inb_nI, nclamp, dlt, dle, deq, bif_t, bif_f, bif_nt, bif_nf, aft0, aft1, decide_true, decide_false, Bool.not_true, Bool.not_false, cond_true, cond_false, Nat.add_sub_cancel, Nat.add_one_sub_one, ou9, mo1, nI_MO, OU_lt, OU_ge, Nat.not_lt_zero, Bool.or_false, Bool.or_true, Bool.true_or, Bool.false_or, Bool.and_true, Bool.and_false, Bool.true_and, Bool.false_and, bI_0n, bI_1n, Bool.not_not, Nat.add_zero]
      · refine fin (N.1 10 p) ?_ ?_
        · rw [eB_beastOf_8]
          simp (disch := omega) only [l0, l1, l2, l3, l4, l5, l6, l7, l8, l9, l10, l11, l12, l13, l14, l15, l16, l17, l18, l19, l20, l21, l22, l23, l24, l25, l26, l27, l28, l29, l30, l31, l40, l48, l52, l57, l60, l65, l97, l99, l100, l102, l119, l122, l179, l197, l200, l201, l237, l436, l437, pk_mul, nI_add, inb_nI, nclamp, dlt, dle, deq, bif_t, bif_f, bif_nt, bif_nf, aft0, aft1, decide_true, decide_false, Bool.not_true, Bool.not_false, cond_true, cond_false, Nat.add_sub_cancel, Nat.add_one_sub_one, ou9, mo1, nI_MO, OU_lt, OU_ge, Nat.not_lt_zero, Bool.or_false, Bool.or_true, Bool.true_or, Bool.false_or, Bool.and_true, Bool.and_false, Bool.true_and, Bool.false_and, bI_0n, bI_1n, Bool.not_not, o0, o1]
        · rw [hM_eq, eM_beastOf_17, b10]
          simp (disch := omega) only [l0, l1, l2, l3, l4, l5, l6, l7, l8, l9, l10, l11, l12, l13, l14, l15, l16, l17, l18, l19, l20, l21, l22, l23, l24, l25, l26, l27, l28, l29, l30, l31, l40, l48, l52, l57, l60, l65, l97, l99, l100, l102, l119, l122, l179, l197, l200, l201, l237, l436, l437, pk_mul, nI_add, inb_nI, nclamp, dlt, dle, deq, bif_t, bif_f, bif_nt, bif_nf, aft0, aft1, decide_true, decide_false, Bool.not_true, Bool.not_false, cond_true, cond_false, Nat.add_sub_cancel, Nat.add_one_sub_one, ou9, mo1, nI_MO, OU_lt, OU_ge, Nat.not_lt_zero, Bool.or_false, Bool.or_true, Bool.true_or, Bool.false_or, Bool.and_true, Bool.and_false, Bool.true_and, Bool.false_and, bI_0n, bI_1n, Bool.not_not]
      · refine fin (N.1 11 p) ?_ ?_
        · rw [eB_beastOf_8]
          simp (disch := omega) only [l0, l1, l2, l3, l4, l5, l6, l7, l8, l9, l10, l11, l12, l13, l14, l15, l16, l17, l18, l19, l20, l21, l22, l23, l24, l25, l26, l27, l28, l29, l30, l31, l40, l48, l52, l57, l60, l65, l97, l99, l100, l102, l119, l122, l179, l197, l200, l201, l237, l436, l437, pk_mul, nI_add, inb_nI, nclamp, dlt, dle, deq, bif_t, bif_f, bif_nt, bif_nf, aft0, aft1, decide_true, decide_false, Bool.not_true, Bool.not_false, cond_true, cond_false, Nat.add_sub_cancel, Nat.add_one_sub_one, ou9, mo1, nI_MO, OU_lt, OU_ge, Nat.not_lt_zero, Bool.or_false, Bool.or_true, Bool.true_or, Bool.false_or, Bool.and_true, Bool.and_false, Bool.true_and, Bool.false_and, bI_0n, bI_1n, Bool.not_not, o0, o1, o2]
        · rw [hM_eq, eM_beastOf_17, b11]
          simp (disch := omega) only [l0, l1, l2, l3, l4, l5, l6, l7, l8, l9, l10, l11, l12, l13, l14, l15, l16, l17, l18, l19, l20, l21, l22, l23, l24, l25, l26, l27, l28, l29, l30, l31, l40, l48, l52, l57, l60, l65, l97, l99, l100, l102, l119, l122, l179, l197, l200, l201, l237, l436, l437, pk_mul, nI_add, inb_nI, nclamp, dlt, dle, deq, bif_t, bif_f, bif_nt, bif_nf, aft0, aft1, decide_true, decide_false, Bool.not_true, Bool.not_false, cond_true, cond_false, Nat.add_sub_cancel, Nat.add_one_sub_one, ou9, mo1, nI_MO, OU_lt, OU_ge, Nat.not_lt_zero, Bool.or_false, Bool.or_true, Bool.true_or, Bool.false_or, Bool.and_true, Bool.and_false, Bool.true_and, Bool.false_and, bI_0n, bI_1n, Bool.not_not]
    | false =>
      refine op_ro MO h ?_ ?_
      · rw [ent, ha, eB_beastOf_8]
        simp (disch := omega) only [l0, l1, l2, l3, l4, l5, l6, l7, l8, l9, l10, l11, l12, l13, l14, l15, l16, l17, l18, l19, l20, l21, l22, l23, l24, l25, l26, l27, l28, l29, l30, l31, l40, l48, l52, l57, l60, l65, l97, l99, l100, l102, l119, l122, l179, l197, l200, l201, l237, l436, l437, pk_mul, nI_add, inb_nI, nclamp, dlt, dle, deq, bif_t, bif_f, bif_nt, bif_nf, aft0, aft1, decide_true, decide_false, Bool.not_true, Bool.not_false, cond_true, cond_false, Nat.add_sub_cancel, Nat.add_one_sub_one, ou9, mo1, nI_MO, OU_lt, OU_ge, Nat.not_lt_zero, Bool.or_false, Bool.or_true, Bool.true_or, Bool.false_or, Bool.and_true, Bool.and_false, Bool.true_and, Bool.false_and, bI_0n, bI_1n, Bool.not_not, o0, o1, o2, rng_ne hr (show 0 ≤ 0 by omega) (show 0 ≤ 2 by omega) (by omega), rng_ne hr (show 0 ≤ 1 by omega) (show 1 ≤ 2 by omega) (by omega), rng_ne hr (show 0 ≤ 2 by omega) (show 2 ≤ 2 by omega) (by omega)]
      · rw [step, hr, hM_eq, eM_beastOf_17]
        rfl
theorem lawAt_N (g : GT) (X : XS) {N : SS} (T K : SS) (M : MS) {dd : AH} {n : Nat} {C : Nat → CL} (h : lawD dd N.2.2 n C) : okI (heapOf g X N T K M dd) N.2.2 1 0 = true ∧ gI (heapOf g X N T K M dd) N.2.2 0 = nI n := by
  obtain ⟨r1, r2, r3, r4, h0, _⟩ := lawAt_hS (o := 43) (Or.inl rfl) N (Z := (g, X, T, K, M, dd)) h
  rw [hN_eq]
  constructor
  · unfold okI; rw [h0]; rfl
  · unfold gI; rw [h0]; rfl
theorem pushb (c : Bool) (x y : Int32) (H : AH) : (bif c then (some (some (Value.int x), H) : Res) else some (some (.int y), H)) = some (some (.int (bif c then x else y)), H) := by cases c <;> rfl
theorem op_many (d i : Nat) (g : GT) (X : XS) (N T K : SS) (M : MS) (dd : AH) (h : INV i X N K M dd) (a : Int32) : OPR d i g X N T K M dd yB_many yM_many [.int a] := by
  have h' := h
  obtain ⟨⟨⟨nc, np, nb, n, C, R, W, L, D⟩, wo5⟩, hK, ⟨nt, _, t1, t2, _⟩, ⟨r, _, r1, r2, _⟩, hH, hE, ⟨c, _, c1, c2, _⟩, hM', hD⟩ := h'
  obtain ⟨q1, q2⟩ := lawAt_N g X T K M D
  refine op_ro (bif decide (a = Int32.ofInt 0) then M.1 0 0 else bif decide (a = Int32.ofInt 1) then M.1 0 1 else bif decide (a = Int32.ofInt 2) then M.1 0 2 else bif decide (a = Int32.ofInt 3) then nI n else bif decide (a = Int32.ofInt 4) then nI r else bif decide (a = Int32.ofInt 5) then nI nt else bif decide (a = Int32.ofInt 6) then nI c else -1) h ?_ ?_
  · rw [kB_many, eB_many_0, q1, q2, t1, r1, c1, R.1 0 (by omega), R.1 1 (by omega), R.1 2 (by omega)]
    simp only [pushb, cond_true]
  · rw [hM_eq, kM_many, eM_many_0, L.2.1, t2, r2, c2]
    simp only [pushb]
theorem op_trace (d i : Nat) (g : GT) (X : XS) (N T K : SS) (M : MS) (dd : AH) (h : INV i X N K M dd) (a : Int32) : OPR d i g X N T K M dd yB_trace yM_trace [.int a] := by
  have h' := h
  obtain ⟨_, hK, hT, hR', hH, hE, ⟨c, c30, c1, c2, hc⟩, hM', hD⟩ := h'
  have mM : call PGM (d + 40) yM_trace [.ref 91, .int a] (heapOf g X N T K M dd) = sem PGM (d + 39) yM_trace (13, [some (.ref 91), some (.int a)], [.int (bI (hasB a c))], heapOf g X N T K M dd) := by
    rw [hM_eq, kM_trace, eM_trace_0, c2, show (0 : Int64) = (0 : Int32).toInt64 from rfl, cM_inI (d + 38), in_has a (by omega), aft1]
  cases ha : hasB a c with
  | false =>
    refine op_ro (-3) h ?_ ?_
    · rw [kB_trace, eB_trace_0, c1, le_not_lt]
      unfold hasB at ha
      cases e1 : decide (a < 0) with
      | true => rfl
      | false =>
        rw [e1] at ha
        cases e2 : decide (a < nI c) with
        | true => rw [e2] at ha; cases ha
        | false => rfl
    · rw [mM, ha, hM_eq, eM_trace_13]
      rfl
  | true =>
    obtain ⟨k, hk, rfl⟩ := has_t (by omega) ha
    refine op_ro (X.1 16 k) h ?_ ?_
    · rw [kB_trace, eB_trace_0, c1]
      simp (disch := omega) only [l0, l1, l2, l3, l4, l5, l6, l7, l8, l9, l10, l11, l12, l13, l14, l15, l16, l17, l18, l19, l20, l21, l22, l23, l24, l25, l26, l27, l28, l29, l30, l31, l40, l48, l52, l57, l60, l65, l97, l99, l100, l102, l119, l122, l179, l197, l200, l201, l237, l436, l437, pk_mul, nI_add, inb_nI, nclamp, dlt, dle, deq, bif_t, bif_f, bif_nt, bif_nf, aft0, aft1, decide_true, decide_false, Bool.not_true, Bool.not_false, cond_true, cond_false, Nat.add_sub_cancel, Nat.add_one_sub_one, ou9, mo1, nI_MO, OU_lt, OU_ge, Nat.not_lt_zero, Bool.or_false, Bool.or_true, Bool.true_or, Bool.false_or, Bool.and_true, Bool.and_false, Bool.true_and, Bool.false_and, bI_0n, bI_1n, Bool.not_not]
    · rw [mM, ha, hM_eq, eM_trace_13, hc k hk]
      simp (disch := omega) only [l0, l1, l2, l3, l4, l5, l6, l7, l8, l9, l10, l11, l12, l13, l14, l15, l16, l17, l18, l19, l20, l21, l22, l23, l24, l25, l26, l27, l28, l29, l30, l31, l40, l48, l52, l57, l60, l65, l97, l99, l100, l102, l119, l122, l179, l197, l200, l201, l237, l436, l437, pk_mul, nI_add, inb_nI, nclamp, dlt, dle, deq, bif_t, bif_f, bif_nt, bif_nf, aft0, aft1, decide_true, decide_false, Bool.not_true, Bool.not_false, cond_true, cond_false, Nat.add_sub_cancel, Nat.add_one_sub_one, ou9, mo1, nI_MO, OU_lt, OU_ge, Nat.not_lt_zero, Bool.or_false, Bool.or_true, Bool.true_or, Bool.false_or, Bool.and_true, Bool.and_false, Bool.true_and, Bool.false_and, bI_0n, bI_1n, Bool.not_not]
theorem op_n13 {d i : Nat} {g : GT} {X : XS} {N T K : SS} {M : MS} {dd : AH} {yb ym : Nat} {as : List Value} (r : Int32) (f q : Nat → Int32) (h : INV i X N K M dd) (h1 : call PGM (d + 40) yb (.ref 12 :: as) (heapOf g X N T K M dd) = some (some (.int r), heapOf g X (sA N 13 f) T K M dd)) (h2 : call PGM (d + 40) ym (.ref 91 :: as) (heapOf g X (sA N 13 f) T K M dd) = some (some (.int r), heapOf g X (sA N 13 f) T K (mA M 6 q) dd)) : OPR d i g X N T K M dd yb ym as := by
  obtain ⟨⟨⟨nc, np, nb, n, C, R, W, L, D⟩, wo5⟩, b, c, e, f', gg, k, l, m⟩ := INV_mono h
  exact ⟨r, X, sA N 13 f, T, K, mA M 6 q, dd, h1, h2, ⟨⟨⟨nc, np, nb, n, C, RS_13 R f, W, L, D⟩, wo5⟩, b, c, e, f', gg, k, l, m⟩⟩
theorem wo_OU : woR OU MO := (by decide +kernel : ∀ k, k < 8 → decide (nI k = OU) = decide (nI k = MO))
theorem op_says (d i : Nat) (g : GT) (X : XS) (N T K : SS) (M : MS) (dd : AH) (h : INV i X N K M dd) (a : Int32) : OPR d i g X N T K M dd yB_says yM_says [.int a] := by
  have h' := h
  obtain ⟨⟨⟨nc, np, nb, n, C, R, W, L, D⟩, wo5⟩, hK, hT, hR', hH, hE, hB, hM', hD⟩ := h'
  have hnp := W.1.2.1.2
  have hnc := W.1.1.2.2
  have hnb : nb ≤ 6 := W.1.2.2.1.2
  have e1 : N.2.1 1 = nI np := (R.1 1 (by omega)).trans W.1.2.1.1
  have ent : call PGM (d + 40) yB_says [.ref 12, .int a] (heapOf g X N T K M dd) = sem PGM (d + 39) yB_says (8, [some (.ref 12), some (.int a)], [.int (bI (hasB a np))], heapOf g X N T K M dd) := by
    rw [kB_says, eB_says_0, cN_hasPerson (d + 38) g X T K M dd a e1, aft1]
  have entM : ∀ Z : ZT, call PGM (d + 40) yM_says [.ref 91, .int a] (hM Z M) = sem PGM (d + 39) yM_says (5, [some (.ref 91), some (.int a)], [.int (bI (hasB a np))], hM Z M) := by
    intro Z
    rw [kM_says, eM_says_0, cM_isPerson (d + 37) _ M a hnp W.1.2.1.1, aft1]
  cases ha : hasB a np with
  | false =>
    refine op_ro MO h ?_ ?_
    · rw [ent, ha, eB_says_8]
      rfl
    · rw [hM_eq, entM, ha, eM_says_5]
      rfl
  | true =>
    obtain ⟨p, hp, rfl⟩ := has_t (by omega) ha
    obtain ⟨p5, p6, p7, p8⟩ := R.2.2.1 p hp
    have io : call PGM (d + 39) yS_isOut [.ref 43, .int (nI p)] (heapOf g X N T K M dd) = some (some (.int (bI (decide (N.1 6 p < 0)))), heapOf g X N T K M dd) := by
      rw [hN_eq, cS_isOut (d + 38) (Or.inl rfl) N _ (by omega)]
    have b1 : call PGM (d + 40) yB_says [.ref 12, .int (nI p)] (heapOf g X N T K M dd) = sem PGM (d + 39) yB_says (21, [some (.ref 12), some (.int (nI p))], [.int (bI (decide (M.1 0 (99 + 4 * p + 1) < 0)))], heapOf g X N T K M dd) := by
      rw [ent, ha, eB_says_8, io, p6]
      rfl
    have m1 : ∀ Z : ZT, call PGM (d + 40) yM_says [.ref 91, .int (nI p)] (hM Z M) = sem PGM (d + 39) yM_says (17, [some (.ref 91), some (.int (nI p))], [.int (M.1 0 (99 + 4 * p + 1))], hM Z M) := by
      intro Z
      rw [entM, ha, eM_says_5, cM_whereIs (d + 38) Z M p (by omega)]
      rfl
    rcases (W.2.2.1 p hp).2.1 with hq | ⟨c, hc, hq⟩
    · refine op_ro OU h ?_ ?_
      · rw [b1, hq, OU_lt', eB_says_21]
        rfl
      · rw [hM_eq, m1, hq, eM_says_17]
        rfl
    · obtain ⟨f, hf⟩ := cS_clauseFor (d + 34) (o := 43) (Or.inl rfl) (g, X, T, K, M, dd) (wo := MO) R W hp hc hq D L (by rw [wo5]; exact wo_OU)
      obtain ⟨q, hq'⟩ := cM_clauseOf (d + 33) (g, X, sA N 13 f, T, K, dd) M n p np nb C (by omega) L W.1.2.1.1 hnp W.1.2.2.1.1 hnb
      rw [hM'.1] at hq'
      refine op_n13 (pikC (goodC (M.1 0) np nb C MO p) n 0) f q h ?_ ?_
      · have g1 : decide (nI c < 0) = false := by rw [l0, dlt (by omega) (by omega)]; simp
        rw [b1, hq, g1, eB_says_21, hN_eq, hf, aft1, ← hN_eq, eB_says_37]
        rfl
      · have g1 : decide (0 ≤ nI c) = true := by rw [l0, dle (by omega) (by omega)]; simp
        rw [hM_eq, m1, hq, eM_says_17, g1, cond_true, hq', aft1, eM_says_30]
        rfl
theorem op_fact (d i : Nat) (g : GT) (X : XS) (N T K : SS) (M : MS) (dd : AH) (h : INV i X N K M dd) (a b : Int32) : OPR d i g X N T K M dd yB_fact yM_fact [.int a, .int b] := by
  have h' := h
  obtain ⟨⟨⟨nc, np, nb, n, C, R, W, L, D⟩, wo5⟩, hK, hT, hR', hH, hE, hB, hM', hD⟩ := h'
  have hnp := W.1.2.1.2
  have hnc := W.1.1.2.2
  have hnb : nb ≤ 6 := W.1.2.2.1.2
  have e1 : N.2.1 1 = nI np := (R.1 1 (by omega)).trans W.1.2.1.1
  have ent : call PGM (d + 40) yB_fact [.ref 12, .int a, .int b] (heapOf g X N T K M dd) = sem PGM (d + 39) yB_fact (8, [some (.ref 12), some (.int a), some (.int b)], [.int (bI (hasB a np))], heapOf g X N T K M dd) := by
    rw [kB_fact, eB_fact_0, cN_hasPerson (d + 38) g X T K M dd a e1, aft1]
  have entM : ∀ Z : ZT, call PGM (d + 40) yM_fact [.ref 91, .int a, .int b] (hM Z M) = sem PGM (d + 39) yM_fact (5, [some (.ref 91), some (.int a), some (.int b)], [.int (bI (hasB a np))], hM Z M) := by
    intro Z
    rw [kM_fact, eM_fact_0, cM_isPerson (d + 37) _ M a hnp W.1.2.1.1, aft1]
  cases ha : hasB a np with
  | false =>
    refine op_ro MO h ?_ ?_
    · rw [ent, ha, eB_fact_8]
      rfl
    · rw [hM_eq, entM, ha, eM_fact_5]
      rfl
  | true =>
    obtain ⟨p, hp, rfl⟩ := has_t (by omega) ha
    obtain ⟨p5, p6, p7, p8⟩ := R.2.2.1 p hp
    have io : call PGM (d + 39) yS_isOut [.ref 43, .int (nI p)] (heapOf g X N T K M dd) = some (some (.int (bI (decide (N.1 6 p < 0)))), heapOf g X N T K M dd) := by
      rw [hN_eq, cS_isOut (d + 38) (Or.inl rfl) N _ (by omega)]
    have m1 : ∀ Z : ZT, call PGM (d + 40) yM_fact [.ref 91, .int (nI p), .int b] (hM Z M) = sem PGM (d + 39) yM_fact (17, [some (.ref 91), some (.int (nI p)), some (.int b)], [.int (bI (rng b 0 5))], hM Z M) := by
      intro Z
      rw [entM, ha, eM_fact_5, bI_0, w0, w5, cM_rng (d + 38), aft1]
      rfl
    rcases rng3 b (lo := 0) (hi := 5) (by omega) (by omega) with ⟨k, k0, k5, rfl⟩ | ⟨hr, hc⟩ | ⟨hr, hc1, hc2, hc3⟩
    · have rt : rng (nI k) 0 5 = true := by rw [rng_n (by omega) (by omega) (by omega)]; simp; omega
      have b1 : call PGM (d + 40) yB_fact [.ref 12, .int (nI p), .int (nI k)] (heapOf g X N T K M dd) = sem PGM (d + 39) yB_fact (31, [some (.ref 12), some (.int (nI p)), some (.int (nI k))], [.int (bI (decide (M.1 0 (99 + 4 * p + 1) < 0)))], heapOf g X N T K M dd) := by
        rw [ent, ha, eB_fact_8, io, p6]
        simp (disch := omega) only [l0, l1, l2, l3, l4, l5, l6, l7, l8, l9, l10, l11, l12, l13, l14, l15, l16, l17, l18, l19, l20, l21, l22, l23, l24, l25, l26, l27, l28, l29, l30, l31, l40, l48, l52, l57, l60, l65, l97, l99, l100, l102, l119, l122, l179, l197, l200, l201, l237, l436, l437, pk_mul, nI_add, inb_nI, nclamp, dlt, dle, deq, bif_t, bif_f, bif_nt, bif_nf, aft0, aft1, decide_true, decide_false, Bool.not_true, Bool.not_false, cond_true, cond_false, Nat.add_sub_cancel, Nat.add_one_sub_one, ou9, mo1, nI_MO, OU_lt, OU_ge, Nat.not_lt_zero, Bool.or_false, Bool.or_true, Bool.true_or, Bool.false_or, Bool.and_true, Bool.and_false, Bool.true_and, Bool.false_and, bI_0n, bI_1n, Bool.not_not]
      rcases (W.2.2.1 p hp).2.1 with hq | ⟨c, hc, hq⟩
      · refine op_ro (-3) h ?_ ?_
        · rw [b1, hq, OU_lt', eB_fact_31]
          rfl
        · rw [hM_eq, m1, rt, eM_fact_17, cM_whereIs (d + 38) _ M p (by omega), aft1, hq, eM_fact_27]
          rfl
      · obtain ⟨f, hf, hF⟩ := cS_lookAround (d + 36) (o := 43) (Or.inl rfl) (g, X, T, K, M, dd) R W hp hc hq
        refine op_n13 (f k) f (M.1 6) h ?_ ?_
        · have g1 : decide (nI c < 0) = false := by rw [l0, dlt (by omega) (by omega)]; simp
          rw [b1, hq, g1, eB_fact_31, hN_eq, hf, aft0, ← hN_eq, eB_fact_45, sA_s]
          simp (disch := omega) only [l0, l1, l2, l3, l4, l5, l6, l7, l8, l9, l10, l11, l12, l13, l14, l15, l16, l17, l18, l19, l20, l21, l22, l23, l24, l25, l26, l27, l28, l29, l30, l31, l40, l48, l52, l57, l60, l65, l97, l99, l100, l102, l119, l122, l179, l197, l200, l201, l237, l436, l437, pk_mul, nI_add, inb_nI, nclamp, dlt, dle, deq, bif_t, bif_f, bif_nt, bif_nf, aft0, aft1, decide_true, decide_false, Bool.not_true, Bool.not_false, cond_true, cond_false, Nat.add_sub_cancel, Nat.add_one_sub_one, ou9, mo1, nI_MO, OU_lt, OU_ge, Nat.not_lt_zero, Bool.or_false, Bool.or_true, Bool.true_or, Bool.false_or, Bool.and_true, Bool.and_false, Bool.true_and, Bool.false_and, bI_0n, bI_1n, Bool.not_not]
        · have g1 : decide (0 ≤ nI c) = true := by rw [l0, dle (by omega) (by omega)]; simp
          rw [mA_id, hM_eq, m1, rt, eM_fact_17, cM_whereIs (d + 38) _ M p (by omega), aft1, hq, eM_fact_27, g1, cond_true, cM_factOf (d + 35) _ M p k np nb (by omega) (by omega) W.1.2.1.1 hnp W.1.2.2.1.1 hnb, aft1, eM_fact_41, hq, hF k (by omega)]
          rfl
    · refine op_ro MO h ?_ ?_
      · rw [ent, ha, eB_fact_8]
        simp (disch := omega) only [l0, l1, l2, l3, l4, l5, l6, l7, l8, l9, l10, l11, l12, l13, l14, l15, l16, l17, l18, l19, l20, l21, l22, l23, l24, l25, l26, l27, l28, l29, l30, l31, l40, l48, l52, l57, l60, l65, l97, l99, l100, l102, l119, l122, l179, l197, l200, l201, l237, l436, l437, pk_mul, nI_add, inb_nI, nclamp, dlt, dle, deq, bif_t, bif_f, bif_nt, bif_nf, aft0, aft1, decide_true, decide_false, Bool.not_true, Bool.not_false, cond_true, cond_false, Nat.add_sub_cancel, Nat.add_one_sub_one, ou9, mo1, nI_MO, OU_lt, OU_ge, Nat.not_lt_zero, Bool.or_false, Bool.or_true, Bool.true_or, Bool.false_or, Bool.and_true, Bool.and_false, Bool.true_and, Bool.false_and, bI_0n, bI_1n, Bool.not_not, hc]
      · rw [hM_eq, m1, hr, eM_fact_17]
        rfl
    · have h6 : decide (b < nI 6) = false := by
        have : ¬ b < nI 6 := by
          intro hlt
          have h5 := of_decide_eq_true hc2
          rw [Int32.lt_iff_toInt_lt, nI_toInt (by omega)] at hlt h5
          omega
        simp [this]
      refine op_ro MO h ?_ ?_
      · rw [ent, ha, eB_fact_8]
        simp (disch := omega) only [l0, l1, l2, l3, l4, l5, l6, l7, l8, l9, l10, l11, l12, l13, l14, l15, l16, l17, l18, l19, l20, l21, l22, l23, l24, l25, l26, l27, l28, l29, l30, l31, l40, l48, l52, l57, l60, l65, l97, l99, l100, l102, l119, l122, l179, l197, l200, l201, l237, l436, l437, pk_mul, nI_add, inb_nI, nclamp, dlt, dle, deq, bif_t, bif_f, bif_nt, bif_nf, aft0, aft1, decide_true, decide_false, Bool.not_true, Bool.not_false, cond_true, cond_false, Nat.add_sub_cancel, Nat.add_one_sub_one, ou9, mo1, nI_MO, OU_lt, OU_ge, Nat.not_lt_zero, Bool.or_false, Bool.or_true, Bool.true_or, Bool.false_or, Bool.and_true, Bool.and_false, Bool.true_and, Bool.false_and, bI_0n, bI_1n, Bool.not_not, hc1, h6]
      · rw [hM_eq, m1, hr, eM_fact_17]
        rfl
