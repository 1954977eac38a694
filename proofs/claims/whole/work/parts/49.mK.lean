/-! Heaps of a TENTH. -/
def hpR (s : Nat → Int32) (c : Nat) : Nat → Nat → Int32
  | 0 => s
  | p + 1 => bif decide (hpR s c p (99 + 4 * p + 1) = nI c) && decide (hpR s c p (99 + 4 * p) = nI 3) then upd (hpR s c p) (99 + 4 * p) (nI 6) else hpR s c p
def hpC (np : Nat) (s : Nat → Int32) : Nat → Nat → Int32
  | 0 => s
  | c + 1 => bif decide (nI (faN (hpC np s c) (nI c) np) < hpC np s c 7) then hpC np s c else hpR (hpC np s c) c np
theorem hpR_lo {s : Nat → Int32} {c k : Nat} (h : k < 99) : ∀ p, hpR s c p k = s k
  | 0 => rfl
  | p + 1 => by
    rw [hpR]
    cases decide (hpR s c p (99 + 4 * p + 1) = nI c) && decide (hpR s c p (99 + 4 * p) = nI 3) with
    | true => rw [cond_true, upd_ne (by omega), hpR_lo h p]
    | false => rw [cond_false, hpR_lo h p]
theorem hpC_lo {np : Nat} {s : Nat → Int32} {k : Nat} (h : k < 99) : ∀ c, hpC np s c k = s k
  | 0 => rfl
  | c + 1 => by
    rw [hpC]
    cases decide (nI (faN (hpC np s c) (nI c) np) < hpC np s c 7) with
    | true => rw [cond_true, hpC_lo h c]
    | false => rw [cond_false, hpR_lo h, hpC_lo h c]
theorem cM_heaps (d : Nat) (Z : ZT) (M : MS) (nc np : Nat) (hnc : nc ≤ 30) (hnp : np ≤ 20) (h0 : M.1 0 0 = nI nc) (h1 : M.1 0 1 = nI np) :
    call PGM (d + 3) yM_heaps [.ref 91] (hM Z M) = some (none, hM Z (mA M 0 (hpC np (M.1 0) nc))) := by
  rw [kM_heaps, eM_heaps_0]
  have in0 : ∀ (s : Nat → Int32) (c : Nat), s 1 = nI np → ∀ k p, p + k = np → sem PGM (d + 2) yM_heaps (35, [some (.ref 91), some (.int (nI c)), some (.int (nI 0)), some (.int (nI p))], [], hM Z (mA M 0 s)) = sem PGM (d + 2) yM_heaps (2, [some (.ref 91), some (.int (nI (c + 1))), some (.int (nI 0)), some (.int (nI np))], [], hM Z (mA M 0 s)) := by
    intro s c hs k
    induction k with
    | zero =>
      intro p hp
      rw [eM_heaps_35]
      simp (disch := omega) only [l0, l1, l2, l3, l4, l5, l6, l7, l8, l9, l10, l11, l12, l13, l14, l15, l16, l17, l18, l19, l20, l21, l22, l23, l24, l25, l26, l27, l28, l29, l30, l31, l40, l48, l52, l57, l60, l65, l97, l99, l100, l102, l119, l122, l179, l197, l200, l201, l237, l436, l437, pk_mul, nI_add, inb_nI, nclamp, dlt, dle, deq, bif_t, bif_f, bif_nt, bif_nf, aft0, aft1, decide_true, decide_false, Bool.not_true, Bool.not_false, cond_true, cond_false, Nat.add_sub_cancel, Nat.add_one_sub_one, ou9, mo1, nI_MO, OU_lt, OU_ge, Nat.not_lt_zero, Bool.or_false, Bool.or_true, Bool.true_or, Bool.false_or, Bool.and_true, Bool.and_false, Bool.true_and, Bool.false_and, bI_0n, bI_1n, Bool.not_not, mA_s, hs]
      rw [show p = np by omega]
    | succ k ih =>
      intro p hp
      rw [eM_heaps_35]
      simp (disch := omega) only [l0, l1, l2, l3, l4, l5, l6, l7, l8, l9, l10, l11, l12, l13, l14, l15, l16, l17, l18, l19, l20, l21, l22, l23, l24, l25, l26, l27, l28, l29, l30, l31, l40, l48, l52, l57, l60, l65, l97, l99, l100, l102, l119, l122, l179, l197, l200, l201, l237, l436, l437, pk_mul, nI_add, inb_nI, nclamp, dlt, dle, deq, bif_t, bif_f, bif_nt, bif_nf, aft0, aft1, decide_true, decide_false, Bool.not_true, Bool.not_false, cond_true, cond_false, Nat.add_sub_cancel, Nat.add_one_sub_one, ou9, mo1, nI_MO, OU_lt, OU_ge, Nat.not_lt_zero, Bool.or_false, Bool.or_true, Bool.true_or, Bool.false_or, Bool.and_true, Bool.and_false, Bool.true_and, Bool.false_and, bI_0n, bI_1n, Bool.not_not, mA_s, hs, eM_heaps_80]
      exact ih (p + 1) (by omega)
  have in1 : ∀ (s : Nat → Int32) (c : Nat), s 1 = nI np → ∀ k p, p + k = np → sem PGM (d + 2) yM_heaps (35, [some (.ref 91), some (.int (nI c)), some (.int (nI 1)), some (.int (nI p))], [], hM Z (mA M 0 (hpR s c p))) = sem PGM (d + 2) yM_heaps (2, [some (.ref 91), some (.int (nI (c + 1))), some (.int (nI 1)), some (.int (nI np))], [], hM Z (mA M 0 (hpR s c np))) := by
    intro s c hs k
    induction k with
    | zero =>
      intro p hp
      rw [eM_heaps_35]
      simp (disch := omega) only [l0, l1, l2, l3, l4, l5, l6, l7, l8, l9, l10, l11, l12, l13, l14, l15, l16, l17, l18, l19, l20, l21, l22, l23, l24, l25, l26, l27, l28, l29, l30, l31, l40, l48, l52, l57, l60, l65, l97, l99, l100, l102, l119, l122, l179, l197, l200, l201, l237, l436, l437, pk_mul, nI_add, inb_nI, nclamp, dlt, dle, deq, bif_t, bif_f, bif_nt, bif_nf, aft0, aft1, decide_true, decide_false, Bool.not_true, Bool.not_false, cond_true, cond_false, Nat.add_sub_cancel, Nat.add_one_sub_one, ou9, mo1, nI_MO, OU_lt, OU_ge, Nat.not_lt_zero, Bool.or_false, Bool.or_true, Bool.true_or, Bool.false_or, Bool.and_true, Bool.and_false, Bool.true_and, Bool.false_and, bI_0n, bI_1n, Bool.not_not, mA_s, hpR_lo, hs]
      rw [show p = np by omega]
    | succ k ih =>
      intro p hp
      have ih' := ih (p + 1) (by omega)
      rw [eM_heaps_35]
      simp (disch := omega) only [l0, l1, l2, l3, l4, l5, l6, l7, l8, l9, l10, l11, l12, l13, l14, l15, l16, l17, l18, l19, l20, l21, l22, l23, l24, l25, l26, l27, l28, l29, l30, l31, l40, l48, l52, l57, l60, l65, l97, l99, l100, l102, l119, l122, l179, l197, l200, l201, l237, l436, l437, pk_mul, nI_add, inb_nI, nclamp, dlt, dle, deq, bif_t, bif_f, bif_nt, bif_nf, aft0, aft1, decide_true, decide_false, Bool.not_true, Bool.not_false, cond_true, cond_false, Nat.add_sub_cancel, Nat.add_one_sub_one, ou9, mo1, nI_MO, OU_lt, OU_ge, Nat.not_lt_zero, Bool.or_false, Bool.or_true, Bool.true_or, Bool.false_or, Bool.and_true, Bool.and_false, Bool.true_and, Bool.false_and, bI_0n, bI_1n, Bool.not_not, mA_s, hpR_lo, hs]
      rw [cM_whereIs (d + 1) Z _ p (by omega), aft1, eM_heaps_54, cM_kindOf (d + 1) Z _ p (by omega), aft1, eM_heaps_63]
      simp (disch := omega) only [l0, l1, l2, l3, l4, l5, l6, l7, l8, l9, l10, l11, l12, l13, l14, l15, l16, l17, l18, l19, l20, l21, l22, l23, l24, l25, l26, l27, l28, l29, l30, l31, l40, l48, l52, l57, l60, l65, l97, l99, l100, l102, l119, l122, l179, l197, l200, l201, l237, l436, l437, pk_mul, nI_add, inb_nI, nclamp, dlt, dle, deq, bif_t, bif_f, bif_nt, bif_nf, aft0, aft1, decide_true, decide_false, Bool.not_true, Bool.not_false, cond_true, cond_false, Nat.add_sub_cancel, Nat.add_one_sub_one, ou9, mo1, nI_MO, OU_lt, OU_ge, Nat.not_lt_zero, Bool.or_false, Bool.or_true, Bool.true_or, Bool.false_or, Bool.and_true, Bool.and_false, Bool.true_and, Bool.false_and, bI_0n, bI_1n, Bool.not_not, mA_s, mA_mA, eM_heaps_80]
      rw [hpR] at ih'
      cases h3 : decide (hpR s c p (99 + 4 * p + 1) = nI c) <;> cases h4 : decide (hpR s c p (99 + 4 * p) = nI 3) <;> rw [h3, h4] at ih' <;> exact ih'
  have loop : ∀ k c, c + k = nc → ∀ (b : Int32) (u3 : Option Value), sem PGM (d + 2) yM_heaps (2, [some (.ref 91), some (.int (nI c)), some (.int b), u3], [], hM Z (mA M 0 (hpC np (M.1 0) c))) = some (none, hM Z (mA M 0 (hpC np (M.1 0) nc))) := by
    intro k
    induction k with
    | zero =>
      intro c hc b u3
      rw [eM_heaps_2x]
      simp (disch := omega) only [l0, l1, l2, l3, l4, l5, l6, l7, l8, l9, l10, l11, l12, l13, l14, l15, l16, l17, l18, l19, l20, l21, l22, l23, l24, l25, l26, l27, l28, l29, l30, l31, l40, l48, l52, l57, l60, l65, l97, l99, l100, l102, l119, l122, l179, l197, l200, l201, l237, l436, l437, pk_mul, nI_add, inb_nI, nclamp, dlt, dle, deq, bif_t, bif_f, bif_nt, bif_nf, aft0, aft1, decide_true, decide_false, Bool.not_true, Bool.not_false, cond_true, cond_false, Nat.add_sub_cancel, Nat.add_one_sub_one, ou9, mo1, nI_MO, OU_lt, OU_ge, Nat.not_lt_zero, Bool.or_false, Bool.or_true, Bool.true_or, Bool.false_or, Bool.and_true, Bool.and_false, Bool.true_and, Bool.false_and, bI_0n, bI_1n, Bool.not_not, mA_s, hpC_lo, h0]
      rw [show c = nc by omega]
    | succ k ih =>
      intro c hc b u3
      rw [eM_heaps_2x]
      simp (disch := omega) only [l0, l1, l2, l3, l4, l5, l6, l7, l8, l9, l10, l11, l12, l13, l14, l15, l16, l17, l18, l19, l20, l21, l22, l23, l24, l25, l26, l27, l28, l29, l30, l31, l40, l48, l52, l57, l60, l65, l97, l99, l100, l102, l119, l122, l179, l197, l200, l201, l237, l436, l437, pk_mul, nI_add, inb_nI, nclamp, dlt, dle, deq, bif_t, bif_f, bif_nt, bif_nf, aft0, aft1, decide_true, decide_false, Bool.not_true, Bool.not_false, cond_true, cond_false, Nat.add_sub_cancel, Nat.add_one_sub_one, ou9, mo1, nI_MO, OU_lt, OU_ge, Nat.not_lt_zero, Bool.or_false, Bool.or_true, Bool.true_or, Bool.false_or, Bool.and_true, Bool.and_false, Bool.true_and, Bool.false_and, bI_0n, bI_1n, Bool.not_not, mA_s, hpC_lo, h0]
      rw [cM_fallenIn d Z _ _ np (by rw [mA_s, hpC_lo (by omega), h1]) hnp, aft1, eM_heaps_17x, mA_s]
      simp (disch := omega) only [l0, l1, l2, l3, l4, l5, l6, l7, l8, l9, l10, l11, l12, l13, l14, l15, l16, l17, l18, l19, l20, l21, l22, l23, l24, l25, l26, l27, l28, l29, l30, l31, l40, l48, l52, l57, l60, l65, l97, l99, l100, l102, l119, l122, l179, l197, l200, l201, l237, l436, l437, pk_mul, nI_add, inb_nI, nclamp, dlt, dle, deq, bif_t, bif_f, bif_nt, bif_nf, aft0, aft1, decide_true, decide_false, Bool.not_true, Bool.not_false, cond_true, cond_false, Nat.add_sub_cancel, Nat.add_one_sub_one, ou9, mo1, nI_MO, OU_lt, OU_ge, Nat.not_lt_zero, Bool.or_false, Bool.or_true, Bool.true_or, Bool.false_or, Bool.and_true, Bool.and_false, Bool.true_and, Bool.false_and, bI_0n, bI_1n, Bool.not_not]
      have h1' : hpC np (M.1 0) c 1 = nI np := by rw [hpC_lo (by omega), h1]
      rw [in0 _ c h1' np 0 (by omega)]
      have e1 := in1 _ c h1' np 0 (by omega)
      have ih' := fun b u => ih (c + 1) (by omega) b u
      rw [hpC] at ih'
      cases hd : decide (nI (faN (hpC np (M.1 0) c) (nI c) np) < hpC np (M.1 0) c 7) with
      | true =>
        rw [hd] at ih'
        exact ih' _ _
      | false =>
        rw [hd] at ih'
        exact e1.trans (ih' _ _)
  cases nc with
  | zero =>
    rw [eM_heaps_2]
    have h0' : M.1 0 0 = nI 0 := h0
    simp (disch := omega) only [l0, l1, l2, l3, l4, l5, l6, l7, l8, l9, l10, l11, l12, l13, l14, l15, l16, l17, l18, l19, l20, l21, l22, l23, l24, l25, l26, l27, l28, l29, l30, l31, l40, l48, l52, l57, l60, l65, l97, l99, l100, l102, l119, l122, l179, l197, l200, l201, l237, l436, l437, pk_mul, nI_add, inb_nI, nclamp, dlt, dle, deq, bif_t, bif_f, bif_nt, bif_nf, aft0, aft1, decide_true, decide_false, Bool.not_true, Bool.not_false, cond_true, cond_false, Nat.add_sub_cancel, Nat.add_one_sub_one, ou9, mo1, nI_MO, OU_lt, OU_ge, Nat.not_lt_zero, Bool.or_false, Bool.or_true, Bool.true_or, Bool.false_or, Bool.and_true, Bool.and_false, Bool.true_and, Bool.false_and, bI_0n, bI_1n, Bool.not_not, h0']
    rw [hpC, mA_id]
  | succ m =>
    have e2 := loop (m + 1) 0 (by omega) (nI 0) none
    rw [eM_heaps_2x] at e2
    rw [eM_heaps_2]
    rw [hpC, mA_id] at e2
    simp (disch := omega) only [l0, l1, l2, l3, l4, l5, l6, l7, l8, l9, l10, l11, l12, l13, l14, l15, l16, l17, l18, l19, l20, l21, l22, l23, l24, l25, l26, l27, l28, l29, l30, l31, l40, l48, l52, l57, l60, l65, l97, l99, l100, l102, l119, l122, l179, l197, l200, l201, l237, l436, l437, pk_mul, nI_add, inb_nI, nclamp, dlt, dle, deq, bif_t, bif_f, bif_nt, bif_nf, aft0, aft1, decide_true, decide_false, Bool.not_true, Bool.not_false, cond_true, cond_false, Nat.add_sub_cancel, Nat.add_one_sub_one, ou9, mo1, nI_MO, OU_lt, OU_ge, Nat.not_lt_zero, Bool.or_false, Bool.or_true, Bool.true_or, Bool.false_or, Bool.and_true, Bool.and_false, Bool.true_and, Bool.false_and, bI_0n, bI_1n, Bool.not_not, h0]
    simp (disch := omega) only [l0, l1, l2, l3, l4, l5, l6, l7, l8, l9, l10, l11, l12, l13, l14, l15, l16, l17, l18, l19, l20, l21, l22, l23, l24, l25, l26, l27, l28, l29, l30, l31, l40, l48, l52, l57, l60, l65, l97, l99, l100, l102, l119, l122, l179, l197, l200, l201, l237, l436, l437, pk_mul, nI_add, inb_nI, nclamp, dlt, dle, deq, bif_t, bif_f, bif_nt, bif_nf, aft0, aft1, decide_true, decide_false, Bool.not_true, Bool.not_false, cond_true, cond_false, Nat.add_sub_cancel, Nat.add_one_sub_one, ou9, mo1, nI_MO, OU_lt, OU_ge, Nat.not_lt_zero, Bool.or_false, Bool.or_true, Bool.true_or, Bool.false_or, Bool.and_true, Bool.and_false, Bool.true_and, Bool.false_and, bI_0n, bI_1n, Bool.not_not, h0] at e2
    rw [cM_fallenIn d Z _ _ np h1 hnp, aft1] at e2 ⊢
    rw [eM_heaps_17]
    rw [eM_heaps_17x] at e2
    exact e2
