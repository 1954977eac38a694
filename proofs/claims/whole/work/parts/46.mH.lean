/-! What one does in a turn. -/
def mQ (M : MS) (q s : Nat → Int32) : MS := mA (mA M 6 q) 0 s
theorem mQ_0 (M : MS) (q s : Nat → Int32) : (mQ M q s).1 0 = s := mA_s _ _ _
theorem mQ_6 (M : MS) (q s : Nat → Int32) : (mQ M q s).1 6 = q := id rfl
theorem mQ_n {M : MS} {q s : Nat → Int32} {j : Nat} (h0 : j ≠ 0) (h6 : j ≠ 6) : (mQ M q s).1 j = M.1 j := by
  rw [mQ, mA_n h0, mA_n h6]
theorem mQ_2 (M : MS) (q s : Nat → Int32) : (mQ M q s).2 = M.2 := id rfl
theorem ms_ext {M M' : MS} (h1 : ∀ j, M.1 j = M'.1 j) (h2 : M.2 = M'.2) : M = M' := by
  obtain ⟨a, b⟩ := M
  obtain ⟨a', b'⟩ := M'
  have : a = a' := funext h1
  subst this
  have h2 : b = b' := h2
  rw [h2]
theorem mQ_m60 (M : MS) (q s q' s' : Nat → Int32) : mQ (mQ M q s) q' s' = mQ M q' s' := by
  refine ms_ext (fun j => ?_) (id rfl)
  by_cases h0 : j = 0
  · subst h0; rfl
  · by_cases h6 : j = 6
    · subst h6; rfl
    · rw [mQ_n h0 h6, mQ_n h0 h6, mQ_n h0 h6]
theorem mQ_a0 (M : MS) (q s s' : Nat → Int32) : mA (mQ M q s) 0 s' = mQ M q s' := by rw [mQ, mA_mA, mQ]
theorem mQ_a6 (M : MS) (q s q' : Nat → Int32) : mA (mQ M q s) 6 q' = mQ M q' s := by
  refine ms_ext (fun j => ?_) (id rfl)
  by_cases h0 : j = 0
  · subst h0; rfl
  · by_cases h6 : j = 6
    · subst h6; rfl
    · rw [mA_n h6, mQ_n h0 h6, mQ_n h0 h6]
theorem mQ_id (M : MS) : mQ M (M.1 6) (M.1 0) = M := by
  refine ms_ext (fun j => ?_) (id rfl)
  by_cases h0 : j = 0
  · subst h0; rfl
  · by_cases h6 : j = 6
    · subst h6; rfl
    · rw [mQ_n h0 h6]
theorem mQ_of6 (M : MS) (q : Nat → Int32) : mA M 6 q = mQ M q (M.1 0) := by
  refine ms_ext (fun j => ?_) (id rfl)
  by_cases h0 : j = 0
  · subst h0; rfl
  · by_cases h6 : j = 6
    · subst h6; rfl
    · rw [mA_n h6, mQ_n h0 h6]
theorem mQ_of0 (M : MS) (s : Nat → Int32) : mA M 0 s = mQ M (M.1 6) s := by
  refine ms_ext (fun j => ?_) (id rfl)
  by_cases h0 : j = 0
  · subst h0; rfl
  · by_cases h6 : j = 6
    · subst h6; rfl
    · rw [mA_n h0, mQ_n h0 h6]
theorem pik_cases (g : Nat → Bool) : ∀ m k, pikC g m k = OU ∨ ∃ j, k ≤ j ∧ j < k + m ∧ pikC g m k = nI j ∧ g j = true := by
  intro m
  induction m with
  | zero => intro k; exact Or.inl rfl
  | succ m ih =>
    intro k
    rw [pikC]
    cases h : g k with
    | true => exact Or.inr ⟨k, by omega, by omega, rfl, h⟩
    | false =>
      rcases ih (k + 1) with h1 | ⟨j, a, b, c, e⟩
      · exact Or.inl h1
      · exact Or.inr ⟨j, by omega, by omega, c, e⟩
def actF (s : Nat → Int32) (x : Int32) (p : Nat) : Int32 := bif decide (x < nI 0) then (bif under (s (99 + 4 * p)) (nI 1) then nI 0 else nI 1) else s (197 + 5 * x.toNatClampNeg + 1)
def doA (s : Nat → Int32) (np nb p : Nat) (act : Int32) : Nat → Int32 :=
  bif decide (act = nI 2) && decide (s (9 + 3 * (s (99 + 4 * p + 1)).toNatClampNeg + 2) = nI 1) then upd s (99 + 4 * p + 1) OU else
  bif decide (act = nI 0) || decide (act = nI 2) then runF s np nb p else
  bif decide (act = nI 3) && !under (s (99 + 4 * p)) (nI 3) then upd s (99 + 4 * p) (nI 3) else s
def doF (s : Nat → Int32) (np nb n : Nat) (C : Nat → CL) (wo : Int32) (p : Nat) : Nat → Int32 := doA s np nb p (actF s (pikC (goodC s np nb C wo p) n 0) p)
theorem cM_does (d : Nat) (Z : ZT) (M : MS) (p nc np nb n a c : Nat) (C : Nat → CL) (hp : p < 20) (hnc : nc ≤ 30) (hnp : np ≤ 20) (hnb : nb ≤ 6) (h0 : M.1 0 0 = nI nc) (h1 : M.1 0 1 = nI np) (h2 : M.1 0 2 = nI nb) (hl : lawM (M.1 0) n C) (hc : c < nc) (h3 : M.1 0 (99 + 4 * p + 1) = nI c) (ha : 1 ≤ a ∧ a ≤ 3) (h4 : M.1 0 (99 + 4 * p + 2) = nI a) :
    ∃ q, call PGM (d + 7) yM_does [.ref 91, .int (nI p)] (hM Z M) = some (none, hM Z (mQ M q (doF (M.1 0) np nb n C (M.2 8) p))) := by
  obtain ⟨q, hq⟩ := cM_clauseOf d Z M n p np nb C (by omega) hl h1 hnp h2 hnb
  refine ⟨q, ?_⟩
  rw [kM_does, eM_does_0, hq, aft1, doF]
  have hr : call PGM (d + 6) yM_runs [.ref 91, .int (nI p)] (hM Z (mA M 6 q)) = some (none, hM Z (mA (mA M 6 q) 0 (runF (M.1 0) np nb p))) := cM_runs (d + 2) Z (mA M 6 q) p nc np nb a c hp hnc hnp hnb h0 h1 h2 hc h3 ha h4
  rcases pik_cases (goodC (M.1 0) np nb C (M.2 8) p) n 0 with e | ⟨j, _, hj, e, _⟩
  · rw [e, eM_does_12]
    simp (disch := omega) only [l0, l1, l2, l3, l4, l5, l6, l7, l8, l9, l10, l11, l12, l13, l14, l15, l16, l17, l18, l19, l20, l21, l22, l23, l24, l25, l26, l27, l28, l29, l30, l31, l40, l48, l52, l57, l60, l65, l97, l99, l100, l102, l119, l122, l179, l197, l200, l201, l237, l436, l437, pk_mul, nI_add, inb_nI, nclamp, dlt, dle, deq, bif_t, bif_f, bif_nt, bif_nf, aft0, aft1, decide_true, decide_false, Bool.not_true, Bool.not_false, cond_true, cond_false, Nat.add_sub_cancel, Nat.add_one_sub_one, ou9, mo1, nI_MO, OU_lt, OU_ge, Nat.not_lt_zero, Bool.or_false, Bool.or_true, Bool.true_or, Bool.false_or, Bool.and_true, Bool.and_false, Bool.true_and, Bool.false_and, bI_0n, bI_1n, Bool.not_not, mA_n, actF]
    rw [cM_under, aft1, eM_does_44, bI_0, hr, aft0, eM_does_113]
    cases under (M.1 0 (99 + 4 * p)) (nI 1) with
    | true => rfl
    | false =>
      have : mA M 6 q = mQ M q (M.1 0) := mQ_of6 M q
      rw [this]
      rfl
  · rw [e, eM_does_12]
    have hj8 : j < 8 := by have := hl.1; omega
    simp (disch := omega) only [l0, l1, l2, l3, l4, l5, l6, l7, l8, l9, l10, l11, l12, l13, l14, l15, l16, l17, l18, l19, l20, l21, l22, l23, l24, l25, l26, l27, l28, l29, l30, l31, l40, l48, l52, l57, l60, l65, l97, l99, l100, l102, l119, l122, l179, l197, l200, l201, l237, l436, l437, pk_mul, nI_add, inb_nI, nclamp, dlt, dle, deq, bif_t, bif_f, bif_nt, bif_nf, aft0, aft1, decide_true, decide_false, Bool.not_true, Bool.not_false, cond_true, cond_false, Nat.add_sub_cancel, Nat.add_one_sub_one, ou9, mo1, nI_MO, OU_lt, OU_ge, Nat.not_lt_zero, Bool.or_false, Bool.or_true, Bool.true_or, Bool.false_or, Bool.and_true, Bool.and_false, Bool.true_and, Bool.false_and, bI_0n, bI_1n, Bool.not_not, mA_n, actF, h3]
    rw [cM_under, aft1, eM_does_132, hr, aft0, eM_does_113]
    simp (disch := omega) only [l0, l1, l2, l3, l4, l5, l6, l7, l8, l9, l10, l11, l12, l13, l14, l15, l16, l17, l18, l19, l20, l21, l22, l23, l24, l25, l26, l27, l28, l29, l30, l31, l40, l48, l52, l57, l60, l65, l97, l99, l100, l102, l119, l122, l179, l197, l200, l201, l237, l436, l437, pk_mul, nI_add, inb_nI, nclamp, dlt, dle, deq, bif_t, bif_f, bif_nt, bif_nf, aft0, aft1, decide_true, decide_false, Bool.not_true, Bool.not_false, cond_true, cond_false, Nat.add_sub_cancel, Nat.add_one_sub_one, ou9, mo1, nI_MO, OU_lt, OU_ge, Nat.not_lt_zero, Bool.or_false, Bool.or_true, Bool.true_or, Bool.false_or, Bool.and_true, Bool.and_false, Bool.true_and, Bool.false_and, bI_0n, bI_1n, Bool.not_not, mA_n, doA, h3]
    generalize M.1 0 (197 + 5 * j + 1) = x
    have e6 : mA M 6 q = mQ M q (M.1 0) := mQ_of6 M q
    by_cases x2 : x = nI 2
    · subst x2
      simp (disch := omega) only [l0, l1, l2, l3, l4, l5, l6, l7, l8, l9, l10, l11, l12, l13, l14, l15, l16, l17, l18, l19, l20, l21, l22, l23, l24, l25, l26, l27, l28, l29, l30, l31, l40, l48, l52, l57, l60, l65, l97, l99, l100, l102, l119, l122, l179, l197, l200, l201, l237, l436, l437, pk_mul, nI_add, inb_nI, nclamp, dlt, dle, deq, bif_t, bif_f, bif_nt, bif_nf, aft0, aft1, decide_true, decide_false, Bool.not_true, Bool.not_false, cond_true, cond_false, Nat.add_sub_cancel, Nat.add_one_sub_one, ou9, mo1, nI_MO, OU_lt, OU_ge, Nat.not_lt_zero, Bool.or_false, Bool.or_true, Bool.true_or, Bool.false_or, Bool.and_true, Bool.and_false, Bool.true_and, Bool.false_and, bI_0n, bI_1n, Bool.not_not]
      cases decide (M.1 0 (9 + 3 * c + 2) = nI 1) <;> rfl
    · have n2 : decide (x = nI 2) = false := by simp [x2]
      by_cases x0 : x = nI 0
      · subst x0
        simp (disch := omega) only [l0, l1, l2, l3, l4, l5, l6, l7, l8, l9, l10, l11, l12, l13, l14, l15, l16, l17, l18, l19, l20, l21, l22, l23, l24, l25, l26, l27, l28, l29, l30, l31, l40, l48, l52, l57, l60, l65, l97, l99, l100, l102, l119, l122, l179, l197, l200, l201, l237, l436, l437, pk_mul, nI_add, inb_nI, nclamp, dlt, dle, deq, bif_t, bif_f, bif_nt, bif_nf, aft0, aft1, decide_true, decide_false, Bool.not_true, Bool.not_false, cond_true, cond_false, Nat.add_sub_cancel, Nat.add_one_sub_one, ou9, mo1, nI_MO, OU_lt, OU_ge, Nat.not_lt_zero, Bool.or_false, Bool.or_true, Bool.true_or, Bool.false_or, Bool.and_true, Bool.and_false, Bool.true_and, Bool.false_and, bI_0n, bI_1n, Bool.not_not]
        rfl
      · have n0 : decide (x = nI 0) = false := by simp [x0]
        simp only [n2, n0, Bool.not_false, cond_true, cond_false, Bool.false_and, Bool.or_false]
        cases decide (x = nI 3) with
        | false =>
          rw [e6]
          rfl
        | true =>
          simp only [Bool.not_true, cond_false, Bool.true_and]
          cases under (M.1 0 (99 + 4 * p)) (nI 3) with
          | true =>
            rw [e6]
            rfl
          | false => rfl
/-- whom a BEAST meets -/
def hitB (s : Nat → Int32) (p : Nat) : Nat → Bool
  | 0 => false
  | b + 1 => hitB s p b || (!decide (s (179 + 3 * b) < nI 0) && decide (s (179 + 3 * b) = s (99 + 4 * p + 1)))
def lonB (s : Nat → Int32) (p : Nat) : Nat → Bool
  | 0 => false
  | b + 1 => lonB s p b || ((!decide (s (179 + 3 * b) < nI 0) && decide (s (179 + 3 * b) = s (99 + 4 * p + 1))) && decide (s (179 + 3 * b + 2) = nI 1))
def hurtN (k : Int32) : Nat := if k = nI 1 then 1 else if k = nI 6 then 1 else if k = nI 4 then 2 else if k = nI 5 then 2 else 0
def harmN (s : Nat → Int32) (nb p : Nat) : Nat := if hitB s p nb = true then hurtN (s (99 + 4 * p)) + (if lonB s p nb = true then 1 else 0) else 0
theorem cM_harmTo (d : Nat) (Z : ZT) (M : MS) (p nb : Nat) (hp : p < 20) (hnb : nb ≤ 6) (h2 : M.1 0 2 = nI nb) :
    call PGM (d + 2) yM_harmTo [.ref 91, .int (nI p)] (hM Z M) = some (some (.int (nI (harmN (M.1 0) nb p))), hM Z M) := by
  rw [kM_harmTo, eM_harmTo_0]
  have loop : ∀ k j, j + k = nb → ∀ u5, sem PGM (d + 1) yM_harmTo (7, [some (.ref 91), some (.int (nI p)), some (.int (bI (hitB (M.1 0) p j))), some (.int (bI (lonB (M.1 0) p j))), some (.int (nI j)), u5], [], hM Z M) = some (some (.int (nI (harmN (M.1 0) nb p))), hM Z M) := by
    intro k
    induction k with
    | zero =>
      intro j hj u5
      have ej : j = nb := by omega
      subst ej
      rw [eM_harmTo_7, h2]
      simp (disch := omega) only [l0, l1, l2, l3, l4, l5, l6, l7, l8, l9, l10, l11, l12, l13, l14, l15, l16, l17, l18, l19, l20, l21, l22, l23, l24, l25, l26, l27, l28, l29, l30, l31, l40, l48, l52, l57, l60, l65, l97, l99, l100, l102, l119, l122, l179, l197, l200, l201, l237, l436, l437, pk_mul, nI_add, inb_nI, nclamp, dlt, dle, deq, bif_t, bif_f, bif_nt, bif_nf, aft0, aft1, decide_true, decide_false, Bool.not_true, Bool.not_false, cond_true, cond_false, Nat.add_sub_cancel, Nat.add_one_sub_one, ou9, mo1, nI_MO, OU_lt, OU_ge, Nat.not_lt_zero, Bool.or_false, Bool.or_true, Bool.true_or, Bool.false_or, Bool.and_true, Bool.and_false, Bool.true_and, Bool.false_and, bI_0n, bI_1n, Bool.not_not]
      rw [cM_kindOf d Z M p (by omega), aft1, eM_harmTo_104]
      unfold harmN hurtN
      cases hitB (M.1 0) p j with
      | false => rfl
      | true =>
        simp (disch := omega) only [l0, l1, l2, l3, l4, l5, l6, l7, l8, l9, l10, l11, l12, l13, l14, l15, l16, l17, l18, l19, l20, l21, l22, l23, l24, l25, l26, l27, l28, l29, l30, l31, l40, l48, l52, l57, l60, l65, l97, l99, l100, l102, l119, l122, l179, l197, l200, l201, l237, l436, l437, pk_mul, nI_add, inb_nI, nclamp, dlt, dle, deq, bif_t, bif_f, bif_nt, bif_nf, aft0, aft1, decide_true, decide_false, Bool.not_true, Bool.not_false, cond_true, cond_false, Nat.add_sub_cancel, Nat.add_one_sub_one, ou9, mo1, nI_MO, OU_lt, OU_ge, Nat.not_lt_zero, Bool.or_false, Bool.or_true, Bool.true_or, Bool.false_or, Bool.and_true, Bool.and_false, Bool.true_and, Bool.false_and, bI_0n, bI_1n, Bool.not_not]
        by_cases k1 : M.1 0 (99 + 4 * p) = nI 1
        · simp only [k1, decide_true, cond_true, if_true]
          cases lonB (M.1 0) p j <;> rfl
        · by_cases k6 : M.1 0 (99 + 4 * p) = nI 6
          · simp only [k1, k6, decide_true, decide_false, cond_true, cond_false, if_true, if_false, Bool.not_true]
            cases lonB (M.1 0) p j <;> rfl
          · by_cases k4 : M.1 0 (99 + 4 * p) = nI 4
            · simp only [k1, k6, k4, decide_true, decide_false, cond_true, cond_false, if_true, if_false, Bool.not_true, Bool.not_false]
              cases lonB (M.1 0) p j <;> rfl
            · by_cases k5 : M.1 0 (99 + 4 * p) = nI 5
              · simp only [k1, k6, k4, k5, decide_true, decide_false, cond_true, cond_false, if_true, if_false, Bool.not_true, Bool.not_false]
                cases lonB (M.1 0) p j <;> rfl
              · simp only [k1, k6, k4, k5, decide_true, decide_false, cond_true, cond_false, if_true, if_false, Bool.not_true, Bool.not_false]
                cases lonB (M.1 0) p j <;> rfl
    | succ k ih =>
      intro j hj u5
      have ih' := fun u => ih (j + 1) (by omega) u
      rw [eM_harmTo_7, h2]
      simp (disch := omega) only [l0, l1, l2, l3, l4, l5, l6, l7, l8, l9, l10, l11, l12, l13, l14, l15, l16, l17, l18, l19, l20, l21, l22, l23, l24, l25, l26, l27, l28, l29, l30, l31, l40, l48, l52, l57, l60, l65, l97, l99, l100, l102, l119, l122, l179, l197, l200, l201, l237, l436, l437, pk_mul, nI_add, inb_nI, nclamp, dlt, dle, deq, bif_t, bif_f, bif_nt, bif_nf, aft0, aft1, decide_true, decide_false, Bool.not_true, Bool.not_false, cond_true, cond_false, Nat.add_sub_cancel, Nat.add_one_sub_one, ou9, mo1, nI_MO, OU_lt, OU_ge, Nat.not_lt_zero, Bool.or_false, Bool.or_true, Bool.true_or, Bool.false_or, Bool.and_true, Bool.and_false, Bool.true_and, Bool.false_and, bI_0n, bI_1n, Bool.not_not]
      rw [cM_whereBeast d Z M j (by omega), aft1, eM_harmTo_24]
      rw [cM_whereBeast d Z M j (by omega), aft1, eM_harmTo_33, cM_whereIs d Z M p (by omega), aft1, eM_harmTo_38, cM_isAlone d Z M j (by omega), aft1, eM_harmTo_78]
      rw [hitB, lonB] at ih'
      simp (disch := omega) only [l0, l1, l2, l3, l4, l5, l6, l7, l8, l9, l10, l11, l12, l13, l14, l15, l16, l17, l18, l19, l20, l21, l22, l23, l24, l25, l26, l27, l28, l29, l30, l31, l40, l48, l52, l57, l60, l65, l97, l99, l100, l102, l119, l122, l179, l197, l200, l201, l237, l436, l437, pk_mul, nI_add, inb_nI, nclamp, dlt, dle, deq, bif_t, bif_f, bif_nt, bif_nf, aft0, aft1, decide_true, decide_false, Bool.not_true, Bool.not_false, cond_true, cond_false, Nat.add_sub_cancel, Nat.add_one_sub_one, ou9, mo1, nI_MO, OU_lt, OU_ge, Nat.not_lt_zero, Bool.or_false, Bool.or_true, Bool.true_or, Bool.false_or, Bool.and_true, Bool.and_false, Bool.true_and, Bool.false_and, bI_0n, bI_1n, Bool.not_not]
      cases h6 : decide (M.1 0 (179 + 3 * j) < nI 0) <;> cases h7 : decide (M.1 0 (179 + 3 * j) = M.1 0 (99 + 4 * p + 1)) <;> cases h8 : decide (M.1 0 (179 + 3 * j + 2) = nI 1) <;> cases h9 : hitB (M.1 0) p j <;> cases h10 : lonB (M.1 0) p j <;> simp only [h6, h7, h8, h9, h10] at ih' ⊢ <;> exact ih' _
  exact loop nb 0 (by omega) none
