/-! Calls of both: together, odds, begin, door. -/
theorem sub_le3 {a b c : Nat} (ha : a < 100000) (hb : b < 100000) (hc : c < 100000) : decide (nI a - nI c ≤ nI b - nI c) = decide (nI a ≤ nI b) := by
  rw [dle (by omega) (by omega), decide_eq_decide, Int32.le_iff_toInt_le, iv_sub' ha hc, iv_sub' hb hc]
  omega
theorem sub_le0 {a b : Nat} (ha : a < 100000) (hb : b < 100000) : decide (nI a - nI b ≤ nI 0) = decide (nI a ≤ nI b) := by
  rw [dle (by omega) (by omega), decide_eq_decide, Int32.le_iff_toInt_le, iv_sub' ha hb, nI_toInt (by omega)]
  omega
/-- in how many of the first TENTHS the herd stays together -/
def togN (nc np nb n : Nat) (C : Nat → CL) (wo : Int32) (s : Nat → Int32) : Nat → Nat := cnt (fun j => decide (loN (trS nc np nb n C wo s (j + 1)) nb = 0))
theorem togN_s (nc np nb n : Nat) (C : Nat → CL) (wo : Int32) (s : Nat → Int32) (j : Nat) : togN nc np nb n C wo s (j + 1) = togN nc np nb n C wo s j + (bif decide (loN (trS nc np nb n C wo s (j + 1)) nb = 0) then 1 else 0) := rfl
theorem op_together (d i : Nat) (g : GT) (X : XS) (N T K : SS) (M : MS) (dd : AH) (h : INV i X N K M dd) (hi : i ≤ 512) (a : Int32) : OPR d i g X N T K M dd yB_together yM_together [.int a] := by
  have h' := h
  obtain ⟨⟨⟨nc, np, nb, n, C, R, W, L, D⟩, wo5⟩, hK, hT, ⟨r, r24, r1, r2, hrr⟩, hH, hE, hB, hM', hD⟩ := h'
  have hnp := W.1.2.1.2
  have hnb : nb ≤ 6 := W.1.2.2.1.2
  have hm8 : M.2 8 = MO := hM'.1
  have cB : call PGM (d + 40) yB_together [.ref 12, .int a] (heapOf g X N T K M dd) = sem PGM (d + 39) yB_together (4, [some (.ref 12), some (.int a), none, none], [.int (bI (rng a 0 60))], heapOf g X N T K M dd) := by
    rw [kB_together, eB_together_0, isB_Tenths (d + 38), aft1]
  have cM : ∀ Z : ZT, call PGM (d + 40) yM_together [.ref 91, .int a] (hM Z M) = sem PGM (d + 39) yM_together (4, [some (.ref 91), some (.int a), none, none, none], [.int (bI (rng a 0 60))], hM Z M) := by
    intro Z
    rw [kM_together, eM_together_0, cM_isLong (d + 37), aft1]
  cases hr : rng a 0 60 with
  | false =>
    refine bad_tr h ?_ ?_
    · rw [cB, hr, eB_together_4]
      rfl
    · rw [hM_eq, cM, hr, eM_together_4]
      rfl
  | true =>
    obtain ⟨t, _, ht, rfl⟩ := rng_t (by omega) (by omega) hr
    have loN6 : ∀ s : Nat → Int32, loN s nb ≤ 6 := fun s => Nat.le_trans (cnt_le _ _) hnb
    have lpB : ∀ m j, j + m = t → ∀ T1, RS T1 (trS nc np nb n C MO (M.1 0) j) np nb → T1.2.2 = N.2.2 → T1.2.1 5 = OU → ∃ T', sem PGM (d + 39) yB_together (24, [some (.ref 12), some (.int (nI t)), some (.int (nI (togN nc np nb n C MO (M.1 0) j))), some (.int (nI (j + 1)))], [], heapOf g X N T1 K M dd) = some (some (.int (nI (togN nc np nb n C MO (M.1 0) t))), heapOf g X N T' K M dd) := by
      intro m
      induction m with
      | zero =>
        intro j hj T1 _ _ _
        have ej : j = t := by omega
        subst ej
        refine ⟨T1, ?_⟩
        rw [eB_together_24]
        simp (disch := omega) only [l0, l1, l2, l3, l4, l5, l6, l7, l8, l9, l10, l11, l12, l13, l14, l15, l16, l17, l18, l19, l20, l21, l22, l23, l24, l25, l26, l27, l28, l29, l30, l31, l40, l48, l52, l57, l60, l65, l97, l99, l100, l102, l119, l122, l179, l197, l200, l201, l237, l436, l437, pk_mul, nI_add, inb_nI, nclamp, dlt, dle, deq, bif_t, bif_f, bif_nt, bif_nf, aft0, aft1, decide_true, decide_false, Bool.not_true, Bool.not_false, cond_true, cond_false, Nat.add_sub_cancel, Nat.add_one_sub_one, ou9, mo1, nI_MO, OU_lt, OU_ge, Nat.not_lt_zero, Bool.or_false, Bool.or_true, Bool.true_or, Bool.false_or, Bool.and_true, Bool.and_false, Bool.true_and, Bool.false_and, bI_0n, bI_1n, Bool.not_not]
      | succ m ih =>
        intro j hj T1 R1 l1' o1'
        have W1 := WF_trS (n := n) (C := C) (wo := MO) W j
        obtain ⟨T2, c1, c2, c3⟩ := cS_tenthn (d + 33) (o := 59) (Or.inr rfl) (g, X, N, K, M, dd) (nI (j + 1)) (wo := MO) R1 W1 (by rw [l1']; exact D) (lawM_congr L (trS_fr hnp hnb (by omega) j) (fun i hi => trS_fr hnp hnb (by omega) j)) (by rw [o1']; exact wo_OU)
        have W2 := WF_trS (n := n) (C := C) (wo := MO) W (j + 1)
        have c2' : RS T2 (trS nc np nb n C MO (M.1 0) (j + 1)) np nb := c2
        have lo : call PGM (d + 39) yS_lone [.ref 59] (heapOf g X N T2 K M dd) = some (some (.int (nI (loN (trS nc np nb n C MO (M.1 0) (j + 1)) nb))), heapOf g X N T2 K M dd) := by
          rw [hT_eq, cS_lone (d + 38) (o := 59) (Or.inr rfl) _ c2' hnb W2.1.2.2.1.1]
        have ih' := ih (j + 1) (by omega) T2 c2' (c3.2.trans l1') (c3.1.trans o1')
        have h6 := loN6 (trS nc np nb n C MO (M.1 0) (j + 1))
        rw [togN_s] at ih'
        have c1' : call PGM (d + 39) yS_tenth [.ref 59, .int (nI (j + 1)), .null] (heapOf g X N T1 K M dd) = some (some (.int (nI (goV np nb n C MO (trS nc np nb n C MO (M.1 0) j)))), heapOf g X N T2 K M dd) := c1
        rw [eB_together_24, c1', aft1, eB_together_38, lo, aft1, eB_together_46]
        simp (disch := omega) only [l0, l1, l2, l3, l4, l5, l6, l7, l8, l9, l10, l11, l12, l13, l14, l15, l16, l17, l18, l19, l20, l21, l22, l23, l24, l25, l26, l27, l28, l29, l30, l31, l40, l48, l52, l57, l60, l65, l97, l99, l100, l102, l119, l122, l179, l197, l200, l201, l237, l436, l437, pk_mul, nI_add, inb_nI, nclamp, dlt, dle, deq, bif_t, bif_f, bif_nt, bif_nf, aft0, aft1, decide_true, decide_false, Bool.not_true, Bool.not_false, cond_true, cond_false, Nat.add_sub_cancel, Nat.add_one_sub_one, ou9, mo1, nI_MO, OU_lt, OU_ge, Nat.not_lt_zero, Bool.or_false, Bool.or_true, Bool.true_or, Bool.false_or, Bool.and_true, Bool.and_false, Bool.true_and, Bool.false_and, bI_0n, bI_1n, Bool.not_not]
        by_cases hz : loN (trS nc np nb n C MO (M.1 0) (j + 1)) nb = 0
        · simp (disch := omega) only [l0, l1, l2, l3, l4, l5, l6, l7, l8, l9, l10, l11, l12, l13, l14, l15, l16, l17, l18, l19, l20, l21, l22, l23, l24, l25, l26, l27, l28, l29, l30, l31, l40, l48, l52, l57, l60, l65, l97, l99, l100, l102, l119, l122, l179, l197, l200, l201, l237, l436, l437, pk_mul, nI_add, inb_nI, nclamp, dlt, dle, deq, bif_t, bif_f, bif_nt, bif_nf, aft0, aft1, decide_true, decide_false, Bool.not_true, Bool.not_false, cond_true, cond_false, Nat.add_sub_cancel, Nat.add_one_sub_one, ou9, mo1, nI_MO, OU_lt, OU_ge, Nat.not_lt_zero, Bool.or_false, Bool.or_true, Bool.true_or, Bool.false_or, Bool.and_true, Bool.and_false, Bool.true_and, Bool.false_and, bI_0n, bI_1n, Bool.not_not, hz] at ih'
          simp (disch := omega) only [l0, l1, l2, l3, l4, l5, l6, l7, l8, l9, l10, l11, l12, l13, l14, l15, l16, l17, l18, l19, l20, l21, l22, l23, l24, l25, l26, l27, l28, l29, l30, l31, l40, l48, l52, l57, l60, l65, l97, l99, l100, l102, l119, l122, l179, l197, l200, l201, l237, l436, l437, pk_mul, nI_add, inb_nI, nclamp, dlt, dle, deq, bif_t, bif_f, bif_nt, bif_nf, aft0, aft1, decide_true, decide_false, Bool.not_true, Bool.not_false, cond_true, cond_false, Nat.add_sub_cancel, Nat.add_one_sub_one, ou9, mo1, nI_MO, OU_lt, OU_ge, Nat.not_lt_zero, Bool.or_false, Bool.or_true, Bool.true_or, Bool.false_or, Bool.and_true, Bool.and_false, Bool.true_and, Bool.false_and, bI_0n, bI_1n, Bool.not_not, hz]
          exact ih'
        · simp (disch := omega) only [l0, l1, l2, l3, l4, l5, l6, l7, l8, l9, l10, l11, l12, l13, l14, l15, l16, l17, l18, l19, l20, l21, l22, l23, l24, l25, l26, l27, l28, l29, l30, l31, l40, l48, l52, l57, l60, l65, l97, l99, l100, l102, l119, l122, l179, l197, l200, l201, l237, l436, l437, pk_mul, nI_add, inb_nI, nclamp, dlt, dle, deq, bif_t, bif_f, bif_nt, bif_nf, aft0, aft1, decide_true, decide_false, Bool.not_true, Bool.not_false, cond_true, cond_false, Nat.add_sub_cancel, Nat.add_one_sub_one, ou9, mo1, nI_MO, OU_lt, OU_ge, Nat.not_lt_zero, Bool.or_false, Bool.or_true, Bool.true_or, Bool.false_or, Bool.and_true, Bool.and_false, Bool.true_and, Bool.false_and, bI_0n, bI_1n, Bool.not_not, hz, Nat.add_zero] at ih'
          simp (disch := omega) only [l0, l1, l2, l3, l4, l5, l6, l7, l8, l9, l10, l11, l12, l13, l14, l15, l16, l17, l18, l19, l20, l21, l22, l23, l24, l25, l26, l27, l28, l29, l30, l31, l40, l48, l52, l57, l60, l65, l97, l99, l100, l102, l119, l122, l179, l197, l200, l201, l237, l436, l437, pk_mul, nI_add, inb_nI, nclamp, dlt, dle, deq, bif_t, bif_f, bif_nt, bif_nf, aft0, aft1, decide_true, decide_false, Bool.not_true, Bool.not_false, cond_true, cond_false, Nat.add_sub_cancel, Nat.add_one_sub_one, ou9, mo1, nI_MO, OU_lt, OU_ge, Nat.not_lt_zero, Bool.or_false, Bool.or_true, Bool.true_or, Bool.false_or, Bool.and_true, Bool.and_false, Bool.true_and, Bool.false_and, bI_0n, bI_1n, Bool.not_not, hz]
          exact ih'
    obtain ⟨T', b1⟩ := lpB t 0 (by omega) (copS N T) (copS_RS T R hnp hnb) (copS_L N T) (copS_w N T)
    obtain ⟨m0, hm0, e10⟩ := hM'.2.2
    -- the model's
    have Mx : ∃ Mx : MS, Mx = mV (mA M 2 (cpy 437 (M.1 0) (M.1 2))) 9 0 := ⟨_, rfl⟩
    obtain ⟨Mx, eMx⟩ := Mx
    have x0 : Mx.1 0 = M.1 0 := by rw [eMx]; rfl
    have x8 : Mx.2 8 = MO := by rw [eMx]; exact hm8
    have x14 : Mx.2 14 = nI r := by rw [eMx]; exact r2
    have x9 : Mx.2 9 = nI 0 := by rw [eMx]; rfl
    have x10 : Mx.2 10 = nI m0 := by rw [eMx]; exact e10
    have lpM : ∀ m j, j + m = t → ∀ (M1 : MS) (q : Nat → Int32) (k : Nat) (u4 : Option Value), k ≤ 1200 * (i + 1) + 20 * j → M1.2 10 = nI k → (∀ k, k ≠ 7 → M1.1 k = Mx.1 k) → (∀ k, k ≠ 10 → k ≠ 13 → M1.2 k = Mx.2 k) →
        ∃ M2 q2 k2, k2 ≤ 1200 * (i + 1) + 20 * t ∧ M2.2 10 = nI k2 ∧ (∀ k, k ≠ 7 → M2.1 k = Mx.1 k) ∧ (∀ k, k ≠ 10 → k ≠ 13 → M2.2 k = Mx.2 k) ∧ sem PGM (d + 39) yM_together (22, [some (.ref 91), some (.int (nI t)), some (.int (nI (togN nc np nb n C MO (M.1 0) j))), some (.int (nI j)), u4], [], hM (g, X, N, T', K, dd) (mQ M1 q (trS nc np nb n C MO (M.1 0) j))) = some (some (.int (nI (togN nc np nb n C MO (M.1 0) t))), hM (g, X, N, T', K, dd) (mA (mQ M2 q2 (trS nc np nb n C MO (M.1 0) t)) 0 (cpy 437 (Mx.1 2) (trS nc np nb n C MO (M.1 0) t)))) := by
      intro m
      induction m with
      | zero =>
        intro j hj M1 q k u4 hk h10 hA hV
        have ej : j = t := by omega
        subst ej
        refine ⟨M1, q, k, hk, h10, hA, hV, ?_⟩
        rw [eM_together_22, cM_putsBack (d + 38), aft0, eM_together_58, mQ_0, mQ_n (by omega) (by omega), hA 2 (by omega)]
        simp (disch := omega) only [l0, l1, l2, l3, l4, l5, l6, l7, l8, l9, l10, l11, l12, l13, l14, l15, l16, l17, l18, l19, l20, l21, l22, l23, l24, l25, l26, l27, l28, l29, l30, l31, l40, l48, l52, l57, l60, l65, l97, l99, l100, l102, l119, l122, l179, l197, l200, l201, l237, l436, l437, pk_mul, nI_add, inb_nI, nclamp, dlt, dle, deq, bif_t, bif_f, bif_nt, bif_nf, aft0, aft1, decide_true, decide_false, Bool.not_true, Bool.not_false, cond_true, cond_false, Nat.add_sub_cancel, Nat.add_one_sub_one, ou9, mo1, nI_MO, OU_lt, OU_ge, Nat.not_lt_zero, Bool.or_false, Bool.or_true, Bool.true_or, Bool.false_or, Bool.and_true, Bool.and_false, Bool.true_and, Bool.false_and, bI_0n, bI_1n, Bool.not_not]
      | succ m ih =>
        intro j hj M1 q k u4 hk h10 hA hV
        have W1 := WF_trS (n := n) (C := C) (wo := MO) W j
        have W2 := WF_trS (n := n) (C := C) (wo := MO) W (j + 1)
        obtain ⟨q1, hq1⟩ := cM_goes (d + 31) (g, X, N, T', K, dd) (mQ M1 q (trS nc np nb n C MO (M.1 0) j)) nc np nb (60 * i + j) n k 0 r (fun _ => 180 * i + 3 * j) C (by rw [mQ_0]; exact W1) (by rw [mQ_0]; exact lawM_congr L (trS_fr hnp hnb (by omega) j) (fun i hi => trS_fr hnp hnb (by omega) j)) (by omega) (by rw [mQ_2]; exact h10) (by omega) (by rw [mQ_2, hV 9 (by omega) (by omega)]; exact x9) r24 (by rw [mQ_2, hV 14 (by omega) (by omega)]; exact x14)
        have e8 : (mQ M1 q (trS nc np nb n C MO (M.1 0) j)).2 8 = MO := by rw [mQ_2, hV 8 (by omega) (by omega)]; exact x8
        rw [e8, mQ_0, recE_mQ, mQ_m60] at hq1
        have len : (goE np nb n C MO (trS nc np nb n C MO (M.1 0) j)).length ≤ np := hrmE_len nb _ np
        have h6 := loN6 (trS nc np nb n C MO (M.1 0) (j + 1))
        obtain ⟨M2, q2, k2, a1, a2, a3, a4, a5⟩ := ih (j + 1) (by omega) (recE M1 (goE np nb n C MO (trS nc np nb n C MO (M.1 0) j))) q1 (k + (goE np nb n C MO (trS nc np nb n C MO (M.1 0) j)).length) (some (.int (nI (goV np nb n C MO (trS nc np nb n C MO (M.1 0) j))))) (by omega) (recE_10 _ _ _ h10) (fun k hk => by rw [recE_1 hk, hA k hk]) (fun k hk hk' => by rw [recE_2 hk hk', hV k hk hk'])
        refine ⟨M2, q2, k2, a1, a2, a3, a4, ?_⟩
        rw [togN_s] at a5
        have lo : call PGM (d + 39) yM_lone [.ref 91] (hM (g, X, N, T', K, dd) (mQ (recE M1 (goE np nb n C MO (trS nc np nb n C MO (M.1 0) j))) q1 (goF nc np nb n C MO (trS nc np nb n C MO (M.1 0) j)))) = some (some (.int (nI (loN (trS nc np nb n C MO (M.1 0) (j + 1)) nb))), hM (g, X, N, T', K, dd) (mQ (recE M1 (goE np nb n C MO (trS nc np nb n C MO (M.1 0) j))) q1 (goF nc np nb n C MO (trS nc np nb n C MO (M.1 0) j)))) := by
          rw [cM_lone (d + 37) _ _ nb (by rw [mQ_0]; exact W2.1.2.2.1.1) hnb, mQ_0]
          rfl
        rw [eM_together_22, hq1, aft1, eM_together_31, lo, aft1, eM_together_38]
        simp (disch := omega) only [l0, l1, l2, l3, l4, l5, l6, l7, l8, l9, l10, l11, l12, l13, l14, l15, l16, l17, l18, l19, l20, l21, l22, l23, l24, l25, l26, l27, l28, l29, l30, l31, l40, l48, l52, l57, l60, l65, l97, l99, l100, l102, l119, l122, l179, l197, l200, l201, l237, l436, l437, pk_mul, nI_add, inb_nI, nclamp, dlt, dle, deq, bif_t, bif_f, bif_nt, bif_nf, aft0, aft1, decide_true, decide_false, Bool.not_true, Bool.not_false, cond_true, cond_false, Nat.add_sub_cancel, Nat.add_one_sub_one, ou9, mo1, nI_MO, OU_lt, OU_ge, Nat.not_lt_zero, Bool.or_false, Bool.or_true, Bool.true_or, Bool.false_or, Bool.and_true, Bool.and_false, Bool.true_and, Bool.false_and, bI_0n, bI_1n, Bool.not_not]
        by_cases hz : loN (trS nc np nb n C MO (M.1 0) (j + 1)) nb = 0
        · simp (disch := omega) only [l0, l1, l2, l3, l4, l5, l6, l7, l8, l9, l10, l11, l12, l13, l14, l15, l16, l17, l18, l19, l20, l21, l22, l23, l24, l25, l26, l27, l28, l29, l30, l31, l40, l48, l52, l57, l60, l65, l97, l99, l100, l102, l119, l122, l179, l197, l200, l201, l237, l436, l437, pk_mul, nI_add, inb_nI, nclamp, dlt, dle, deq, bif_t, bif_f, bif_nt, bif_nf, aft0, aft1, decide_true, decide_false, Bool.not_true, Bool.not_false, cond_true, cond_false, Nat.add_sub_cancel, Nat.add_one_sub_one, ou9, mo1, nI_MO, OU_lt, OU_ge, Nat.not_lt_zero, Bool.or_false, Bool.or_true, Bool.true_or, Bool.false_or, Bool.and_true, Bool.and_false, Bool.true_and, Bool.false_and, bI_0n, bI_1n, Bool.not_not, hz] at a5
          simp (disch := omega) only [l0, l1, l2, l3, l4, l5, l6, l7, l8, l9, l10, l11, l12, l13, l14, l15, l16, l17, l18, l19, l20, l21, l22, l23, l24, l25, l26, l27, l28, l29, l30, l31, l40, l48, l52, l57, l60, l65, l97, l99, l100, l102, l119, l122, l179, l197, l200, l201, l237, l436, l437, pk_mul, nI_add, inb_nI, nclamp, dlt, dle, deq, bif_t, bif_f, bif_nt, bif_nf, aft0, aft1, decide_true, decide_false, Bool.not_true, Bool.not_false, cond_true, cond_false, Nat.add_sub_cancel, Nat.add_one_sub_one, ou9, mo1, nI_MO, OU_lt, OU_ge, Nat.not_lt_zero, Bool.or_false, Bool.or_true, Bool.true_or, Bool.false_or, Bool.and_true, Bool.and_false, Bool.true_and, Bool.false_and, bI_0n, bI_1n, Bool.not_not, hz]
          exact a5
        · simp (disch := omega) only [l0, l1, l2, l3, l4, l5, l6, l7, l8, l9, l10, l11, l12, l13, l14, l15, l16, l17, l18, l19, l20, l21, l22, l23, l24, l25, l26, l27, l28, l29, l30, l31, l40, l48, l52, l57, l60, l65, l97, l99, l100, l102, l119, l122, l179, l197, l200, l201, l237, l436, l437, pk_mul, nI_add, inb_nI, nclamp, dlt, dle, deq, bif_t, bif_f, bif_nt, bif_nf, aft0, aft1, decide_true, decide_false, Bool.not_true, Bool.not_false, cond_true, cond_false, Nat.add_sub_cancel, Nat.add_one_sub_one, ou9, mo1, nI_MO, OU_lt, OU_ge, Nat.not_lt_zero, Bool.or_false, Bool.or_true, Bool.true_or, Bool.false_or, Bool.and_true, Bool.and_false, Bool.true_and, Bool.false_and, bI_0n, bI_1n, Bool.not_not, hz, Nat.add_zero] at a5
          simp (disch := omega) only [l0, l1, l2, l3, l4, l5, l6, l7, l8, l9, l10, l11, l12, l13, l14, l15, l16, l17, l18, l19, l20, l21, l22, l23, l24, l25, l26, l27, l28, l29, l30, l31, l40, l48, l52, l57, l60, l65, l97, l99, l100, l102, l119, l122, l179, l197, l200, l201, l237, l436, l437, pk_mul, nI_add, inb_nI, nclamp, dlt, dle, deq, bif_t, bif_f, bif_nt, bif_nf, aft0, aft1, decide_true, decide_false, Bool.not_true, Bool.not_false, cond_true, cond_false, Nat.add_sub_cancel, Nat.add_one_sub_one, ou9, mo1, nI_MO, OU_lt, OU_ge, Nat.not_lt_zero, Bool.or_false, Bool.or_true, Bool.true_or, Bool.false_or, Bool.and_true, Bool.and_false, Bool.true_and, Bool.false_and, bI_0n, bI_1n, Bool.not_not, hz, Nat.add_zero]
          exact a5
    obtain ⟨M2, q2, k2, a1, a2, a3, a4, a5⟩ := lpM t 0 (by omega) Mx (Mx.1 6) m0 none (by omega) x10 (fun _ _ => rfl) (fun _ _ _ => rfl)
    have eid : mQ Mx (Mx.1 6) (trS nc np nb n C MO (M.1 0) 0) = Mx := by
      have : trS nc np nb n C MO (M.1 0) 0 = Mx.1 0 := x0.symm
      rw [this, mQ_id]
    rw [eid] at a5
    refine ⟨nI (togN nc np nb n C MO (M.1 0) t), X, N, T', K, mA (mQ M2 q2 (trS nc np nb n C MO (M.1 0) t)) 0 (cpy 437 (Mx.1 2) (trS nc np nb n C MO (M.1 0) t)), dd, ?_, ?_, ?_⟩
    · rw [cB, hr, eB_together_4, cS_copy_59_43 (d + 37) g X N T K M dd (lawD_38 D), aft0, eB_together_20]
      exact b1
    · rw [hM_eq, cM, hr, eM_together_4, cM_puts (d + 38), aft0, eM_together_13, ← eMx, eM_together_18]
      exact a5
    · have bk : cpy 437 (Mx.1 2) (trS nc np nb n C MO (M.1 0) t) = M.1 0 := by
        have : Mx.1 2 = cpy 437 (M.1 0) (M.1 2) := by rw [eMx]; rfl
        rw [this]
        exact back_eq (fun k hk => trS_fr hnp hnb (by omega) t)
      have e1 : ∀ k, k ≠ 2 → k ≠ 6 → k ≠ 7 → (mA (mQ M2 q2 (trS nc np nb n C MO (M.1 0) t)) 0 (cpy 437 (Mx.1 2) (trS nc np nb n C MO (M.1 0) t))).1 k = M.1 k := by
        intro k h2 h6 h7
        by_cases hk : k = 0
        · subst hk
          rw [mA_s, bk]
        · rw [mA_n hk, mQ_n hk h6, a3 k h7, eMx, mV_1, mA_n h2]
      have e2 : ∀ k, k ≠ 9 → k ≠ 10 → k ≠ 11 → k ≠ 13 → (mA (mQ M2 q2 (trS nc np nb n C MO (M.1 0) t)) 0 (cpy 437 (Mx.1 2) (trS nc np nb n C MO (M.1 0) t))).2 k = M.2 k := by
        intro k h9 h10 h11 h13
        rw [mA_2, mQ_2, a4 k h10 h13, eMx, mV_n h9, mA_2]
      -- seenMany alone is other
      have hJ : mJ M (mV (mA (mQ M2 q2 (trS nc np nb n C MO (M.1 0) t)) 0 (cpy 437 (Mx.1 2) (trS nc np nb n C MO (M.1 0) t))) 10 (nI m0)) := ⟨fun k h2 h6 h7 => e1 k h2 h6 h7, fun k h9 h10 h11 h13 => by rw [mV_n h10]; exact e2 k h9 h10 h11 h13, Or.inl (by rw [mV_s, e10])⟩
      obtain ⟨a, b, c, e, f, gg, k, l, m⟩ := INV_mono (INV_mJ h hJ)
      refine ⟨a, b, c, e, f, gg, k, ⟨l.1, l.2.1, k2, by omega, ?_⟩, m⟩
      rw [mA_2, mQ_2, a2]
