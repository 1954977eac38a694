/-! Calls of both: judge; street, person, beast, moves. -/
theorem fmR_0 {R : Nat → Int32} {ev : Nat → EV3} {r : Nat} : ∀ m, (∀ j, j < m → j < r → mtB R j (ev j) = true) → fmR R ev r m = 0
  | 0, _ => rfl
  | m + 1, h => by
    have ih := fmR_0 (R := R) (ev := ev) (r := r) m (fun j h1 h2 => h j (by omega) h2)
    rw [fmR, if_pos ih]
    by_cases hm : m < r
    · rw [if_pos hm, if_pos (h m (by omega) hm)]
    · rw [if_neg hm]
theorem fmR_k {R : Nat → Int32} {ev : Nat → EV3} {r k : Nat} (hk : k < r) (hall : ∀ j, j < k → mtB R j (ev j) = true) (hno : mtB R k (ev k) = false) : ∀ m, k < m → fmR R ev r m = k + 1
  | 0, h => absurd h (Nat.not_lt_zero k)
  | m + 1, h => by
    rw [fmR]
    by_cases e : k = m
    · subst e
      rw [if_pos (fmR_0 k (fun j h1 _ => hall j h1)), if_pos hk, hno]
      rfl
    · rw [fmR_k hk hall hno m (by omega), if_neg (by omega)]
theorem cW_sameAt (d : Nat) (Z : WT) (X : XS) {k r m : Nat} (hk : k < r) (hr : r ≤ 24) (hm : m ≤ 24) (h6 : X.2.1 6 = nI r) (h7 : X.2.1 7 = nI m) : call PGM (d + 1) yW_sameAt [.ref 22, .int (nI k), .ref 27] (hR Z X) = some (some (.int (bI (decide (k < m) && (decide (X.1 8 k = X.1 11 k) && (decide (X.1 9 k = X.1 12 k) && decide (X.1 10 k = X.1 13 k)))))), hR Z X) := by
  rw [kW_sameAt_22, eW_sameAt_22_0, h6, h7]
  have s3 : sem PGM d yW_sameAt (20, [some (.ref 22), some (.int (nI k)), some (.ref 27), some (.int (nI 3))], [], hR Z X) = some (some (.int 1), hR Z X) := by
    rw [eW_sameAt_22_20]
    simp (disch := omega) only [l0, l1, l2, l3, l4, l5, l6, l7, l8, l9, l10, l11, l12, l13, l14, l15, l16, l17, l18, l19, l20, l21, l22, l23, l24, l25, l26, l27, l28, l29, l30, l31, l40, l48, l52, l57, l60, l65, l97, l99, l100, l102, l119, l122, l179, l197, l200, l201, l237, l436, l437, pk_mul, nI_add, inb_nI, nclamp, dlt, dle, deq, bif_t, bif_f, bif_nt, bif_nf, aft0, aft1, decide_true, decide_false, Bool.not_true, Bool.not_false, cond_true, cond_false, Nat.add_sub_cancel, Nat.add_one_sub_one, ou9, mo1, nI_MO, OU_lt, OU_ge, Nat.not_lt_zero, Bool.or_false, Bool.or_true, Bool.true_or, Bool.false_or, Bool.and_true, Bool.and_false, Bool.true_and, Bool.false_and, bI_0n, bI_1n, Bool.not_not]
  have s2 : sem PGM d yW_sameAt (20, [some (.ref 22), some (.int (nI k)), some (.ref 27), some (.int (nI 2))], [], hR Z X) = bif decide (X.1 10 k = X.1 13 k) then some (some (.int 1), hR Z X) else some (some (.int 0), hR Z X) := by
    rw [eW_sameAt_22_20, nI_1, s3]
    simp (disch := omega) only [l0, l1, l2, l3, l4, l5, l6, l7, l8, l9, l10, l11, l12, l13, l14, l15, l16, l17, l18, l19, l20, l21, l22, l23, l24, l25, l26, l27, l28, l29, l30, l31, l40, l48, l52, l57, l60, l65, l97, l99, l100, l102, l119, l122, l179, l197, l200, l201, l237, l436, l437, pk_mul, nI_add, inb_nI, nclamp, dlt, dle, deq, bif_t, bif_f, bif_nt, bif_nf, aft0, aft1, decide_true, decide_false, Bool.not_true, Bool.not_false, cond_true, cond_false, Nat.add_sub_cancel, Nat.add_one_sub_one, ou9, mo1, nI_MO, OU_lt, OU_ge, Nat.not_lt_zero, Bool.or_false, Bool.or_true, Bool.true_or, Bool.false_or, Bool.and_true, Bool.and_false, Bool.true_and, Bool.false_and, bI_0n, bI_1n, Bool.not_not]
  have s1 : sem PGM d yW_sameAt (20, [some (.ref 22), some (.int (nI k)), some (.ref 27), some (.int (nI 1))], [], hR Z X) = bif decide (X.1 9 k = X.1 12 k) then sem PGM d yW_sameAt (20, [some (.ref 22), some (.int (nI k)), some (.ref 27), some (.int (nI 2))], [], hR Z X) else some (some (.int 0), hR Z X) := by
    rw [eW_sameAt_22_20]
    simp (disch := omega) only [l0, l1, l2, l3, l4, l5, l6, l7, l8, l9, l10, l11, l12, l13, l14, l15, l16, l17, l18, l19, l20, l21, l22, l23, l24, l25, l26, l27, l28, l29, l30, l31, l40, l48, l52, l57, l60, l65, l97, l99, l100, l102, l119, l122, l179, l197, l200, l201, l237, l436, l437, pk_mul, nI_add, inb_nI, nclamp, dlt, dle, deq, bif_t, bif_f, bif_nt, bif_nf, aft0, aft1, decide_true, decide_false, Bool.not_true, Bool.not_false, cond_true, cond_false, Nat.add_sub_cancel, Nat.add_one_sub_one, ou9, mo1, nI_MO, OU_lt, OU_ge, Nat.not_lt_zero, Bool.or_false, Bool.or_true, Bool.true_or, Bool.false_or, Bool.and_true, Bool.and_false, Bool.true_and, Bool.false_and, bI_0n, bI_1n, Bool.not_not]
  have s0 : sem PGM d yW_sameAt (20, [some (.ref 22), some (.int (nI k)), some (.ref 27), some (.int 0)], [], hR Z X) = bif decide (X.1 8 k = X.1 11 k) then sem PGM d yW_sameAt (20, [some (.ref 22), some (.int (nI k)), some (.ref 27), some (.int (nI 1))], [], hR Z X) else some (some (.int 0), hR Z X) := by
    rw [eW_sameAt_22_20]
    simp (disch := omega) only [l0, l1, l2, l3, l4, l5, l6, l7, l8, l9, l10, l11, l12, l13, l14, l15, l16, l17, l18, l19, l20, l21, l22, l23, l24, l25, l26, l27, l28, l29, l30, l31, l40, l48, l52, l57, l60, l65, l97, l99, l100, l102, l119, l122, l179, l197, l200, l201, l237, l436, l437, pk_mul, nI_add, inb_nI, nclamp, dlt, dle, deq, bif_t, bif_f, bif_nt, bif_nf, aft0, aft1, decide_true, decide_false, Bool.not_true, Bool.not_false, cond_true, cond_false, Nat.add_sub_cancel, Nat.add_one_sub_one, ou9, mo1, nI_MO, OU_lt, OU_ge, Nat.not_lt_zero, Bool.or_false, Bool.or_true, Bool.true_or, Bool.false_or, Bool.and_true, Bool.and_false, Bool.true_and, Bool.false_and, bI_0n, bI_1n, Bool.not_not]
  rw [s0, s1, s2, dle (by omega) (by omega), bif_f (show ¬ r ≤ k by omega), dlt (by omega) (by omega)]
  cases decide (k < m) <;> cases decide (X.1 8 k = X.1 11 k) <;> cases decide (X.1 9 k = X.1 12 k) <;> cases decide (X.1 10 k = X.1 13 k) <;> rfl
theorem op_judge (d i : Nat) (g : GT) (X : XS) (N T K : SS) (M : MS) (dd : AH) (h : INV i X N K M dd) : OPR d i g X N T K M dd yB_judge yM_judge [] := by
  have h' := h
  obtain ⟨⟨⟨nc, np, nb, n, C, R, W, L, D⟩, wo5⟩, hK, hT, ⟨r, r24, r1, r2, hrr⟩, hH, hE, hB, hM', hD⟩ := h'
  have hnp := W.1.2.1.2
  have hnb : nb ≤ 6 := W.1.2.2.1.2
  have hm8 : M.2 8 = MO := hM'.1
  have hm12 : M.2 12 = nI 0 := hM'.2.1
  obtain ⟨t, et⟩ : ∃ t : Nat, t = 60 := ⟨60, rfl⟩
  have ht : t ≤ 60 := by omega
  have e60 : (60 : Int32) = nI t := by rw [et]; rfl
  obtain ⟨T', c1, c2, c3⟩ := cS_goOnl (d + 32) (r := 27) (Or.inr rfl) (g, xV X 7 0, N, K, M, dd) (wo := MO) (t := t) (copS_RS T R hnp hnb) W (by rw [copS_L]; exact D) L (by rw [copS_w]; exact wo_OU) ht (n0 := 0) (by omega) (xV_s X 7 0)
  rw [lgT_fold lgA_27] at c1
  generalize hX' : (trE nc np nb n C MO (M.1 0) t).foldl (lgG 11 7) (xV X 7 0) = X' at c1
  have c1' : call PGM (d + 39) yS_goOn [.ref 59, .int (nI t), .ref 27] (heapOf g (xV X 7 0) N (copS N T) K M dd) = some (some (.int (nI (trV nc np nb n C MO (M.1 0) t))), heapOf g X' N T' K M dd) := by
    rw [hT_eq]
    refine c1.trans ?_
    rw [← hX']
    rfl
  obtain ⟨f1, f2, f3, f4, f5, f6⟩ := lg_fold 11 7 (trE nc np nb n C MO (M.1 0) t) (xV X 7 0) 0 (by omega) (xV_s X 7 0)
  rw [hX'] at f1 f2 f3 f4 f5 f6
  have el := trE_len nc np nb n C MO (M.1 0) t
  have hb := trN_b (nc := nc) (nb := nb) (n := n) (C := C) (wo := MO) (s := M.1 0) (t := t) hnp ht
  rw [Nat.zero_add, el] at f1
  generalize hev : (fun i : Nat => ((trE nc np nb n C MO (M.1 0) t)[i]?).getD ((0, 0, 0) : EV3)) = ev
  have evi : ∀ i e, (trE nc np nb n C MO (M.1 0) t)[i]? = some e → ev i = e := by
    intro i e he
    rw [← hev]
    show ((trE nc np nb n C MO (M.1 0) t)[i]?).getD ((0, 0, 0) : EV3) = e
    rw [he]
    rfl
  generalize hNN : trN nc np nb n C MO (M.1 0) t = NN at f1 el hb
  have x6 : X'.2.1 6 = nI r := by rw [f3 6 (by omega), xV_n (by omega)]; exact r1
  -- the class's
  have res : ∀ m k, k + m = r → (∀ j, j < k → j < NN ∧ mtB (M.1 8) j (ev j) = true) → sem PGM (d + 39) yB_judge (35, [some (.ref 12), some (.int (nI k))], [], heapOf g X' N T' K M dd) = some (some (.int (nI (if fmR (M.1 8) ev r NN = 0 then (if NN < r then NN + 1 else 0) else fmR (M.1 8) ev r NN))), heapOf g X' N T' K M dd) := by
    intro m
    induction m with
    | zero =>
      intro k hk hall
      have ek : k = r := by omega
      subst ek
      have e1 : fmR (M.1 8) ev k NN = 0 := fmR_0 NN (fun j h1 h2 => (hall j h2).2)
      have e2 : ¬ NN < k := by
        intro hlt
        have := (hall NN hlt).1
        omega
      rw [eB_judge_35, x6, e1, if_pos rfl, if_neg e2]
      simp (disch := omega) only [l0, l1, l2, l3, l4, l5, l6, l7, l8, l9, l10, l11, l12, l13, l14, l15, l16, l17, l18, l19, l20, l21, l22, l23, l24, l25, l26, l27, l28, l29, l30, l31, l40, l48, l52, l57, l60, l65, l97, l99, l100, l102, l119, l122, l179, l197, l200, l201, l237, l436, l437, pk_mul, nI_add, inb_nI, nclamp, dlt, dle, deq, bif_t, bif_f, bif_nt, bif_nf, aft0, aft1, decide_true, decide_false, Bool.not_true, Bool.not_false, cond_true, cond_false, Nat.add_sub_cancel, Nat.add_one_sub_one, ou9, mo1, nI_MO, OU_lt, OU_ge, Nat.not_lt_zero, Bool.or_false, Bool.or_true, Bool.true_or, Bool.false_or, Bool.and_true, Bool.and_false, Bool.true_and, Bool.false_and, bI_0n, bI_1n, Bool.not_not]
    | succ m ih =>
      intro k hk hall
      have hkr : k < r := by omega
      have sa : call PGM (d + 39) yW_sameAt [.ref 22, .int (nI k), .ref 27] (heapOf g X' N T' K M dd) = some (some (.int (bI (decide (k < NN) && mtB (M.1 8) k (ev k)))), heapOf g X' N T' K M dd) := by
        rw [hR_eq, cW_sameAt (d + 38) _ X' hkr r24 (show min 24 NN ≤ 24 by omega) x6 f1]
        have em : decide (k < min 24 NN) = decide (k < NN) := by rw [decide_eq_decide]; omega
        rw [em]
        by_cases hkn : k < NN
        · obtain ⟨e, he⟩ := lst_get (E := trE nc np nb n C MO (M.1 0) t) (i := k) (by omega)
          obtain ⟨g1, g2, g3⟩ := f6 k e he (by omega)
          rw [Nat.zero_add] at g1 g2 g3
          obtain ⟨q0, q1, q2⟩ := hrr k hkr
          have y8 : X'.1 8 k = M.1 8 (3 * k) := by rw [f2 8 (by omega), xV_1]; exact q0
          have y9 : X'.1 9 k = M.1 8 (3 * k + 1) := by rw [f2 9 (by omega), xV_1]; exact q1
          have y10 : X'.1 10 k = M.1 8 (3 * k + 2) := by rw [f2 10 (by omega), xV_1]; exact q2
          have g2' : X'.1 12 k = e.2.1 := g2
          have g3' : X'.1 13 k = e.2.2 := g3
          rw [g1, g2', g3', y8, y9, y10, evi k e he]
          rfl
        · simp [hkn]
      rw [eB_judge_35, x6, sa, aft1, eB_judge_58, bI_ne0, dle (by omega) (by omega), bif_f (show ¬ r ≤ k by omega), nI_1]
      by_cases hkn : k < NN
      · cases hm : mtB (M.1 8) k (ev k) with
        | true =>
          have t1 : decide (k < NN) = true := by simp [hkn]
          rw [t1]
          refine ih (k + 1) (by omega) (fun j hj => ?_)
          by_cases e : j = k
          · subst e; exact ⟨hkn, hm⟩
          · exact hall j (by omega)
        | false =>
          have e1 := fmR_k (R := M.1 8) (ev := ev) hkr (fun j hj => (hall j hj).2) hm NN hkn
          rw [Bool.and_false, cond_false, e1, if_neg (by omega)]
      · have t1 : decide (k < NN) = false := by simp [hkn]
        have ek : NN = k := by
          have : ¬ NN < k := fun hlt => by have := (hall NN hlt).1; omega
          omega
        have e1 : fmR (M.1 8) ev r NN = 0 := fmR_0 NN (fun j h1 _ => (hall j (by omega)).2)
        rw [t1, Bool.false_and, cond_false, e1, if_pos rfl, if_pos (by omega), ek]
  have b1 := res r 0 (by omega) (fun j hj => absurd hj (Nat.not_lt_zero j))
  -- the model's
  generalize hMs : mV (mV (mV (mA M 2 (cpy 437 (M.1 0) (M.1 2))) 9 0) 12 1) 13 0 = Ms
  have s0 : Ms.1 0 = M.1 0 := by rw [← hMs]; rfl
  have sA' : ∀ k, k ≠ 2 → Ms.1 k = M.1 k := fun k hk => by rw [← hMs, mV_1, mV_1, mV_1, mA_n hk]
  have s2 : Ms.1 2 = cpy 437 (M.1 0) (M.1 2) := by rw [← hMs, mV_1, mV_1, mV_1, mA_s]
  have sV' : ∀ k, k ≠ 9 → k ≠ 12 → k ≠ 13 → Ms.2 k = M.2 k := fun k h9 h12 h13 => by rw [← hMs, mV_n h13, mV_n h12, mV_n h9, mA_2]
  obtain ⟨q, m1⟩ := cM_trial (d + 30) (g, X', N, T', K, dd) Ms nc np nb (60 * i) n t 0 r (fun _ => 180 * i) C (by rw [s0]; exact W) (by rw [s0]; exact L) ht (by omega) (by rw [← hMs]; rfl) r24 (by rw [sV' 14 (by omega) (by omega) (by omega)]; exact r2)
  have e8 : Ms.2 8 = MO := by rw [sV' 8 (by omega) (by omega) (by omega)]; exact hm8
  rw [e8, s0] at m1
  have jd := tr_jdg (nc := nc) (nb := nb) (n := n) (C := C) (wo := MO) (s := M.1 0) (M := Ms) (R := M.1 8) ev hnp r24 (sA' 8 (by omega)) (by rw [← hMs]; rfl) (by rw [sV' 14 (by omega) (by omega) (by omega)]; exact r2) (by rw [← hMs]; rfl) t ht evi
  rw [hNN] at jd
  generalize hMt : trM nc np nb n C MO (M.1 0) Ms t = Mt at m1 jd
  have t10 : Mt.2 10 = nI NN := by rw [← hMt, trM_10, hNN]
  have tA : ∀ k, k ≠ 7 → Mt.1 k = Ms.1 k := fun k hk => by rw [← hMt, trM_1 hk]
  have tV : ∀ k, k ≠ 10 → k ≠ 11 → k ≠ 13 → Mt.2 k = Ms.2 k := fun k h1 h2 h3 => by rw [← hMt, trM_2 h1 h2 h3]
  have bk : mA (mV (mQ Mt q (trS nc np nb n C MO (M.1 0) t)) 12 0) 0 (cpy 437 ((mV (mQ Mt q (trS nc np nb n C MO (M.1 0) t)) 12 0).1 2) ((mV (mQ Mt q (trS nc np nb n C MO (M.1 0) t)) 12 0).1 0)) = mV (mQ Mt q (M.1 0)) 12 0 := by
    rw [mV_1, mQ_0, mQ_n (by omega) (by omega), tA 2 (by omega), s2, mQ_mV, mQ_a0, mQ_mV]
    congr 1
    exact back_eq (fun k hk => trS_fr hnp hnb (by omega) t)
  refine ⟨nI (if fmR (M.1 8) ev r NN = 0 then (if NN < r then NN + 1 else 0) else fmR (M.1 8) ev r NN), X', N, T', K, mV (mQ Mt q (M.1 0)) 12 0, dd, ?_, ?_, ?_⟩
  · rw [kB_judge, eB_judge_0, cS_copy_59_43 (d + 37) g X N T K M dd (lawD_38 D), aft0, eB_judge_11, eB_judge_19, e60, c1', aft1, eB_judge_32]
    exact b1
  · have m1' : call PGM (d + 39) yM_trial [.ref 91, .int (nI t)] (hM (g, X', N, T', K, dd) Ms) = some (some (.int (nI (trV nc np nb n C MO (M.1 0) t))), hM (g, X', N, T', K, dd) (mQ Mt q (trS nc np nb n C MO (M.1 0) t))) := m1
    rw [hM_eq, kM_judge, eM_judge_0, cM_puts (d + 38), aft0, eM_judge_4, eM_judge_9, eM_judge_14, hMs, e60, m1', aft1, eM_judge_25, cM_putsBack (d + 38), aft0, bk, eM_judge_35]
    have y13 : (mV (mQ Mt q (M.1 0)) 12 0).2 13 = nI (fmR (M.1 8) ev r NN) := by rw [mV_n (by omega), mQ_2]; exact jd
    have y10 : (mV (mQ Mt q (M.1 0)) 12 0).2 10 = nI NN := by rw [mV_n (by omega), mQ_2]; exact t10
    have y14 : (mV (mQ Mt q (M.1 0)) 12 0).2 14 = nI r := by rw [mV_n (by omega), mQ_2, tV 14 (by omega) (by omega) (by omega), sV' 14 (by omega) (by omega) (by omega)]; exact r2
    have hle := fmR_le (M.1 8) ev r NN
    rw [y13, y10, y14]
    by_cases hz : fmR (M.1 8) ev r NN = 0
    · rw [if_pos hz, hz]
      by_cases hn : NN < r
      · rw [if_pos hn]
        simp (disch := omega) only [l0, l1, l2, l3, l4, l5, l6, l7, l8, l9, l10, l11, l12, l13, l14, l15, l16, l17, l18, l19, l20, l21, l22, l23, l24, l25, l26, l27, l28, l29, l30, l31, l40, l48, l52, l57, l60, l65, l97, l99, l100, l102, l119, l122, l179, l197, l200, l201, l237, l436, l437, pk_mul, nI_add, inb_nI, nclamp, dlt, dle, deq, bif_t, bif_f, bif_nt, bif_nf, aft0, aft1, decide_true, decide_false, Bool.not_true, Bool.not_false, cond_true, cond_false, Nat.add_sub_cancel, Nat.add_one_sub_one, ou9, mo1, nI_MO, OU_lt, OU_ge, Nat.not_lt_zero, Bool.or_false, Bool.or_true, Bool.true_or, Bool.false_or, Bool.and_true, Bool.and_false, Bool.true_and, Bool.false_and, bI_0n, bI_1n, Bool.not_not]
        rfl
      · rw [if_neg hn]
        simp (disch := omega) only [l0, l1, l2, l3, l4, l5, l6, l7, l8, l9, l10, l11, l12, l13, l14, l15, l16, l17, l18, l19, l20, l21, l22, l23, l24, l25, l26, l27, l28, l29, l30, l31, l40, l48, l52, l57, l60, l65, l97, l99, l100, l102, l119, l122, l179, l197, l200, l201, l237, l436, l437, pk_mul, nI_add, inb_nI, nclamp, dlt, dle, deq, bif_t, bif_f, bif_nt, bif_nf, aft0, aft1, decide_true, decide_false, Bool.not_true, Bool.not_false, cond_true, cond_false, Nat.add_sub_cancel, Nat.add_one_sub_one, ou9, mo1, nI_MO, OU_lt, OU_ge, Nat.not_lt_zero, Bool.or_false, Bool.or_true, Bool.true_or, Bool.false_or, Bool.and_true, Bool.and_false, Bool.true_and, Bool.false_and, bI_0n, bI_1n, Bool.not_not]
        rfl
    · rw [if_neg hz]
      simp (disch := omega) only [l0, l1, l2, l3, l4, l5, l6, l7, l8, l9, l10, l11, l12, l13, l14, l15, l16, l17, l18, l19, l20, l21, l22, l23, l24, l25, l26, l27, l28, l29, l30, l31, l40, l48, l52, l57, l60, l65, l97, l99, l100, l102, l119, l122, l179, l197, l200, l201, l237, l436, l437, pk_mul, nI_add, inb_nI, nclamp, dlt, dle, deq, bif_t, bif_f, bif_nt, bif_nf, aft0, aft1, decide_true, decide_false, Bool.not_true, Bool.not_false, cond_true, cond_false, Nat.add_sub_cancel, Nat.add_one_sub_one, ou9, mo1, nI_MO, OU_lt, OU_ge, Nat.not_lt_zero, Bool.or_false, Bool.or_true, Bool.true_or, Bool.false_or, Bool.and_true, Bool.and_false, Bool.true_and, Bool.false_and, bI_0n, bI_1n, Bool.not_not]
      rfl
  · refine INV_mono (INV_R h (fun k hk => ?_) (fun k h6 h7 => ?_) ?_ (fun k h2 h6 h7 h8 => ?_) (fun k h9 h10 h11 h13 h14 => ?_) (Or.inr ⟨NN, hb, ?_⟩) ⟨r, r24, x6, ?_, fun j hj => ?_⟩)
    · rw [f2 k (by omega), xV_1]
    · rw [f3 k h7, xV_n h7]
    · rw [f4]
      rfl
    · rw [mV_1]
      by_cases hk : k = 0
      · subst hk; rw [mQ_0]
      · rw [mQ_n hk h6, tA k h7, sA' k h2]
    · by_cases hk : k = 12
      · subst hk
        rw [mV_s, hm12]
        rfl
      · rw [mV_n hk, mQ_2, tV k h10 h11 h13, sV' k h9 hk h13]
    · rw [mV_n (by omega), mQ_2]
      exact t10
    · rw [mV_n (by omega), mQ_2, tV 14 (by omega) (by omega) (by omega), sV' 14 (by omega) (by omega) (by omega)]
      exact r2
    · obtain ⟨q0, q1, q2⟩ := hrr j hj
      rw [mV_1, mQ_n (by omega) (by omega), tA 8 (by omega), sA' 8 (by omega), f2 8 (by omega), f2 9 (by omega), f2 10 (by omega), xV_1]
      exact ⟨q0, q1, q2⟩
