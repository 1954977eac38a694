/-! Calls of both: row, alterRow, prove, judge. -/
theorem has_rng (i : Int32) {n : Nat} (hn : n < 1000000) : hasB i (n + 1) = rng i 0 n := by
  unfold hasB rng
  have e1 : decide (nI 0 ≤ i) = !decide (i < 0) := le_not_lt (nI 0) i
  have e2 : decide (i ≤ nI n) = decide (i < nI (n + 1)) := by
    rw [decide_eq_decide, Int32.le_iff_toInt_le, Int32.lt_iff_toInt_lt, nI_toInt (by omega), nI_toInt (by omega)]
    omega
  rw [e1, e2]
theorem INV_R {i : Nat} {X X' : XS} {N K : SS} {M M' : MS} {dd : AH} (h : INV i X N K M dd) (x1 : ∀ k, (k < 8 ∨ 14 ≤ k) → X'.1 k = X.1 k) (x2 : ∀ k, k ≠ 6 → k ≠ 7 → X'.2.1 k = X.2.1 k) (x3 : X'.2.2 = X.2.2) (j1 : ∀ k, k ≠ 2 → k ≠ 6 → k ≠ 7 → k ≠ 8 → M'.1 k = M.1 k) (j2 : ∀ k, k ≠ 9 → k ≠ 10 → k ≠ 11 → k ≠ 13 → k ≠ 14 → M'.2 k = M.2 k) (j3 : M'.2 10 = M.2 10 ∨ ∃ m, m ≤ 1200 ∧ M'.2 10 = nI m) (hR : iR X' M') : INV i X' N K M' dd := by
  obtain ⟨⟨a, a'⟩, b, c, e, f, g, k, l, m⟩ := h
  have m0 := j1 0 (by omega) (by omega) (by omega) (by omega)
  have m1 := j1 1 (by omega) (by omega) (by omega) (by omega)
  have m3 := j1 3 (by omega) (by omega) (by omega) (by omega)
  have m9 := j1 9 (by omega) (by omega) (by omega) (by omega)
  have m10 := j1 10 (by omega) (by omega) (by omega) (by omega)
  have m11 := j1 11 (by omega) (by omega) (by omega) (by omega)
  have m12 := j1 12 (by omega) (by omega) (by omega) (by omega)
  have m13 := j1 13 (by omega) (by omega) (by omega) (by omega)
  have m14 := j1 14 (by omega) (by omega) (by omega) (by omega)
  have m15 := j1 15 (by omega) (by omega) (by omega) (by omega)
  have v0 := j2 0 (by omega) (by omega) (by omega) (by omega) (by omega)
  have v1 := j2 1 (by omega) (by omega) (by omega) (by omega) (by omega)
  have v8 := j2 8 (by omega) (by omega) (by omega) (by omega) (by omega)
  have v12 := j2 12 (by omega) (by omega) (by omega) (by omega) (by omega)
  have v18 := j2 18 (by omega) (by omega) (by omega) (by omega) (by omega)
  refine ⟨⟨by rw [m0]; exact a, a'⟩, ?_, ?_, hR, ?_, ?_, ?_, ?_, m⟩
  · unfold iK; rw [v0, m1, x2 0 (by omega) (by omega)]; exact b
  · unfold iT; rw [v1, m3, x2 1 (by omega) (by omega), x1 0 (by omega)]; exact c
  · unfold iH iH1; rw [m9, m10, m11, x3]; exact f
  · unfold iE iE1; rw [m12, m13, m14, x3, x1 14 (by omega), x1 15 (by omega)]; exact g
  · unfold iB; rw [v18, m15, x2 8 (by omega) (by omega), x1 16 (by omega)]; exact k
  · obtain ⟨l1, l2, n, hn, l3⟩ := l
    refine ⟨v8.trans l1, v12.trans l2, ?_⟩
    rcases j3 with j3 | ⟨q, hq, j3⟩
    · exact ⟨n, hn, j3.trans l3⟩
    · exact ⟨q, by omega, j3⟩
theorem cW_has (d : Nat) (g : GT) (X : XS) (N T K : SS) (M : MS) (dd : AH) (a b : Int32) {r : Nat} (h : X.2.1 6 = nI r) : call PGM (d + 1) yW_has [.ref 22, .int a, .int b] (heapOf g X N T K M dd) = some (some (.int (bI (hasB a r && rng b 0 2))), heapOf g X N T K M dd) := by
  rw [hR_eq, kW_has_22, eW_has_22_0, h, ← has_rng b (by omega), hasB, hasB, le_not_lt (nI r) a, le_not_lt (nI 3) b]
  cases decide (a < 0) <;> cases decide (a < nI r) <;> cases decide (b < 0) <;> cases decide (b < nI 3) <;> rfl
theorem op_row (d i : Nat) (g : GT) (X : XS) (N T K : SS) (M : MS) (dd : AH) (h : INV i X N K M dd) (a b : Int32) : OPR d i g X N T K M dd yB_row yM_row [.int a, .int b] := by
  have h' := h
  obtain ⟨_, hK, hT, ⟨r, r24, r1, r2, hrr⟩, hH, hE, hB, hM', hD⟩ := h'
  have cB : call PGM (d + 40) yB_row [.ref 12, .int a, .int b] (heapOf g X N T K M dd) = sem PGM (d + 39) yB_row (9, [some (.ref 12), some (.int a), some (.int b)], [.int (bI (hasB a r && rng b 0 2))], heapOf g X N T K M dd) := by
    rw [kB_row, eB_row_0, cW_has (d + 38) g X N T K M dd a b r1, aft1]
  have cM : ∀ Z : ZT, call PGM (d + 40) yM_row [.ref 91, .int a, .int b] (hM Z M) = bif hasB a r then sem PGM (d + 39) yM_row (25, [some (.ref 91), some (.int a), some (.int b)], [.int (bI (rng b 0 2))], hM Z M) else some (some (.int (-9)), hM Z M) := by
    intro Z
    rw [kM_row, eM_row_0, r2, show (0 : Int64) = (0 : Int32).toInt64 from rfl, cM_inI (d + 38), in_has a (by omega), aft1, eM_row_13, bI_0, show (0 : Int64) = (nI 0).toInt64 from w0, w2, cM_rng (d + 38), aft1]
    cases hasB a r <;> rfl
  cases ha : hasB a r with
  | false =>
    refine op_ro (-9) h ?_ ?_
    · rw [cB, ha, eB_row_9]
      rfl
    · rw [hM_eq, cM, ha]
      rfl
  | true =>
    obtain ⟨k, hk, rfl⟩ := has_t (by omega) ha
    cases hr : rng b 0 2 with
    | false =>
      refine op_ro (-9) h ?_ ?_
      · rw [cB, ha, hr, eB_row_9]
        rfl
      · rw [hM_eq, cM, ha, hr, cond_true, eM_row_25]
        rfl
    | true =>
      obtain ⟨w, _, hw, rfl⟩ := rng_t (by omega) (by omega) hr
      obtain ⟨q0, q1, q2⟩ := hrr k hk
      have e : w = 0 ∨ w = 1 ∨ w = 2 := by omega
      rcases e with e | e | e <;> subst e
      · refine op_ro (X.1 8 k) h ?_ ?_
        · rw [cB, ha, hr, eB_row_9]
          simp (disch := omega) only [l0, l1, l2, l3, l4, l5, l6, l7, l8, l9, l10, l11, l12, l13, l14, l15, l16, l17, l18, l19, l20, l21, l22, l23, l24, l25, l26, l27, l28, l29, l30, l31, l40, l48, l52, l57, l60, l65, l97, l99, l100, l102, l119, l122, l179, l197, l200, l201, l237, l436, l437, pk_mul, nI_add, inb_nI, nclamp, dlt, dle, deq, bif_t, bif_f, bif_nt, bif_nf, aft0, aft1, decide_true, decide_false, Bool.not_true, Bool.not_false, cond_true, cond_false, Nat.add_sub_cancel, Nat.add_one_sub_one, ou9, mo1, nI_MO, OU_lt, OU_ge, Nat.not_lt_zero, Bool.or_false, Bool.or_true, Bool.true_or, Bool.false_or, Bool.and_true, Bool.and_false, Bool.true_and, Bool.false_and, bI_0n, bI_1n, Bool.not_not]
        · rw [hM_eq, cM, ha, hr, cond_true, eM_row_25, q0]
          simp (disch := omega) only [l0, l1, l2, l3, l4, l5, l6, l7, l8, l9, l10, l11, l12, l13, l14, l15, l16, l17, l18, l19, l20, l21, l22, l23, l24, l25, l26, l27, l28, l29, l30, l31, l40, l48, l52, l57, l60, l65, l97, l99, l100, l102, l119, l122, l179, l197, l200, l201, l237, l436, l437, pk_mul, nI_add, inb_nI, nclamp, dlt, dle, deq, bif_t, bif_f, bif_nt, bif_nf, aft0, aft1, decide_true, decide_false, Bool.not_true, Bool.not_false, cond_true, cond_false, Nat.add_sub_cancel, Nat.add_one_sub_one, ou9, mo1, nI_MO, OU_lt, OU_ge, Nat.not_lt_zero, Bool.or_false, Bool.or_true, Bool.true_or, Bool.false_or, Bool.and_true, Bool.and_false, Bool.true_and, Bool.false_and, bI_0n, bI_1n, Bool.not_not, Nat.add_zero]
      · refine op_ro (X.1 9 k) h ?_ ?_
        · rw [cB, ha, hr, eB_row_9]
          simp (disch := omega) only [l0, l1, l2, l3, l4, l5, l6, l7, l8, l9, l10, l11, l12, l13, l14, l15, l16, l17, l18, l19, l20, l21, l22, l23, l24, l25, l26, l27, l28, l29, l30, l31, l40, l48, l52, l57, l60, l65, l97, l99, l100, l102, l119, l122, l179, l197, l200, l201, l237, l436, l437, pk_mul, nI_add, inb_nI, nclamp, dlt, dle, deq, bif_t, bif_f, bif_nt, bif_nf, aft0, aft1, decide_true, decide_false, Bool.not_true, Bool.not_false, cond_true, cond_false, Nat.add_sub_cancel, Nat.add_one_sub_one, ou9, mo1, nI_MO, OU_lt, OU_ge, Nat.not_lt_zero, Bool.or_false, Bool.or_true, Bool.true_or, Bool.false_or, Bool.and_true, Bool.and_false, Bool.true_and, Bool.false_and, bI_0n, bI_1n, Bool.not_not]
        · rw [hM_eq, cM, ha, hr, cond_true, eM_row_25, q1]
          simp (disch := omega) only [l0, l1, l2, l3, l4, l5, l6, l7, l8, l9, l10, l11, l12, l13, l14, l15, l16, l17, l18, l19, l20, l21, l22, l23, l24, l25, l26, l27, l28, l29, l30, l31, l40, l48, l52, l57, l60, l65, l97, l99, l100, l102, l119, l122, l179, l197, l200, l201, l237, l436, l437, pk_mul, nI_add, inb_nI, nclamp, dlt, dle, deq, bif_t, bif_f, bif_nt, bif_nf, aft0, aft1, decide_true, decide_false, Bool.not_true, Bool.not_false, cond_true, cond_false, Nat.add_sub_cancel, Nat.add_one_sub_one, ou9, mo1, nI_MO, OU_lt, OU_ge, Nat.not_lt_zero, Bool.or_false, Bool.or_true, Bool.true_or, Bool.false_or, Bool.and_true, Bool.and_false, Bool.true_and, Bool.false_and, bI_0n, bI_1n, Bool.not_not]
      · refine op_ro (X.1 10 k) h ?_ ?_
        · rw [cB, ha, hr, eB_row_9]
          simp (disch := omega) only [l0, l1, l2, l3, l4, l5, l6, l7, l8, l9, l10, l11, l12, l13, l14, l15, l16, l17, l18, l19, l20, l21, l22, l23, l24, l25, l26, l27, l28, l29, l30, l31, l40, l48, l52, l57, l60, l65, l97, l99, l100, l102, l119, l122, l179, l197, l200, l201, l237, l436, l437, pk_mul, nI_add, inb_nI, nclamp, dlt, dle, deq, bif_t, bif_f, bif_nt, bif_nf, aft0, aft1, decide_true, decide_false, Bool.not_true, Bool.not_false, cond_true, cond_false, Nat.add_sub_cancel, Nat.add_one_sub_one, ou9, mo1, nI_MO, OU_lt, OU_ge, Nat.not_lt_zero, Bool.or_false, Bool.or_true, Bool.true_or, Bool.false_or, Bool.and_true, Bool.and_false, Bool.true_and, Bool.false_and, bI_0n, bI_1n, Bool.not_not]
        · rw [hM_eq, cM, ha, hr, cond_true, eM_row_25, q2]
          simp (disch := omega) only [l0, l1, l2, l3, l4, l5, l6, l7, l8, l9, l10, l11, l12, l13, l14, l15, l16, l17, l18, l19, l20, l21, l22, l23, l24, l25, l26, l27, l28, l29, l30, l31, l40, l48, l52, l57, l60, l65, l97, l99, l100, l102, l119, l122, l179, l197, l200, l201, l237, l436, l437, pk_mul, nI_add, inb_nI, nclamp, dlt, dle, deq, bif_t, bif_f, bif_nt, bif_nf, aft0, aft1, decide_true, decide_false, Bool.not_true, Bool.not_false, cond_true, cond_false, Nat.add_sub_cancel, Nat.add_one_sub_one, ou9, mo1, nI_MO, OU_lt, OU_ge, Nat.not_lt_zero, Bool.or_false, Bool.or_true, Bool.true_or, Bool.false_or, Bool.and_true, Bool.and_false, Bool.true_and, Bool.false_and, bI_0n, bI_1n, Bool.not_not]
theorem op_alterRow (d i : Nat) (g : GT) (X : XS) (N T K : SS) (M : MS) (dd : AH) (h : INV i X N K M dd) (a b v : Int32) : OPR d i g X N T K M dd yB_alterRow yM_alterRow [.int a, .int b, .int v] := by
  have h' := h
  obtain ⟨_, hK, hT, ⟨r, r24, r1, r2, hrr⟩, hH, hE, hB, hM', hD⟩ := h'
  have cB : call PGM (d + 40) yB_alterRow [.ref 12, .int a, .int b, .int v] (heapOf g X N T K M dd) = sem PGM (d + 39) yB_alterRow (9, [some (.ref 12), some (.int a), some (.int b), some (.int v), none], [.int (bI (hasB a r && rng b 0 2))], heapOf g X N T K M dd) := by
    rw [kB_alterRow, eB_alterRow_0, cW_has (d + 38) g X N T K M dd a b r1, aft1]
  have cM : ∀ Z : ZT, call PGM (d + 40) yM_alterRow [.ref 91, .int a, .int b, .int v] (hM Z M) = bif hasB a r then sem PGM (d + 39) yM_alterRow (25, [some (.ref 91), some (.int a), some (.int b), some (.int v), none], [.int (bI (rng b 0 2))], hM Z M) else some (some (.int (-9)), hM Z M) := by
    intro Z
    rw [kM_alterRow, eM_alterRow_0, r2, show (0 : Int64) = (0 : Int32).toInt64 from rfl, cM_inI (d + 38), in_has a (by omega), aft1, eM_alterRow_13, bI_0, show (0 : Int64) = (nI 0).toInt64 from w0, w2, cM_rng (d + 38), aft1]
    cases hasB a r <;> rfl
  cases ha : hasB a r with
  | false =>
    refine op_ro (-9) h ?_ ?_
    · rw [cB, ha, eB_alterRow_9]
      rfl
    · rw [hM_eq, cM, ha]
      rfl
  | true =>
    obtain ⟨k, hk, rfl⟩ := has_t (by omega) ha
    cases hr : rng b 0 2 with
    | false =>
      refine op_ro (-9) h ?_ ?_
      · rw [cB, ha, hr, eB_alterRow_9]
        rfl
      · rw [hM_eq, cM, ha, hr, cond_true, eM_alterRow_25]
        rfl
    | true =>
      obtain ⟨w, _, hw, rfl⟩ := rng_t (by omega) (by omega) hr
      have fin : ∀ w, w < 3 → X.1 (8 + w) k = M.1 8 (3 * k + w) → INV (i + 1) (xA X (8 + w) (upd (X.1 (8 + w)) k v)) N K (mA M 8 (upd (M.1 8) (3 * k + w) v)) dd := by
        intro w hw _
        refine INV_mono (INV_R h (fun j hj => xA_n (by omega)) (fun _ _ _ => rfl) rfl (fun j _ _ _ h8 => mA_n h8) (fun _ _ _ _ _ _ => rfl) (Or.inl rfl) ⟨r, r24, r1, r2, fun j hj => ?_⟩)
        obtain ⟨q0, q1, q2⟩ := hrr j hj
        have key : ∀ u, u < 3 → X.1 (8 + u) j = M.1 8 (3 * j + u) → (xA X (8 + w) (upd (X.1 (8 + w)) k v)).1 (8 + u) j = (mA M 8 (upd (M.1 8) (3 * k + w) v)).1 8 (3 * j + u) := by
          intro u hu hs
          rw [mA_s]
          by_cases ew : u = w
          · subst ew
            rw [xA_s]
            by_cases ej : j = k
            · subst ej; rw [upd_eq, upd_eq]
            · rw [upd_ne ej, upd_ne (by omega)]; exact hs
          · rw [xA_n (by omega), upd_ne (by omega)]; exact hs
        exact ⟨key 0 (by omega) q0, key 1 (by omega) q1, key 2 (by omega) q2⟩
      obtain ⟨q0, q1, q2⟩ := hrr k hk
      have e : w = 0 ∨ w = 1 ∨ w = 2 := by omega
      rcases e with e | e | e <;> subst e
      · refine ⟨X.1 8 k, xA X 8 (upd (X.1 8) k v), N, T, K, mA M 8 (upd (M.1 8) (3 * k) v), dd, ?_, ?_, fin 0 (by omega) q0⟩
        · rw [cB, ha, hr, eB_alterRow_9]
          simp (disch := omega) only [l0, l1, l2, l3, l4, l5, l6, l7, l8, l9, l10, l11, l12, l13, l14, l15, l16, l17, l18, l19, l20, l21, l22, l23, l24, l25, l26, l27, l28, l29, l30, l31, l40, l48, l52, l57, l60, l65, l97, l99, l100, l102, l119, l122, l179, l197, l200, l201, l237, l436, l437, pk_mul, nI_add, inb_nI, nclamp, dlt, dle, deq, bif_t, bif_f, bif_nt, bif_nf, aft0, aft1, decide_true, decide_false, Bool.not_true, Bool.not_false, cond_true, cond_false, Nat.add_sub_cancel, Nat.add_one_sub_one, ou9, mo1, nI_MO, OU_lt, OU_ge, Nat.not_lt_zero, Bool.or_false, Bool.or_true, Bool.true_or, Bool.false_or, Bool.and_true, Bool.and_false, Bool.true_and, Bool.false_and, bI_0n, bI_1n, Bool.not_not]
        · rw [hM_eq, cM, ha, hr, cond_true, eM_alterRow_25, q0]
          simp (disch := omega) only [l0, l1, l2, l3, l4, l5, l6, l7, l8, l9, l10, l11, l12, l13, l14, l15, l16, l17, l18, l19, l20, l21, l22, l23, l24, l25, l26, l27, l28, l29, l30, l31, l40, l48, l52, l57, l60, l65, l97, l99, l100, l102, l119, l122, l179, l197, l200, l201, l237, l436, l437, pk_mul, nI_add, inb_nI, nclamp, dlt, dle, deq, bif_t, bif_f, bif_nt, bif_nf, aft0, aft1, decide_true, decide_false, Bool.not_true, Bool.not_false, cond_true, cond_false, Nat.add_sub_cancel, Nat.add_one_sub_one, ou9, mo1, nI_MO, OU_lt, OU_ge, Nat.not_lt_zero, Bool.or_false, Bool.or_true, Bool.true_or, Bool.false_or, Bool.and_true, Bool.and_false, Bool.true_and, Bool.false_and, bI_0n, bI_1n, Bool.not_not, Nat.add_zero]
          rfl
      · refine ⟨X.1 9 k, xA X 9 (upd (X.1 9) k v), N, T, K, mA M 8 (upd (M.1 8) (3 * k + 1) v), dd, ?_, ?_, fin 1 (by omega) q1⟩
        · rw [cB, ha, hr, eB_alterRow_9]
          simp (disch := omega) only [l0, l1, l2, l3, l4, l5, l6, l7, l8, l9, l10, l11, l12, l13, l14, l15, l16, l17, l18, l19, l20, l21, l22, l23, l24, l25, l26, l27, l28, l29, l30, l31, l40, l48, l52, l57, l60, l65, l97, l99, l100, l102, l119, l122, l179, l197, l200, l201, l237, l436, l437, pk_mul, nI_add, inb_nI, nclamp, dlt, dle, deq, bif_t, bif_f, bif_nt, bif_nf, aft0, aft1, decide_true, decide_false, Bool.not_true, Bool.not_false, cond_true, cond_false, Nat.add_sub_cancel, Nat.add_one_sub_one, ou9, mo1, nI_MO, OU_lt, OU_ge, Nat.not_lt_zero, Bool.or_false, Bool.or_true, Bool.true_or, Bool.false_or, Bool.and_true, Bool.and_false, Bool.true_and, Bool.false_and, bI_0n, bI_1n, Bool.not_not]
        · rw [hM_eq, cM, ha, hr, cond_true, eM_alterRow_25, q1]
          simp (disch := omega) only [l0, l1, l2, l3, l4, l5, l6, l7, l8, l9, l10, l11, l12, l13, l14, l15, l16, l17, l18, l19, l20, l21, l22, l23, l24, l25, l26, l27, l28, l29, l30, l31, l40, l48, l52, l57, l60, l65, l97, l99, l100, l102, l119, l122, l179, l197, l200, l201, l237, l436, l437, pk_mul, nI_add, inb_nI, nclamp, dlt, dle, deq, bif_t, bif_f, bif_nt, bif_nf, aft0, aft1, decide_true, decide_false, Bool.not_true, Bool.not_false, cond_true, cond_false, Nat.add_sub_cancel, Nat.add_one_sub_one, ou9, mo1, nI_MO, OU_lt, OU_ge, Nat.not_lt_zero, Bool.or_false, Bool.or_true, Bool.true_or, Bool.false_or, Bool.and_true, Bool.and_false, Bool.true_and, Bool.false_and, bI_0n, bI_1n, Bool.not_not]
          rfl
      · refine ⟨X.1 10 k, xA X 10 (upd (X.1 10) k v), N, T, K, mA M 8 (upd (M.1 8) (3 * k + 2) v), dd, ?_, ?_, fin 2 (by omega) q2⟩
        · rw [cB, ha, hr, eB_alterRow_9]
          simp (disch := omega) only [l0, l1, l2, l3, l4, l5, l6, l7, l8, l9, l10, l11, l12, l13, l14, l15, l16, l17, l18, l19, l20, l21, l22, l23, l24, l25, l26, l27, l28, l29, l30, l31, l40, l48, l52, l57, l60, l65, l97, l99, l100, l102, l119, l122, l179, l197, l200, l201, l237, l436, l437, pk_mul, nI_add, inb_nI, nclamp, dlt, dle, deq, bif_t, bif_f, bif_nt, bif_nf, aft0, aft1, decide_true, decide_false, Bool.not_true, Bool.not_false, cond_true, cond_false, Nat.add_sub_cancel, Nat.add_one_sub_one, ou9, mo1, nI_MO, OU_lt, OU_ge, Nat.not_lt_zero, Bool.or_false, Bool.or_true, Bool.true_or, Bool.false_or, Bool.and_true, Bool.and_false, Bool.true_and, Bool.false_and, bI_0n, bI_1n, Bool.not_not]
        · rw [hM_eq, cM, ha, hr, cond_true, eM_alterRow_25, q2]
          simp (disch := omega) only [l0, l1, l2, l3, l4, l5, l6, l7, l8, l9, l10, l11, l12, l13, l14, l15, l16, l17, l18, l19, l20, l21, l22, l23, l24, l25, l26, l27, l28, l29, l30, l31, l40, l48, l52, l57, l60, l65, l97, l99, l100, l102, l119, l122, l179, l197, l200, l201, l237, l436, l437, pk_mul, nI_add, inb_nI, nclamp, dlt, dle, deq, bif_t, bif_f, bif_nt, bif_nf, aft0, aft1, decide_true, decide_false, Bool.not_true, Bool.not_false, cond_true, cond_false, Nat.add_sub_cancel, Nat.add_one_sub_one, ou9, mo1, nI_MO, OU_lt, OU_ge, Nat.not_lt_zero, Bool.or_false, Bool.or_true, Bool.true_or, Bool.false_or, Bool.and_true, Bool.and_false, Bool.true_and, Bool.false_and, bI_0n, bI_1n, Bool.not_not]
          rfl
theorem lst_get {α : Type} {E : List α} {i : Nat} (h : i < E.length) : ∃ e, E[i]? = some e := ⟨E[i], List.getElem?_eq_getElem h⟩
theorem op_prove (d i : Nat) (g : GT) (X : XS) (N T K : SS) (M : MS) (dd : AH) (h : INV i X N K M dd) (a : Int32) : OPR d i g X N T K M dd yB_prove yM_prove [.int a] := by
  have h' := h
  obtain ⟨⟨⟨nc, np, nb, n, C, R, W, L, D⟩, wo5⟩, hK, hT, ⟨r, r24, r1, r2, hrr⟩, hH, hE, hB, hM', hD⟩ := h'
  have hnp := W.1.2.1.2
  have hnb : nb ≤ 6 := W.1.2.2.1.2
  have hm8 : M.2 8 = MO := hM'.1
  have cB : call PGM (d + 40) yB_prove [.ref 12, .int a] (heapOf g X N T K M dd) = sem PGM (d + 39) yB_prove (4, [some (.ref 12), some (.int a)], [.int (bI (rng a 0 60))], heapOf g X N T K M dd) := by
    rw [kB_prove, eB_prove_0, isB_Tenths (d + 38), aft1]
  have cM : ∀ Z : ZT, call PGM (d + 40) yM_prove [.ref 91, .int a] (hM Z M) = sem PGM (d + 39) yM_prove (4, [some (.ref 91), some (.int a), none, none], [.int (bI (rng a 0 60))], hM Z M) := by
    intro Z
    rw [kM_prove, eM_prove_0, cM_isLong (d + 37), aft1]
  cases hr : rng a 0 60 with
  | false =>
    refine bad_tr h ?_ ?_
    · rw [cB, hr, eB_prove_4]
      rfl
    · rw [hM_eq, cM, hr, eM_prove_4]
      rfl
  | true =>
    obtain ⟨t, _, ht, rfl⟩ := rng_t (by omega) (by omega) hr
    obtain ⟨T', c1, c2, c3⟩ := cS_goOnl (d + 32) (r := 22) (Or.inl rfl) (g, xV X 6 0, N, K, M, dd) (wo := MO) (copS_RS T R hnp hnb) W (by rw [copS_L]; exact D) L (by rw [copS_w]; exact wo_OU) ht (n0 := 0) (by omega) (xV_s X 6 0)
    rw [lgT_fold lgA_22] at c1
    generalize hX' : (trE nc np nb n C MO (M.1 0) t).foldl (lgG 8 6) (xV X 6 0) = X' at c1
    have c1' : call PGM (d + 39) yS_goOn [.ref 59, .int (nI t), .ref 22] (heapOf g (xV X 6 0) N (copS N T) K M dd) = some (some (.int (nI (trV nc np nb n C MO (M.1 0) t))), heapOf g X' N T' K M dd) := by
      rw [hT_eq]
      refine c1.trans ?_
      rw [← hX']
      rfl
    obtain ⟨f1, f2, f3, f4, f5, f6⟩ := lg_fold 8 6 (trE nc np nb n C MO (M.1 0) t) (xV X 6 0) 0 (by omega) (xV_s X 6 0)
    rw [hX'] at f1 f2 f3 f4 f5 f6
    have el := trE_len nc np nb n C MO (M.1 0) t
    have hb := trN_b (nc := nc) (nb := nb) (n := n) (C := C) (wo := MO) (s := M.1 0) hnp ht
    rw [Nat.zero_add, el] at f1
    -- the model's
    obtain ⟨q, m1⟩ := cM_trial (d + 30) (g, X', N, T', K, dd) (mV (mA M 2 (cpy 437 (M.1 0) (M.1 2))) 9 24) nc np nb (60 * i) n t 24 r (fun _ => 180 * i) C W L ht (by omega) rfl r24 r2
    have e8 : (mV (mA M 2 (cpy 437 (M.1 0) (M.1 2))) 9 24).2 8 = MO := hm8
    have e0 : (mV (mA M 2 (cpy 437 (M.1 0) (M.1 2))) 9 24).1 0 = M.1 0 := rfl
    rw [e8, e0] at m1
    have seen := tr_seen (nc := nc) (nb := nb) (n := n) (C := C) (wo := MO) (s := M.1 0) (M := mV (mA M 2 (cpy 437 (M.1 0) (M.1 2))) 9 24) hnp rfl t ht
    generalize hMt : trM nc np nb n C MO (M.1 0) (mV (mA M 2 (cpy 437 (M.1 0) (M.1 2))) 9 24) t = Mt at m1 seen
    have t10 : Mt.2 10 = nI (trN nc np nb n C MO (M.1 0) t) := by rw [← hMt, trM_10]
    have tA : ∀ k, k ≠ 7 → Mt.1 k = (mV (mA M 2 (cpy 437 (M.1 0) (M.1 2))) 9 24).1 k := fun k hk => by rw [← hMt, trM_1 hk]
    have tV : ∀ k, k ≠ 10 → k ≠ 11 → k ≠ 13 → Mt.2 k = (mV (mA M 2 (cpy 437 (M.1 0) (M.1 2))) 9 24).2 k := fun k h1 h2 h3 => by rw [← hMt, trM_2 h1 h2 h3]
    generalize hmn : min 24 (trN nc np nb n C MO (M.1 0) t) = mn at f1
    have hmn24 : mn ≤ 24 := by omega
    -- after putsBack
    have bk : mA (mQ Mt q (trS nc np nb n C MO (M.1 0) t)) 0 (cpy 437 ((mQ Mt q (trS nc np nb n C MO (M.1 0) t)).1 2) ((mQ Mt q (trS nc np nb n C MO (M.1 0) t)).1 0)) = mQ Mt q (M.1 0) := by
      rw [mQ_a0, mQ_0, mQ_n (by omega) (by omega), tA 2 (by omega), mV_1, mA_s]
      congr 1
      exact back_eq (fun k hk => trS_fr hnp hnb (by omega) t)
    have lp : ∀ k j, j + k = 3 * mn → ∀ M1, sem PGM (d + 39) yM_prove (53, [some (.ref 91), some (.int (nI t)), some (.int (nI (trV nc np nb n C MO (M.1 0) t))), some (.int (nI j))], [], hM (g, X', N, T', K, dd) (mA (mV M1 14 (nI mn)) 8 (cpy j (M1.1 7) (M1.1 8)))) = some (some (.int (nI mn)), hM (g, X', N, T', K, dd) (mA (mV M1 14 (nI mn)) 8 (cpy (3 * mn) (M1.1 7) (M1.1 8)))) := by
      intro k
      induction k with
      | zero =>
        intro j hj M1
        have e : (mA (mV M1 14 (nI mn)) 8 (cpy j (M1.1 7) (M1.1 8))).2 14 = nI mn := mV_s M1 14 (nI mn)
        rw [eM_prove_53, e, show j = 3 * mn by omega]
        simp (disch := omega) only [l0, l1, l2, l3, l4, l5, l6, l7, l8, l9, l10, l11, l12, l13, l14, l15, l16, l17, l18, l19, l20, l21, l22, l23, l24, l25, l26, l27, l28, l29, l30, l31, l40, l48, l52, l57, l60, l65, l97, l99, l100, l102, l119, l122, l179, l197, l200, l201, l237, l436, l437, pk_mul, nI_add, inb_nI, nclamp, dlt, dle, deq, bif_t, bif_f, bif_nt, bif_nf, aft0, aft1, decide_true, decide_false, Bool.not_true, Bool.not_false, cond_true, cond_false, Nat.add_sub_cancel, Nat.add_one_sub_one, ou9, mo1, nI_MO, OU_lt, OU_ge, Nat.not_lt_zero, Bool.or_false, Bool.or_true, Bool.true_or, Bool.false_or, Bool.and_true, Bool.and_false, Bool.true_and, Bool.false_and, bI_0n, bI_1n, Bool.not_not]
      | succ k ih =>
        intro j hj M1
        have e : (mA (mV M1 14 (nI mn)) 8 (cpy j (M1.1 7) (M1.1 8))).2 14 = nI mn := mV_s M1 14 (nI mn)
        have e7 : (mA (mV M1 14 (nI mn)) 8 (cpy j (M1.1 7) (M1.1 8))).1 7 = M1.1 7 := by rw [mA_n (by omega), mV_1]
        rw [eM_prove_53, e, e7, mA_s, mA_mA]
        simp (disch := omega) only [l0, l1, l2, l3, l4, l5, l6, l7, l8, l9, l10, l11, l12, l13, l14, l15, l16, l17, l18, l19, l20, l21, l22, l23, l24, l25, l26, l27, l28, l29, l30, l31, l40, l48, l52, l57, l60, l65, l97, l99, l100, l102, l119, l122, l179, l197, l200, l201, l237, l436, l437, pk_mul, nI_add, inb_nI, nclamp, dlt, dle, deq, bif_t, bif_f, bif_nt, bif_nf, aft0, aft1, decide_true, decide_false, Bool.not_true, Bool.not_false, cond_true, cond_false, Nat.add_sub_cancel, Nat.add_one_sub_one, ou9, mo1, nI_MO, OU_lt, OU_ge, Nat.not_lt_zero, Bool.or_false, Bool.or_true, Bool.true_or, Bool.false_or, Bool.and_true, Bool.and_false, Bool.true_and, Bool.false_and, bI_0n, bI_1n, Bool.not_not]
        rw [eM_prove_75, cpy_s, nI_1]
        exact ih (j + 1) (by omega) M1
    have fin := lp (3 * mn) 0 (by omega) (mQ Mt q (M.1 0))
    have idd : mA (mV (mQ Mt q (M.1 0)) 14 (nI mn)) 8 (cpy 0 ((mQ Mt q (M.1 0)).1 7) ((mQ Mt q (M.1 0)).1 8)) = mV (mQ Mt q (M.1 0)) 14 (nI mn) := by
      rw [cpy_0]
      exact mA_id (mV (mQ Mt q (M.1 0)) 14 (nI mn)) 8
    rw [idd] at fin
    refine ⟨nI mn, X', N, T', K, mA (mV (mQ Mt q (M.1 0)) 14 (nI mn)) 8 (cpy (3 * mn) ((mQ Mt q (M.1 0)).1 7) ((mQ Mt q (M.1 0)).1 8)), dd, ?_, ?_, ?_⟩
    · rw [cB, hr, eB_prove_4, cS_copy_59_43 (d + 37) g X N T K M dd (lawD_38 D), aft0, eB_prove_20, eB_prove_28, c1', aft1, eB_prove_40, f1]
      rfl
    · rw [hM_eq, cM, hr, eM_prove_4, cM_puts (d + 38), aft0, eM_prove_13, m1, aft1, eM_prove_24, cM_putsBack (d + 38), aft0, bk, eM_prove_29]
      have z10 : (mQ Mt q (M.1 0)).2 10 = nI (trN nc np nb n C MO (M.1 0) t) := t10
      have two : (bif decide (24 ≤ (mQ Mt q (M.1 0)).2 10) then sem PGM (d + 39) yM_prove (51, [some (.ref 91), some (.int (nI t)), some (.int (nI (trV nc np nb n C MO (M.1 0) t))), none], [], hM (g, X', N, T', K, dd) (mV (mQ Mt q (M.1 0)) 14 24)) else sem PGM (d + 39) yM_prove (51, [some (.ref 91), some (.int (nI t)), some (.int (nI (trV nc np nb n C MO (M.1 0) t))), none], [], hM (g, X', N, T', K, dd) (mV (mQ Mt q (M.1 0)) 14 ((mQ Mt q (M.1 0)).2 10)))) = sem PGM (d + 39) yM_prove (51, [some (.ref 91), some (.int (nI t)), some (.int (nI (trV nc np nb n C MO (M.1 0) t))), none], [], hM (g, X', N, T', K, dd) (mV (mQ Mt q (M.1 0)) 14 (nI mn))) := by
        rw [z10]
        by_cases h24 : 24 ≤ trN nc np nb n C MO (M.1 0) t
        · have : mn = 24 := by omega
          rw [this]
          simp (disch := omega) only [l0, l1, l2, l3, l4, l5, l6, l7, l8, l9, l10, l11, l12, l13, l14, l15, l16, l17, l18, l19, l20, l21, l22, l23, l24, l25, l26, l27, l28, l29, l30, l31, l40, l48, l52, l57, l60, l65, l97, l99, l100, l102, l119, l122, l179, l197, l200, l201, l237, l436, l437, pk_mul, nI_add, inb_nI, nclamp, dlt, dle, deq, bif_t, bif_f, bif_nt, bif_nf, aft0, aft1, decide_true, decide_false, Bool.not_true, Bool.not_false, cond_true, cond_false, Nat.add_sub_cancel, Nat.add_one_sub_one, ou9, mo1, nI_MO, OU_lt, OU_ge, Nat.not_lt_zero, Bool.or_false, Bool.or_true, Bool.true_or, Bool.false_or, Bool.and_true, Bool.and_false, Bool.true_and, Bool.false_and, bI_0n, bI_1n, Bool.not_not]
        · have : mn = trN nc np nb n C MO (M.1 0) t := by omega
          rw [this]
          simp (disch := omega) only [l0, l1, l2, l3, l4, l5, l6, l7, l8, l9, l10, l11, l12, l13, l14, l15, l16, l17, l18, l19, l20, l21, l22, l23, l24, l25, l26, l27, l28, l29, l30, l31, l40, l48, l52, l57, l60, l65, l97, l99, l100, l102, l119, l122, l179, l197, l200, l201, l237, l436, l437, pk_mul, nI_add, inb_nI, nclamp, dlt, dle, deq, bif_t, bif_f, bif_nt, bif_nf, aft0, aft1, decide_true, decide_false, Bool.not_true, Bool.not_false, cond_true, cond_false, Nat.add_sub_cancel, Nat.add_one_sub_one, ou9, mo1, nI_MO, OU_lt, OU_ge, Nat.not_lt_zero, Bool.or_false, Bool.or_true, Bool.true_or, Bool.false_or, Bool.and_true, Bool.and_false, Bool.true_and, Bool.false_and, bI_0n, bI_1n, Bool.not_not]
      rw [bI_ne0, cond_true, two, eM_prove_51]
      exact fin
    · refine INV_mono (INV_R h (fun k hk => ?_) (fun k h6 h7 => ?_) ?_ (fun k h2 h6 h7 h8 => ?_) (fun k h9 h10 h11 h13 h14 => ?_) (Or.inr ⟨trN nc np nb n C MO (M.1 0) t, hb, ?_⟩) ⟨mn, hmn24, f1, ?_, fun j hj => ?_⟩)
      · rw [f2 k (by omega), xV_1]
      · rw [f3 k h6, xV_n h6]
      · rw [f4]
        rfl
      · rw [mA_n h8, mV_1]
        by_cases hk : k = 0
        · subst hk; rw [mQ_0]
        · rw [mQ_n hk h6, tA k h7, mV_1, mA_n h2]
      · rw [mA_2, mV_n h14, mQ_2, tV k h10 h11 h13, mV_n h9, mA_2]
      · rw [mA_2, mV_n (by omega)]
        exact t10
      · rw [mA_2, mV_s]
      · obtain ⟨e, he⟩ := lst_get (E := trE nc np nb n C MO (M.1 0) t) (i := j) (by omega)
        obtain ⟨g1, g2, g3⟩ := f6 j e he (by omega)
        obtain ⟨s1, s2, s3⟩ := seen j e he (by omega)
        have m7 : (mQ Mt q (M.1 0)).1 7 = Mt.1 7 := mQ_n (by omega) (by omega)
        rw [Nat.zero_add] at g1 g2 g3
        rw [mA_s, cpy_lt (by omega), cpy_lt (by omega), cpy_lt (by omega), m7, s1, s2, s3]
        exact ⟨g1, g2, g3⟩
