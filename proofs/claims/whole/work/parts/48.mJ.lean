/-! HARMS of a TENTH. -/
theorem seeM_1 {M : MS} {p w : Int32} {k : Nat} (h : k ≠ 7) : (seeM M p w).1 k = M.1 k := by
  rw [seeM, mV_1, mA_n h, mV_1]
theorem seeM_2 {M : MS} {p w : Int32} {k : Nat} (h : k ≠ 10) (h' : k ≠ 13) : (seeM M p w).2 k = M.2 k := by
  rw [seeM, mV_n h, mA_2, mV_n h']
theorem seeM_10 (M : MS) (p w : Int32) : (seeM M p w).2 10 = M.2 10 + nI 1 := by
  rw [seeM, mV_s]
theorem seeM_mA {M : MS} {p w : Int32} {k : Nat} {f : Nat → Int32} (h : k ≠ 7) (h' : k ≠ 8) : seeM (mA M k f) p w = mA (seeM M p w) k f := by
  have e8 : (mA M k f).1 8 = M.1 8 := mA_n (fun e => h' e.symm)
  have e7 : (mA M k f).1 7 = M.1 7 := mA_n (fun e => h e.symm)
  have a13 : see13 (mA M k f) p w = see13 M p w := by
    unfold see13
    rw [e8]
    rfl
  have a7 : see7 (mA M k f) p w = see7 M p w := by
    unfold see7
    rw [e7]
    rfl
  refine ms_ext (fun j => ?_) ?_
  · by_cases hj : j = 7
    · subst hj
      rw [mA_n (fun e => h e.symm), seeM, seeM, mV_1, mV_1, mA_s, mA_s, a7]
    · rw [seeM_1 hj]
      by_cases hk : j = k
      · subst hk
        rw [mA_s, mA_s]
      · rw [mA_n hk, mA_n hk, seeM_1 hj]
  · rw [mA_2, seeM, seeM, a13]
    rfl
abbrev EVT : Type := List (Int32 × Int32)
def recE (M : MS) (E : EVT) : MS := E.foldl (fun m e => seeM m e.1 e.2) M
theorem recE_snoc (M : MS) (E : EVT) (e : Int32 × Int32) : recE M (E ++ [e]) = seeM (recE M E) e.1 e.2 := by
  simp [recE, List.foldl_append]
theorem recE_app (M : MS) (E F : EVT) : recE M (E ++ F) = recE (recE M E) F := by
  simp [recE, List.foldl_append]
theorem recE_1 {k : Nat} (h : k ≠ 7) : ∀ (E : EVT) (M : MS), (recE M E).1 k = M.1 k
  | [], _ => rfl
  | e :: E, M => (recE_1 h E (seeM M e.1 e.2)).trans (seeM_1 h)
theorem recE_2 {k : Nat} (h : k ≠ 10) (h' : k ≠ 13) : ∀ (E : EVT) (M : MS), (recE M E).2 k = M.2 k
  | [], _ => rfl
  | e :: E, M => (recE_2 h h' E (seeM M e.1 e.2)).trans (seeM_2 h h')
theorem recE_10 : ∀ (E : EVT) (M : MS) (n : Nat), M.2 10 = nI n → (recE M E).2 10 = nI (n + E.length)
  | [], _, _, h => h
  | e :: E, M, n, h => by
    have := recE_10 E (seeM M e.1 e.2) (n + 1) (by rw [seeM_10, h, nI_add])
    rw [List.length_cons, show n + (E.length + 1) = n + 1 + E.length by omega]
    exact this
theorem recE_mA {k : Nat} {f : Nat → Int32} (h : k ≠ 7) (h' : k ≠ 8) : ∀ (E : EVT) (M : MS), recE (mA M k f) E = mA (recE M E) k f
  | [], _ => rfl
  | e :: E, M => by
    show recE (seeM (mA M k f) e.1 e.2) E = mA (recE (seeM M e.1 e.2) E) k f
    rw [seeM_mA h h', recE_mA h h' E]
/-- HARM to one, as things stand -/
def hv (s : Nat → Int32) (nb p : Nat) : Nat := if nI 0 ≤ s (99 + 4 * p + 1) then harmN s nb p else 0
def hrm1 (s : Nat → Int32) (nb p : Nat) : Nat → Int32 :=
  if hv s nb p = 0 then s else upd (upd s (99 + 4 * p + 3) (s (99 + 4 * p + 3) + nI (hv s nb p))) (99 + 4 * p) (bif under (s (99 + 4 * p)) (nI 1) then nI 3 else s (99 + 4 * p))
def hrmS (nb : Nat) (s : Nat → Int32) : Nat → Nat → Int32
  | 0 => s
  | j + 1 => hrm1 (hrmS nb s j) nb j
def hrmV (nb : Nat) (s : Nat → Int32) : Nat → Nat
  | 0 => 0
  | j + 1 => hrmV nb s j + hv (hrmS nb s j) nb j
def hrmE (nb : Nat) (s : Nat → Int32) : Nat → EVT
  | 0 => []
  | j + 1 => hrmE nb s j ++ (if hv (hrmS nb s j) nb j = 0 then [] else [(nI j, hrmS nb s j (99 + 4 * j + 1))])
theorem hrmE_len (nb : Nat) (s : Nat → Int32) : ∀ j, (hrmE nb s j).length ≤ j
  | 0 => Nat.le_refl _
  | j + 1 => by
    have := hrmE_len nb s j
    rw [hrmE, List.length_append]
    by_cases h : hv (hrmS nb s j) nb j = 0 <;> simp [h] <;> omega
theorem hrm1_lo {s : Nat → Int32} {nb p k : Nat} (h : k < 99) : hrm1 s nb p k = s k := by
  unfold hrm1
  by_cases e : hv s nb p = 0
  · rw [if_pos e]
  · rw [if_neg e, upd_ne (by omega), upd_ne (by omega)]
theorem hrmS_lo {s : Nat → Int32} {nb k : Nat} (h : k < 99) : ∀ j, hrmS nb s j k = s k
  | 0 => rfl
  | j + 1 => by rw [hrmS, hrm1_lo h, hrmS_lo h j]
theorem harmN_le (s : Nat → Int32) (nb p : Nat) : harmN s nb p ≤ 3 := by
  unfold harmN hurtN
  split <;> (try split) <;> (repeat' split) <;> omega
theorem cM_harms (d : Nat) (Z : ZT) (M : MS) (np nb n w r : Nat) (hnp : np ≤ 20) (hnb : nb ≤ 6) (h1 : M.1 0 1 = nI np) (h2 : M.1 0 2 = nI nb) (hn : n < 400000000) (h10 : M.2 10 = nI n) (hw : w ≤ 24) (h9 : M.2 9 = nI w) (hr : r ≤ 24) (h14 : M.2 14 = nI r) :
    call PGM (d + 3) yM_harms [.ref 91] (hM Z M) = some (some (.int (nI (hrmV nb (M.1 0) np))), hM Z (mA (recE M (hrmE nb (M.1 0) np)) 0 (hrmS nb (M.1 0) np))) := by
  rw [kM_harms, eM_harms_0]
  have loop : ∀ k j, j + k = np → ∀ u3, sem PGM (d + 2) yM_harms (4, [some (.ref 91), some (.int (nI (hrmV nb (M.1 0) j))), some (.int (nI j)), u3], [], hM Z (mA (recE M (hrmE nb (M.1 0) j)) 0 (hrmS nb (M.1 0) j))) = some (some (.int (nI (hrmV nb (M.1 0) np))), hM Z (mA (recE M (hrmE nb (M.1 0) np)) 0 (hrmS nb (M.1 0) np))) := by
    intro k
    induction k with
    | zero =>
      intro j hj u3
      have ej : j = np := by omega
      subst ej
      rw [eM_harms_4, mA_s, hrmS_lo (by omega), h1]
      simp (disch := omega) only [l0, l1, l2, l3, l4, l5, l6, l7, l8, l9, l10, l11, l12, l13, l14, l15, l16, l17, l18, l19, l20, l21, l22, l23, l24, l25, l26, l27, l28, l29, l30, l31, l40, l48, l52, l57, l60, l65, l97, l99, l100, l102, l119, l122, l179, l197, l200, l201, l237, l436, l437, pk_mul, nI_add, inb_nI, nclamp, dlt, dle, deq, bif_t, bif_f, bif_nt, bif_nf, aft0, aft1, decide_true, decide_false, Bool.not_true, Bool.not_false, cond_true, cond_false, Nat.add_sub_cancel, Nat.add_one_sub_one, ou9, mo1, nI_MO, OU_lt, OU_ge, Nat.not_lt_zero, Bool.or_false, Bool.or_true, Bool.true_or, Bool.false_or, Bool.and_true, Bool.and_false, Bool.true_and, Bool.false_and, bI_0n, bI_1n, Bool.not_not]
    | succ k ih =>
      intro j hj u3
      have ih' := fun u => ih (j + 1) (by omega) u
      rw [eM_harms_4]
      have hlen := hrmE_len nb (M.1 0) j
      rw [cM_whereIs (d + 1) Z _ j (by omega), aft1, eM_harms_19, cM_harmTo d Z _ j nb (by omega) hnb (by rw [mA_s, hrmS_lo (by omega), h2]), aft1, eM_harms_31]
      rw [cM_sees d Z _ j (n + (hrmE nb (M.1 0) j).length) w r (by omega) (by omega) (by rw [mA_2]; exact recE_10 _ _ _ h10) hw (by rw [mA_2, recE_2 (by omega) (by omega)]; exact h9) hr (by rw [mA_2, recE_2 (by omega) (by omega)]; exact h14), aft0, eM_harms_41]
      rw [hrmV, hrmE, hrmS, hrm1, hv] at ih'
      simp (disch := omega) only [l0, l1, l2, l3, l4, l5, l6, l7, l8, l9, l10, l11, l12, l13, l14, l15, l16, l17, l18, l19, l20, l21, l22, l23, l24, l25, l26, l27, l28, l29, l30, l31, l40, l48, l52, l57, l60, l65, l97, l99, l100, l102, l119, l122, l179, l197, l200, l201, l237, l436, l437, pk_mul, nI_add, inb_nI, nclamp, dlt, dle, deq, bif_t, bif_f, bif_nt, bif_nf, aft0, aft1, decide_true, decide_false, Bool.not_true, Bool.not_false, cond_true, cond_false, Nat.add_sub_cancel, Nat.add_one_sub_one, ou9, mo1, nI_MO, OU_lt, OU_ge, Nat.not_lt_zero, Bool.or_false, Bool.or_true, Bool.true_or, Bool.false_or, Bool.and_true, Bool.and_false, Bool.true_and, Bool.false_and, bI_0n, bI_1n, Bool.not_not, mA_s, mA_mA, hrmS_lo, h1]
      generalize hs : hrmS nb (M.1 0) j = s at ih' ⊢
      generalize hrmE nb (M.1 0) j = E at ih' ⊢
      by_cases hpl : nI 0 ≤ s (99 + 4 * j + 1)
      · simp only [hpl, if_true, decide_true, cond_true] at ih' ⊢
        by_cases hz : harmN s nb j = 0
        · simp only [hz, if_true, List.append_nil, Nat.add_zero] at ih' ⊢
          simp (disch := omega) only [l0, l1, l2, l3, l4, l5, l6, l7, l8, l9, l10, l11, l12, l13, l14, l15, l16, l17, l18, l19, l20, l21, l22, l23, l24, l25, l26, l27, l28, l29, l30, l31, l40, l48, l52, l57, l60, l65, l97, l99, l100, l102, l119, l122, l179, l197, l200, l201, l237, l436, l437, pk_mul, nI_add, inb_nI, nclamp, dlt, dle, deq, bif_t, bif_f, bif_nt, bif_nf, aft0, aft1, decide_true, decide_false, Bool.not_true, Bool.not_false, cond_true, cond_false, Nat.add_sub_cancel, Nat.add_one_sub_one, ou9, mo1, nI_MO, OU_lt, OU_ge, Nat.not_lt_zero, Bool.or_false, Bool.or_true, Bool.true_or, Bool.false_or, Bool.and_true, Bool.and_false, Bool.true_and, Bool.false_and, bI_0n, bI_1n, Bool.not_not]
          exact ih' _
        · have hle := harmN_le s nb j
          simp only [hz, if_false] at ih' ⊢
          simp (disch := omega) only [l0, l1, l2, l3, l4, l5, l6, l7, l8, l9, l10, l11, l12, l13, l14, l15, l16, l17, l18, l19, l20, l21, l22, l23, l24, l25, l26, l27, l28, l29, l30, l31, l40, l48, l52, l57, l60, l65, l97, l99, l100, l102, l119, l122, l179, l197, l200, l201, l237, l436, l437, pk_mul, nI_add, inb_nI, nclamp, dlt, dle, deq, bif_t, bif_f, bif_nt, bif_nf, aft0, aft1, decide_true, decide_false, Bool.not_true, Bool.not_false, cond_true, cond_false, Nat.add_sub_cancel, Nat.add_one_sub_one, ou9, mo1, nI_MO, OU_lt, OU_ge, Nat.not_lt_zero, Bool.or_false, Bool.or_true, Bool.true_or, Bool.false_or, Bool.and_true, Bool.and_false, Bool.true_and, Bool.false_and, bI_0n, bI_1n, Bool.not_not, eM_harms_58]
          rw [seeM_mA (by omega) (by omega)]
          simp (disch := omega) only [l0, l1, l2, l3, l4, l5, l6, l7, l8, l9, l10, l11, l12, l13, l14, l15, l16, l17, l18, l19, l20, l21, l22, l23, l24, l25, l26, l27, l28, l29, l30, l31, l40, l48, l52, l57, l60, l65, l97, l99, l100, l102, l119, l122, l179, l197, l200, l201, l237, l436, l437, pk_mul, nI_add, inb_nI, nclamp, dlt, dle, deq, bif_t, bif_f, bif_nt, bif_nf, aft0, aft1, decide_true, decide_false, Bool.not_true, Bool.not_false, cond_true, cond_false, Nat.add_sub_cancel, Nat.add_one_sub_one, ou9, mo1, nI_MO, OU_lt, OU_ge, Nat.not_lt_zero, Bool.or_false, Bool.or_true, Bool.true_or, Bool.false_or, Bool.and_true, Bool.and_false, Bool.true_and, Bool.false_and, bI_0n, bI_1n, Bool.not_not, mA_s, mA_mA]
          rw [cM_kindOf (d + 1) Z _ j (by omega)]
          simp (disch := omega) only [l0, l1, l2, l3, l4, l5, l6, l7, l8, l9, l10, l11, l12, l13, l14, l15, l16, l17, l18, l19, l20, l21, l22, l23, l24, l25, l26, l27, l28, l29, l30, l31, l40, l48, l52, l57, l60, l65, l97, l99, l100, l102, l119, l122, l179, l197, l200, l201, l237, l436, l437, pk_mul, nI_add, inb_nI, nclamp, dlt, dle, deq, bif_t, bif_f, bif_nt, bif_nf, aft0, aft1, decide_true, decide_false, Bool.not_true, Bool.not_false, cond_true, cond_false, Nat.add_sub_cancel, Nat.add_one_sub_one, ou9, mo1, nI_MO, OU_lt, OU_ge, Nat.not_lt_zero, Bool.or_false, Bool.or_true, Bool.true_or, Bool.false_or, Bool.and_true, Bool.and_false, Bool.true_and, Bool.false_and, bI_0n, bI_1n, Bool.not_not, mA_s, mA_mA, upd_ne, eM_harms_73]
          rw [cM_under, aft1, eM_harms_77]
          simp (disch := omega) only [l0, l1, l2, l3, l4, l5, l6, l7, l8, l9, l10, l11, l12, l13, l14, l15, l16, l17, l18, l19, l20, l21, l22, l23, l24, l25, l26, l27, l28, l29, l30, l31, l40, l48, l52, l57, l60, l65, l97, l99, l100, l102, l119, l122, l179, l197, l200, l201, l237, l436, l437, pk_mul, nI_add, inb_nI, nclamp, dlt, dle, deq, bif_t, bif_f, bif_nt, bif_nf, aft0, aft1, decide_true, decide_false, Bool.not_true, Bool.not_false, cond_true, cond_false, Nat.add_sub_cancel, Nat.add_one_sub_one, ou9, mo1, nI_MO, OU_lt, OU_ge, Nat.not_lt_zero, Bool.or_false, Bool.or_true, Bool.true_or, Bool.false_or, Bool.and_true, Bool.and_false, Bool.true_and, Bool.false_and, bI_0n, bI_1n, Bool.not_not, mA_s, mA_mA, upd_ne]
          rw [cM_kindOf (d + 1) Z _ j (by omega), aft1, eM_harms_89]
          simp (disch := omega) only [l0, l1, l2, l3, l4, l5, l6, l7, l8, l9, l10, l11, l12, l13, l14, l15, l16, l17, l18, l19, l20, l21, l22, l23, l24, l25, l26, l27, l28, l29, l30, l31, l40, l48, l52, l57, l60, l65, l97, l99, l100, l102, l119, l122, l179, l197, l200, l201, l237, l436, l437, pk_mul, nI_add, inb_nI, nclamp, dlt, dle, deq, bif_t, bif_f, bif_nt, bif_nf, aft0, aft1, decide_true, decide_false, Bool.not_true, Bool.not_false, cond_true, cond_false, Nat.add_sub_cancel, Nat.add_one_sub_one, ou9, mo1, nI_MO, OU_lt, OU_ge, Nat.not_lt_zero, Bool.or_false, Bool.or_true, Bool.true_or, Bool.false_or, Bool.and_true, Bool.and_false, Bool.true_and, Bool.false_and, bI_0n, bI_1n, Bool.not_not, mA_s, mA_mA, upd_ne, eM_harms_90]
          rw [recE_snoc] at ih'
          cases hu : under (s (99 + 4 * j)) (nI 1) with
          | true =>
            rw [hu] at ih'
            exact ih' _
          | false =>
            rw [hu] at ih'
            exact ih' _
      · have e : decide (nI 0 ≤ s (99 + 4 * j + 1)) = false := by simp [hpl]
        simp only [hpl, e, if_true, if_false, cond_false, List.append_nil, Nat.add_zero] at ih' ⊢
        exact ih' _
  exact loop np 0 (by omega) none
