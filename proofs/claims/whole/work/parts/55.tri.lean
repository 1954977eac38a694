/-! A TRIAL of the model. -/
def trS (nc np nb n : Nat) (C : Nat → CL) (wo : Int32) (s : Nat → Int32) : Nat → Nat → Int32
  | 0 => s
  | j + 1 => goF nc np nb n C wo (trS nc np nb n C wo s j)
def trV (nc np nb n : Nat) (C : Nat → CL) (wo : Int32) (s : Nat → Int32) : Nat → Nat
  | 0 => 0
  | j + 1 => trV nc np nb n C wo s j + goV np nb n C wo (trS nc np nb n C wo s j)
/-- the record alone -/
def trM (nc np nb n : Nat) (C : Nat → CL) (wo : Int32) (s : Nat → Int32) (M : MS) : Nat → MS
  | 0 => mV M 10 (nI 0)
  | j + 1 => recE (mV (trM nc np nb n C wo s M j) 11 (nI (j + 1))) (goE np nb n C wo (trS nc np nb n C wo s j))
def trN (nc np nb n : Nat) (C : Nat → CL) (wo : Int32) (s : Nat → Int32) : Nat → Nat
  | 0 => 0
  | j + 1 => trN nc np nb n C wo s j + (goE np nb n C wo (trS nc np nb n C wo s j)).length
theorem WF_trS {nc np nb n T : Nat} {B : Nat → Nat} {C : Nat → CL} {wo : Int32} {s : Nat → Int32} (h : WF s nc np nb T B) : ∀ j, WF (trS nc np nb n C wo s j) nc np nb (T + j) (fun p => B p + 3 * j)
  | 0 => h
  | j + 1 => WF_mono (WF_goF (WF_trS h j)) (by omega) (fun p _ => by show B p + 3 * j + 3 ≤ B p + 3 * (j + 1); omega)
theorem goF_hi {nc np nb n : Nat} {C : Nat → CL} {wo : Int32} {s : Nat → Int32} {j : Nat} (hnp : np ≤ 20) (hnb : nb ≤ 6) (h : 197 ≤ j) : goF nc np nb n C wo s j = s j := by
  have a : ∀ (s : Nat → Int32) (c p : Nat), p ≤ 20 → hpR s c p j = s j := by
    intro s c p
    induction p with
    | zero => intro _; rfl
    | succ p ih =>
      intro hp
      rw [hpR]
      cases decide (hpR s c p (99 + 4 * p + 1) = nI c) && decide (hpR s c p (99 + 4 * p) = nI 3) with
      | true => rw [cond_true, upd_ne (by omega), ih (by omega)]
      | false => rw [cond_false, ih (by omega)]
  have b : ∀ (s : Nat → Int32) (c : Nat), hpC np s c j = s j := by
    intro s c
    induction c with
    | zero => rfl
    | succ c ih =>
      rw [hpC]
      cases decide (nI (faN (hpC np s c) (nI c) np) < hpC np s c 7) with
      | true => rw [cond_true, ih]
      | false => rw [cond_false, a _ _ np hnp, ih]
  have c : ∀ (s : Nat → Int32) (p : Nat), p ≤ 20 → hrmS nb s p j = s j := by
    intro s p
    induction p with
    | zero => intro _; rfl
    | succ p ih =>
      intro hp
      rw [hrmS, hrm1]
      by_cases hz : hv (hrmS nb s p) nb p = 0
      · rw [if_pos hz, ih (by omega)]
      · rw [if_neg hz, upd_ne (by omega), upd_ne (by omega), ih (by omega)]
  rw [goF, b, c _ np hnp, goA_fr hnp hnb (by omega)]
theorem goF_lo {nc np nb n : Nat} {C : Nat → CL} {wo : Int32} {s : Nat → Int32} {j : Nat} (hnp : np ≤ 20) (hnb : nb ≤ 6) (h : j < 99) (h3 : j ≠ 3) (h4 : j ≠ 4) : goF nc np nb n C wo s j = s j := by
  rw [goF, hpC_lo h, hrmS_lo h, goA_fr hnp hnb (by omega)]
theorem trS_fr {nc np nb n : Nat} {C : Nat → CL} {wo : Int32} {s : Nat → Int32} {k : Nat} (hnp : np ≤ 20) (hnb : nb ≤ 6) (h : (k < 99 ∧ k ≠ 3 ∧ k ≠ 4) ∨ 197 ≤ k) : ∀ j, trS nc np nb n C wo s j k = s k
  | 0 => rfl
  | j + 1 => by
    have ih := trS_fr (nc := nc) (n := n) (C := C) (wo := wo) (s := s) hnp hnb h j
    rw [trS, ← ih]
    rcases h with h' | h'
    · exact goF_lo hnp hnb h'.1 h'.2.1 h'.2.2
    · exact goF_hi hnp hnb h'
theorem trM_2 {nc np nb n : Nat} {C : Nat → CL} {wo : Int32} {s : Nat → Int32} {M : MS} {k : Nat} (h10 : k ≠ 10) (h11 : k ≠ 11) (h13 : k ≠ 13) : ∀ j, (trM nc np nb n C wo s M j).2 k = M.2 k
  | 0 => mV_n h10
  | j + 1 => by rw [trM, recE_2 h10 h13, mV_n h11, trM_2 h10 h11 h13 j]
theorem trM_1 {nc np nb n : Nat} {C : Nat → CL} {wo : Int32} {s : Nat → Int32} {M : MS} {k : Nat} (h7 : k ≠ 7) : ∀ j, (trM nc np nb n C wo s M j).1 k = M.1 k
  | 0 => by rw [trM, mV_1]
  | j + 1 => by rw [trM, recE_1 h7, mV_1, trM_1 h7 j]
theorem trM_10 {nc np nb n : Nat} {C : Nat → CL} {wo : Int32} {s : Nat → Int32} {M : MS} : ∀ j, (trM nc np nb n C wo s M j).2 10 = nI (trN nc np nb n C wo s j)
  | 0 => by rw [trM, mV_s, trN]
  | j + 1 => by
    rw [trM, trN]
    exact recE_10 _ _ _ (by rw [mV_n (by omega), trM_10 j])
theorem trN_le {nc np nb n : Nat} {C : Nat → CL} {wo : Int32} {s : Nat → Int32} : ∀ j, trN nc np nb n C wo s j ≤ np * j
  | 0 => Nat.zero_le _
  | j + 1 => by
    have h1 := trN_le (nc := nc) (np := np) (nb := nb) (n := n) (C := C) (wo := wo) (s := s) j
    have h2 : (goE np nb n C wo (trS nc np nb n C wo s j)).length ≤ np := hrmE_len nb _ np
    rw [trN, Nat.mul_succ]
    omega
theorem mQ_mV (M : MS) (q s : Nat → Int32) (k : Nat) (v : Int32) : mV (mQ M q s) k v = mQ (mV M k v) q s := rfl
theorem recE_mQ (M : MS) (q s : Nat → Int32) (E : EVT) : recE (mQ M q s) E = mQ (recE M E) q s := by
  rw [mQ, recE_mA (by omega) (by omega), recE_mA (by omega) (by omega), mQ]
theorem cM_trial (d : Nat) (Z : ZT) (M : MS) (nc np nb T n t w r : Nat) (B : Nat → Nat) (C : Nat → CL) (h : WF (M.1 0) nc np nb T B) (hl : lawM (M.1 0) n C) (ht : t ≤ 60) (hw : w ≤ 24) (h9 : M.2 9 = nI w) (hr : r ≤ 24) (h14 : M.2 14 = nI r) :
    ∃ q, call PGM (d + 9) yM_trial [.ref 91, .int (nI t)] (hM Z M) = some (some (.int (nI (trV nc np nb n C (M.2 8) (M.1 0) t))), hM Z (mQ (trM nc np nb n C (M.2 8) (M.1 0) M t) q (trS nc np nb n C (M.2 8) (M.1 0) t))) := by
  have hnb : nb ≤ 6 := h.1.2.2.1.2
  have hnp := h.1.2.1.2
  rw [kM_trial, eM_trial_0, eM_trial_5]
  have loop : ∀ k j, j + k = t → ∀ q, ∃ q', sem PGM (d + 8) yM_trial (9, [some (.ref 91), some (.int (nI t)), some (.int (nI (trV nc np nb n C (M.2 8) (M.1 0) j))), some (.int (nI (j + 1)))], [], hM Z (mQ (trM nc np nb n C (M.2 8) (M.1 0) M j) q (trS nc np nb n C (M.2 8) (M.1 0) j))) = some (some (.int (nI (trV nc np nb n C (M.2 8) (M.1 0) t))), hM Z (mQ (trM nc np nb n C (M.2 8) (M.1 0) M t) q' (trS nc np nb n C (M.2 8) (M.1 0) t))) := by
    intro k
    induction k with
    | zero =>
      intro j hj q
      refine ⟨q, ?_⟩
      have ej : j = t := by omega
      subst ej
      rw [eM_trial_9]
      simp (disch := omega) only [l0, l1, l2, l3, l4, l5, l6, l7, l8, l9, l10, l11, l12, l13, l14, l15, l16, l17, l18, l19, l20, l21, l22, l23, l24, l25, l26, l27, l28, l29, l30, l31, l40, l48, l52, l57, l60, l65, l97, l99, l100, l102, l119, l122, l179, l197, l200, l201, l237, l436, l437, pk_mul, nI_add, inb_nI, nclamp, dlt, dle, deq, bif_t, bif_f, bif_nt, bif_nf, aft0, aft1, decide_true, decide_false, Bool.not_true, Bool.not_false, cond_true, cond_false, Nat.add_sub_cancel, Nat.add_one_sub_one, ou9, mo1, nI_MO, OU_lt, OU_ge, Nat.not_lt_zero, Bool.or_false, Bool.or_true, Bool.true_or, Bool.false_or, Bool.and_true, Bool.and_false, Bool.true_and, Bool.false_and, bI_0n, bI_1n, Bool.not_not]
    | succ k ih =>
      intro j hj q
      rw [eM_trial_9]
      simp (disch := omega) only [l0, l1, l2, l3, l4, l5, l6, l7, l8, l9, l10, l11, l12, l13, l14, l15, l16, l17, l18, l19, l20, l21, l22, l23, l24, l25, l26, l27, l28, l29, l30, l31, l40, l48, l52, l57, l60, l65, l97, l99, l100, l102, l119, l122, l179, l197, l200, l201, l237, l436, l437, pk_mul, nI_add, inb_nI, nclamp, dlt, dle, deq, bif_t, bif_f, bif_nt, bif_nf, aft0, aft1, decide_true, decide_false, Bool.not_true, Bool.not_false, cond_true, cond_false, Nat.add_sub_cancel, Nat.add_one_sub_one, ou9, mo1, nI_MO, OU_lt, OU_ge, Nat.not_lt_zero, Bool.or_false, Bool.or_true, Bool.true_or, Bool.false_or, Bool.and_true, Bool.and_false, Bool.true_and, Bool.false_and, bI_0n, bI_1n, Bool.not_not, mQ_mV]
      have hle := trN_le (nc := nc) (np := np) (nb := nb) (n := n) (C := C) (wo := M.2 8) (s := M.1 0) j
      have hle2 : np * j ≤ 20 * 60 := Nat.mul_le_mul hnp (by omega)
      have W := WF_trS (n := n) (C := C) (wo := M.2 8) h j
      obtain ⟨q1, hq1⟩ := cM_goes d Z (mQ (mV (trM nc np nb n C (M.2 8) (M.1 0) M j) 11 (nI (j + 1))) q (trS nc np nb n C (M.2 8) (M.1 0) j)) nc np nb (T + j) n (trN nc np nb n C (M.2 8) (M.1 0) j) w r (fun p => B p + 3 * j) C (by rw [mQ_0]; exact W) (by rw [mQ_0]; exact lawM_congr hl (trS_fr hnp hnb (by omega) j) (fun i hi => trS_fr hnp hnb (by omega) j)) (by omega) (by rw [mQ_2, mV_n (by omega), trM_10]) hw (by rw [mQ_2, mV_n (by omega), trM_2 (by omega) (by omega) (by omega)]; exact h9) hr (by rw [mQ_2, mV_n (by omega), trM_2 (by omega) (by omega) (by omega)]; exact h14)
      have e8 : (mQ (mV (trM nc np nb n C (M.2 8) (M.1 0) M j) 11 (nI (j + 1))) q (trS nc np nb n C (M.2 8) (M.1 0) j)).2 8 = M.2 8 := by
        rw [mQ_2, mV_n (by omega), trM_2 (by omega) (by omega) (by omega)]
      rw [e8, mQ_0, recE_mQ, mQ_m60] at hq1
      rw [hq1, aft1, eM_trial_24]
      simp (disch := omega) only [l0, l1, l2, l3, l4, l5, l6, l7, l8, l9, l10, l11, l12, l13, l14, l15, l16, l17, l18, l19, l20, l21, l22, l23, l24, l25, l26, l27, l28, l29, l30, l31, l40, l48, l52, l57, l60, l65, l97, l99, l100, l102, l119, l122, l179, l197, l200, l201, l237, l436, l437, pk_mul, nI_add, inb_nI, nclamp, dlt, dle, deq, bif_t, bif_f, bif_nt, bif_nf, aft0, aft1, decide_true, decide_false, Bool.not_true, Bool.not_false, cond_true, cond_false, Nat.add_sub_cancel, Nat.add_one_sub_one, ou9, mo1, nI_MO, OU_lt, OU_ge, Nat.not_lt_zero, Bool.or_false, Bool.or_true, Bool.true_or, Bool.false_or, Bool.and_true, Bool.and_false, Bool.true_and, Bool.false_and, bI_0n, bI_1n, Bool.not_not]
      exact ih (j + 1) (by omega) q1
  have e := loop t 0 (by omega) (M.1 6)
  have em : mQ (trM nc np nb n C (M.2 8) (M.1 0) M 0) (M.1 6) (trS nc np nb n C (M.2 8) (M.1 0) 0) = mV M 10 (nI 0) := by
    rw [trM, trS, ← mQ_mV, mQ_id]
  rw [em] at e
  exact e
