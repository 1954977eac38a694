/-! Calls of both: street, person, beast, moves. -/
def pvF (s : Nat → Int32) (n : Int32) : Nat → Nat → Int32
  | 0 => upd s 0 n
  | c + 1 => upd (upd (upd (pvF s n c) (9 + 3 * c) (nI 3)) (9 + 3 * c + 1) (nI 0)) (9 + 3 * c + 2) (nI 0)
theorem pvF_fr {s : Nat → Int32} {n : Int32} {k : Nat} (h0 : k ≠ 0) (h : k < 9 ∨ 99 ≤ k) : ∀ c, c ≤ 30 → pvF s n c k = s k
  | 0, _ => upd_ne h0
  | c + 1, hc => by rw [pvF, upd_ne (by omega), upd_ne (by omega), upd_ne (by omega), pvF_fr h0 h c (by omega)]
theorem pvF_0 (s : Nat → Int32) (n : Int32) : ∀ c, pvF s n c 0 = n
  | 0 => upd_eq _ _ _
  | c + 1 => by rw [pvF, upd_ne (by omega), upd_ne (by omega), upd_ne (by omega), pvF_0 s n c]
theorem pvF_c {s : Nat → Int32} {n : Int32} {e : Nat} : ∀ c, e < c → pvF s n c (9 + 3 * e) = nI 3 ∧ pvF s n c (9 + 3 * e + 1) = nI 0 ∧ pvF s n c (9 + 3 * e + 2) = nI 0
  | 0, h => absurd h (Nat.not_lt_zero e)
  | c + 1, h => by
    rw [pvF]
    by_cases ee : e = c
    · subst ee
      rw [upd_ne (show 9 + 3 * e ≠ 9 + 3 * e + 2 by omega), upd_ne (show 9 + 3 * e ≠ 9 + 3 * e + 1 by omega), upd_eq, upd_ne (show 9 + 3 * e + 1 ≠ 9 + 3 * e + 2 by omega), upd_eq, upd_eq]
      exact ⟨rfl, rfl, rfl⟩
    · have ih := pvF_c (s := s) (n := n) c (show e < c by omega)
      rw [upd_ne (by omega), upd_ne (by omega), upd_ne (by omega), upd_ne (by omega), upd_ne (by omega), upd_ne (by omega), upd_ne (by omega), upd_ne (by omega), upd_ne (by omega)]
      exact ih
theorem cM_paves (d : Nat) (Z : ZT) (M : MS) (n : Int32) : call PGM (d + 1) yM_paves [.ref 91, .int n] (hM Z M) = some (none, hM Z (mA M 0 (pvF (M.1 0) n 30))) := by
  rw [kM_paves, eM_paves_0, eM_paves_7]
  have lp : ∀ k c, c + k = 30 → sem PGM d yM_paves (9, [some (.ref 91), some (.int n), some (.int (nI c))], [], hM Z (mA M 0 (pvF (M.1 0) n c))) = some (none, hM Z (mA M 0 (pvF (M.1 0) n 30))) := by
    intro k
    induction k with
    | zero =>
      intro c hc
      have ec : c = 30 := by omega
      subst ec
      rw [eM_paves_9]
      simp (disch := omega) only [l0, l1, l2, l3, l4, l5, l6, l7, l8, l9, l10, l11, l12, l13, l14, l15, l16, l17, l18, l19, l20, l21, l22, l23, l24, l25, l26, l27, l28, l29, l30, l31, l40, l48, l52, l57, l60, l65, l97, l99, l100, l102, l119, l122, l179, l197, l200, l201, l237, l436, l437, pk_mul, nI_add, inb_nI, nclamp, dlt, dle, deq, bif_t, bif_f, bif_nt, bif_nf, aft0, aft1, decide_true, decide_false, Bool.not_true, Bool.not_false, cond_true, cond_false, Nat.add_sub_cancel, Nat.add_one_sub_one, ou9, mo1, nI_MO, OU_lt, OU_ge, Nat.not_lt_zero, Bool.or_false, Bool.or_true, Bool.true_or, Bool.false_or, Bool.and_true, Bool.and_false, Bool.true_and, Bool.false_and, bI_0n, bI_1n, Bool.not_not]
    | succ k ih =>
      intro c hc
      have ih' := ih (c + 1) (by omega)
      rw [pvF] at ih'
      rw [eM_paves_9]
      simp (disch := omega) only [l0, l1, l2, l3, l4, l5, l6, l7, l8, l9, l10, l11, l12, l13, l14, l15, l16, l17, l18, l19, l20, l21, l22, l23, l24, l25, l26, l27, l28, l29, l30, l31, l40, l48, l52, l57, l60, l65, l97, l99, l100, l102, l119, l122, l179, l197, l200, l201, l237, l436, l437, pk_mul, nI_add, inb_nI, nclamp, dlt, dle, deq, bif_t, bif_f, bif_nt, bif_nf, aft0, aft1, decide_true, decide_false, Bool.not_true, Bool.not_false, cond_true, cond_false, Nat.add_sub_cancel, Nat.add_one_sub_one, ou9, mo1, nI_MO, OU_lt, OU_ge, Nat.not_lt_zero, Bool.or_false, Bool.or_true, Bool.true_or, Bool.false_or, Bool.and_true, Bool.and_false, Bool.true_and, Bool.false_and, bI_0n, bI_1n, Bool.not_not, mA_s, mA_mA]
      rw [eM_paves_27]
      simp (disch := omega) only [l0, l1, l2, l3, l4, l5, l6, l7, l8, l9, l10, l11, l12, l13, l14, l15, l16, l17, l18, l19, l20, l21, l22, l23, l24, l25, l26, l27, l28, l29, l30, l31, l40, l48, l52, l57, l60, l65, l97, l99, l100, l102, l119, l122, l179, l197, l200, l201, l237, l436, l437, pk_mul, nI_add, inb_nI, nclamp, dlt, dle, deq, bif_t, bif_f, bif_nt, bif_nf, aft0, aft1, decide_true, decide_false, Bool.not_true, Bool.not_false, cond_true, cond_false, Nat.add_sub_cancel, Nat.add_one_sub_one, ou9, mo1, nI_MO, OU_lt, OU_ge, Nat.not_lt_zero, Bool.or_false, Bool.or_true, Bool.true_or, Bool.false_or, Bool.and_true, Bool.and_false, Bool.true_and, Bool.false_and, bI_0n, bI_1n, Bool.not_not, mA_s, mA_mA]
      rw [eM_paves_41]
      simp (disch := omega) only [l0, l1, l2, l3, l4, l5, l6, l7, l8, l9, l10, l11, l12, l13, l14, l15, l16, l17, l18, l19, l20, l21, l22, l23, l24, l25, l26, l27, l28, l29, l30, l31, l40, l48, l52, l57, l60, l65, l97, l99, l100, l102, l119, l122, l179, l197, l200, l201, l237, l436, l437, pk_mul, nI_add, inb_nI, nclamp, dlt, dle, deq, bif_t, bif_f, bif_nt, bif_nf, aft0, aft1, decide_true, decide_false, Bool.not_true, Bool.not_false, cond_true, cond_false, Nat.add_sub_cancel, Nat.add_one_sub_one, ou9, mo1, nI_MO, OU_lt, OU_ge, Nat.not_lt_zero, Bool.or_false, Bool.or_true, Bool.true_or, Bool.false_or, Bool.and_true, Bool.and_false, Bool.true_and, Bool.false_and, bI_0n, bI_1n, Bool.not_not, mA_s, mA_mA]
      rw [eM_paves_55, nI_1]
      exact ih'
  exact lp 30 0 (by omega)
def spF (s : Nat → Int32) (n : Int32) : Nat → Nat → Int32
  | 0 => s
  | p + 1 => upd (spF s n p) (99 + 4 * p + 1) (bif decide (s (99 + 4 * p + 1) < n) then s (99 + 4 * p + 1) else OU)
def sbF (s : Nat → Int32) (n : Int32) : Nat → Nat → Int32
  | 0 => s
  | b + 1 => upd (sbF s n b) (179 + 3 * b) (bif decide (s (179 + 3 * b) < n) then s (179 + 3 * b) else OU)
theorem spF_fr {s : Nat → Int32} {n : Int32} {k : Nat} : ∀ p, (∀ q, q < p → k ≠ 99 + 4 * q + 1) → spF s n p k = s k
  | 0, _ => rfl
  | p + 1, h => by rw [spF, upd_ne (h p (by omega)), spF_fr p (fun q hq => h q (by omega))]
theorem sbF_fr {s : Nat → Int32} {n : Int32} {k : Nat} : ∀ b, (∀ q, q < b → k ≠ 179 + 3 * q) → sbF s n b k = s k
  | 0, _ => rfl
  | b + 1, h => by rw [sbF, upd_ne (h b (by omega)), sbF_fr b (fun q hq => h q (by omega))]
theorem spF_at {s : Nat → Int32} {n : Int32} {q : Nat} : ∀ p, q < p → spF s n p (99 + 4 * q + 1) = bif decide (s (99 + 4 * q + 1) < n) then s (99 + 4 * q + 1) else OU
  | 0, h => absurd h (Nat.not_lt_zero q)
  | p + 1, h => by
    rw [spF]
    by_cases e : q = p
    · subst e; rw [upd_eq]
    · rw [upd_ne (by omega), spF_at p (by omega)]
theorem sbF_at {s : Nat → Int32} {n : Int32} {q : Nat} : ∀ b, q < b → sbF s n b (179 + 3 * q) = bif decide (s (179 + 3 * q) < n) then s (179 + 3 * q) else OU
  | 0, h => absurd h (Nat.not_lt_zero q)
  | b + 1, h => by
    rw [sbF]
    by_cases e : q = b
    · subst e; rw [upd_eq]
    · rw [upd_ne (by omega), sbF_at b (by omega)]
theorem mS_people (d : Nat) (Z : ZT) (M : MS) (s : Nat → Int32) (n : Int32) (np : Nat) (hnp : np ≤ 20) (h1 : s 1 = nI np) : ∀ k p, p + k = np → sem PGM (d + 1) yM_street (23, [some (.ref 91), some (.int n), some (.int (nI p))], [], hM Z (mA M 0 (spF s n p))) = sem PGM (d + 1) yM_street (73, [some (.ref 91), some (.int n), some (.int (nI 0))], [], hM Z (mA M 0 (spF s n np))) := by
  intro k
  induction k with
  | zero =>
    intro p hp
    have e : spF s n p 1 = nI np := (spF_fr p (fun q hq => by omega)).trans h1
    rw [eM_street_23, mA_s, e, show p = np by omega]
    simp (disch := omega) only [l0, l1, l2, l3, l4, l5, l6, l7, l8, l9, l10, l11, l12, l13, l14, l15, l16, l17, l18, l19, l20, l21, l22, l23, l24, l25, l26, l27, l28, l29, l30, l31, l40, l48, l52, l57, l60, l65, l97, l99, l100, l102, l119, l122, l179, l197, l200, l201, l237, l436, l437, pk_mul, nI_add, inb_nI, nclamp, dlt, dle, deq, bif_t, bif_f, bif_nt, bif_nf, aft0, aft1, decide_true, decide_false, Bool.not_true, Bool.not_false, cond_true, cond_false, Nat.add_sub_cancel, Nat.add_one_sub_one, ou9, mo1, nI_MO, OU_lt, OU_ge, Nat.not_lt_zero, Bool.or_false, Bool.or_true, Bool.true_or, Bool.false_or, Bool.and_true, Bool.and_false, Bool.true_and, Bool.false_and, bI_0n, bI_1n, Bool.not_not]
  | succ k ih =>
    intro p hp
    have e : spF s n p 1 = nI np := (spF_fr p (fun q hq => by omega)).trans h1
    have e2 : spF s n p (99 + 4 * p + 1) = s (99 + 4 * p + 1) := spF_fr p (fun q hq => by omega)
    have ih' := ih (p + 1) (by omega)
    rw [spF] at ih'
    rw [eM_street_23, mA_s, e, cM_whereIs d Z _ p (by omega), aft1, mA_s, e2, eM_street_50, cM_whereIs d Z _ p (by omega), aft1, mA_s, e2, eM_street_64, mA_s, mA_mA, mA_mA]
    simp (disch := omega) only [l0, l1, l2, l3, l4, l5, l6, l7, l8, l9, l10, l11, l12, l13, l14, l15, l16, l17, l18, l19, l20, l21, l22, l23, l24, l25, l26, l27, l28, l29, l30, l31, l40, l48, l52, l57, l60, l65, l97, l99, l100, l102, l119, l122, l179, l197, l200, l201, l237, l436, l437, pk_mul, nI_add, inb_nI, nclamp, dlt, dle, deq, bif_t, bif_f, bif_nt, bif_nf, aft0, aft1, decide_true, decide_false, Bool.not_true, Bool.not_false, cond_true, cond_false, Nat.add_sub_cancel, Nat.add_one_sub_one, ou9, mo1, nI_MO, OU_lt, OU_ge, Nat.not_lt_zero, Bool.or_false, Bool.or_true, Bool.true_or, Bool.false_or, Bool.and_true, Bool.and_false, Bool.true_and, Bool.false_and, bI_0n, bI_1n, Bool.not_not]
    rw [eM_street_65, eM_street_65, nI_1]
    cases hd : decide (s (99 + 4 * p + 1) < n) <;> rw [hd] at ih' <;> exact ih'
theorem mS_beasts (d : Nat) (Z : ZT) (M : MS) (s : Nat → Int32) (n : Int32) (nb : Nat) (hnb : nb ≤ 6) (h2 : s 2 = nI nb) : ∀ k b, b + k = nb → sem PGM (d + 1) yM_street (73, [some (.ref 91), some (.int n), some (.int (nI b))], [], hM Z (mA M 0 (sbF s n b))) = some (some (.int n), hM Z (mA M 0 (sbF s n nb))) := by
  intro k
  induction k with
  | zero =>
    intro b hb
    have e : sbF s n b 2 = nI nb := (sbF_fr b (fun q hq => by omega)).trans h2
    rw [eM_street_73, mA_s, e, show b = nb by omega]
    simp (disch := omega) only [l0, l1, l2, l3, l4, l5, l6, l7, l8, l9, l10, l11, l12, l13, l14, l15, l16, l17, l18, l19, l20, l21, l22, l23, l24, l25, l26, l27, l28, l29, l30, l31, l40, l48, l52, l57, l60, l65, l97, l99, l100, l102, l119, l122, l179, l197, l200, l201, l237, l436, l437, pk_mul, nI_add, inb_nI, nclamp, dlt, dle, deq, bif_t, bif_f, bif_nt, bif_nf, aft0, aft1, decide_true, decide_false, Bool.not_true, Bool.not_false, cond_true, cond_false, Nat.add_sub_cancel, Nat.add_one_sub_one, ou9, mo1, nI_MO, OU_lt, OU_ge, Nat.not_lt_zero, Bool.or_false, Bool.or_true, Bool.true_or, Bool.false_or, Bool.and_true, Bool.and_false, Bool.true_and, Bool.false_and, bI_0n, bI_1n, Bool.not_not]
  | succ k ih =>
    intro b hb
    have e : sbF s n b 2 = nI nb := (sbF_fr b (fun q hq => by omega)).trans h2
    have e2 : sbF s n b (179 + 3 * b) = s (179 + 3 * b) := sbF_fr b (fun q hq => by omega)
    have ih' := ih (b + 1) (by omega)
    rw [sbF] at ih'
    rw [eM_street_73, mA_s, e, cM_whereBeast d Z _ b (by omega), aft1, mA_s, e2, eM_street_99, cM_whereBeast d Z _ b (by omega), aft1, mA_s, e2, eM_street_113, mA_s, mA_mA, mA_mA]
    simp (disch := omega) only [l0, l1, l2, l3, l4, l5, l6, l7, l8, l9, l10, l11, l12, l13, l14, l15, l16, l17, l18, l19, l20, l21, l22, l23, l24, l25, l26, l27, l28, l29, l30, l31, l40, l48, l52, l57, l60, l65, l97, l99, l100, l102, l119, l122, l179, l197, l200, l201, l237, l436, l437, pk_mul, nI_add, inb_nI, nclamp, dlt, dle, deq, bif_t, bif_f, bif_nt, bif_nf, aft0, aft1, decide_true, decide_false, Bool.not_true, Bool.not_false, cond_true, cond_false, Nat.add_sub_cancel, Nat.add_one_sub_one, ou9, mo1, nI_MO, OU_lt, OU_ge, Nat.not_lt_zero, Bool.or_false, Bool.or_true, Bool.true_or, Bool.false_or, Bool.and_true, Bool.and_false, Bool.true_and, Bool.false_and, bI_0n, bI_1n, Bool.not_not]
    rw [eM_street_114, eM_street_114, nI_1]
    cases hd : decide (s (179 + 3 * b) < n) <;> rw [hd] at ih' <;> exact ih'
def stF (s : Nat → Int32) (n : Int32) (np nb : Nat) : Nat → Int32 := sbF (spF (pvF s n 30) n np) n nb
-- the class's
def flF (f : Nat → Int32) (v : Int32) (c : Nat) : Nat → Int32 := fun k => if k < c then v else f k
theorem flF_0 (f : Nat → Int32) (v : Int32) : flF f v 0 = f := by funext k; simp [flF]
theorem flF_s (f : Nat → Int32) (v : Int32) (c : Nat) : upd (flF f v c) c v = flF f v (c + 1) := by
  funext k
  by_cases h : k = c
  · subst h; simp [upd, flF]
  · by_cases h' : k < c
    · simp [upd, flF, h, h', show k < c + 1 by omega]
    · simp [upd, flF, h, h', show ¬ k < c + 1 by omega]
theorem flF_lt {f : Nat → Int32} {v : Int32} {c k : Nat} (h : k < c) : flF f v c k = v := by simp [flF, h]
theorem lay_in (d : Nat) {o : Nat} (ho : o = 43 ∨ o = 59) (S : SS) (Z : RT) (n : Int32) (w : Nat) (hw : w < 3) : ∀ k c, c + k = 30 → sem PGM d yS_lay (14, [some (.ref o), some (.int n), some (.int (nI w)), some (.int (nI c))], [], hS o (sA S w (flF (S.1 w) (gvA 3 w) c)) Z) = sem PGM d yS_lay (7, [some (.ref o), some (.int n), some (.int (nI (w + 1))), some (.int (nI 30))], [], hS o (sA S w (flF (S.1 w) (gvA 3 w) 30)) Z) := by
  intro k
  induction k with
  | zero =>
    intro c hc
    have ec : c = 30 := by omega
    subst ec
    rw [eS_lay_14 d o ho]
    simp (disch := omega) only [l0, l1, l2, l3, l4, l5, l6, l7, l8, l9, l10, l11, l12, l13, l14, l15, l16, l17, l18, l19, l20, l21, l22, l23, l24, l25, l26, l27, l28, l29, l30, l31, l40, l48, l52, l57, l60, l65, l97, l99, l100, l102, l119, l122, l179, l197, l200, l201, l237, l436, l437, pk_mul, nI_add, inb_nI, nclamp, dlt, dle, deq, bif_t, bif_f, bif_nt, bif_nf, aft0, aft1, decide_true, decide_false, Bool.not_true, Bool.not_false, cond_true, cond_false, Nat.add_sub_cancel, Nat.add_one_sub_one, ou9, mo1, nI_MO, OU_lt, OU_ge, Nat.not_lt_zero, Bool.or_false, Bool.or_true, Bool.true_or, Bool.false_or, Bool.and_true, Bool.and_false, Bool.true_and, Bool.false_and, bI_0n, bI_1n, Bool.not_not]
  | succ k ih =>
    intro c hc
    have ih' := ih (c + 1) (by omega)
    rw [← flF_s] at ih'
    rw [eS_lay_14 d o ho]
    have e : w = 0 ∨ w = 1 ∨ w = 2 := by omega
    rcases e with e | e | e <;> subst e
    · simp (disch := omega) only [l0, l1, l2, l3, l4, l5, l6, l7, l8, l9, l10, l11, l12, l13, l14, l15, l16, l17, l18, l19, l20, l21, l22, l23, l24, l25, l26, l27, l28, l29, l30, l31, l40, l48, l52, l57, l60, l65, l97, l99, l100, l102, l119, l122, l179, l197, l200, l201, l237, l436, l437, pk_mul, nI_add, inb_nI, nclamp, dlt, dle, deq, bif_t, bif_f, bif_nt, bif_nf, aft0, aft1, decide_true, decide_false, Bool.not_true, Bool.not_false, cond_true, cond_false, Nat.add_sub_cancel, Nat.add_one_sub_one, ou9, mo1, nI_MO, OU_lt, OU_ge, Nat.not_lt_zero, Bool.or_false, Bool.or_true, Bool.true_or, Bool.false_or, Bool.and_true, Bool.and_false, Bool.true_and, Bool.false_and, bI_0n, bI_1n, Bool.not_not, sA_s, sA_sA]
      rw [eS_lay_33 d o ho, nI_1]
      exact ih'
    · simp (disch := omega) only [l0, l1, l2, l3, l4, l5, l6, l7, l8, l9, l10, l11, l12, l13, l14, l15, l16, l17, l18, l19, l20, l21, l22, l23, l24, l25, l26, l27, l28, l29, l30, l31, l40, l48, l52, l57, l60, l65, l97, l99, l100, l102, l119, l122, l179, l197, l200, l201, l237, l436, l437, pk_mul, nI_add, inb_nI, nclamp, dlt, dle, deq, bif_t, bif_f, bif_nt, bif_nf, aft0, aft1, decide_true, decide_false, Bool.not_true, Bool.not_false, cond_true, cond_false, Nat.add_sub_cancel, Nat.add_one_sub_one, ou9, mo1, nI_MO, OU_lt, OU_ge, Nat.not_lt_zero, Bool.or_false, Bool.or_true, Bool.true_or, Bool.false_or, Bool.and_true, Bool.and_false, Bool.true_and, Bool.false_and, bI_0n, bI_1n, Bool.not_not, sA_s, sA_sA]
      rw [eS_lay_33 d o ho, nI_1]
      exact ih'
    · simp (disch := omega) only [l0, l1, l2, l3, l4, l5, l6, l7, l8, l9, l10, l11, l12, l13, l14, l15, l16, l17, l18, l19, l20, l21, l22, l23, l24, l25, l26, l27, l28, l29, l30, l31, l40, l48, l52, l57, l60, l65, l97, l99, l100, l102, l119, l122, l179, l197, l200, l201, l237, l436, l437, pk_mul, nI_add, inb_nI, nclamp, dlt, dle, deq, bif_t, bif_f, bif_nt, bif_nf, aft0, aft1, decide_true, decide_false, Bool.not_true, Bool.not_false, cond_true, cond_false, Nat.add_sub_cancel, Nat.add_one_sub_one, ou9, mo1, nI_MO, OU_lt, OU_ge, Nat.not_lt_zero, Bool.or_false, Bool.or_true, Bool.true_or, Bool.false_or, Bool.and_true, Bool.and_false, Bool.true_and, Bool.false_and, bI_0n, bI_1n, Bool.not_not, sA_s, sA_sA]
      rw [eS_lay_33 d o ho, nI_1]
      exact ih'
def lay1 (S : SS) (n : Int32) : SS := sA (sA (sA (sV S 0 n) 0 (flF (S.1 0) (gvA 3 0) 30)) 1 (flF (S.1 1) (gvA 3 1) 30)) 2 (flF (S.1 2) (gvA 3 2) 30)
theorem lay_tr (d : Nat) {o : Nat} (ho : o = 43 ∨ o = 59) (S : SS) (Z : RT) (n : Int32) : ∃ u3, call PGM (d + 1) yS_lay [.ref o, .int n] (hS o S Z) = sem PGM d yS_lay (47, [some (.ref o), some (.int n), some (.int (nI 0)), u3], [], hS o (lay1 S n) Z) := by
  refine ⟨some (.int (nI 30)), ?_⟩
  rw [kS_lay, eS_lay_0 d o ho, eS_lay_5 d o ho, eS_lay_7 d o ho]
  have z0 : decide ((2 : Int32) < 0) = false := by decide
  have i0 := lay_in d ho (sV S 0 n) Z n 0 (by omega) 30 0 (by omega)
  rw [flF_0, sA_id] at i0
  have i0' : sem PGM d yS_lay (14, [some (.ref o), some (.int n), some (.int 0), some (.int 0)], [], hS o (sV S 0 n) Z) = _ := i0
  rw [z0, cond_false, i0', eS_lay_7 d o ho]
  have z1 : decide ((2 : Int32) < nI (0 + 1)) = false := by decide
  have i1 := lay_in d ho (sA (sV S 0 n) 0 (flF ((sV S 0 n).1 0) (gvA 3 0) 30)) Z n 1 (by omega) 30 0 (by omega)
  rw [flF_0, sA_id] at i1
  have i1' : sem PGM d yS_lay (14, [some (.ref o), some (.int n), some (.int (nI (0 + 1))), some (.int 0)], [], hS o (sA (sV S 0 n) 0 (flF ((sV S 0 n).1 0) (gvA 3 0) 30)) Z) = _ := i1
  rw [z1, cond_false, i1', eS_lay_7 d o ho]
  have z2 : decide ((2 : Int32) < nI (1 + 1)) = false := by decide
  have i2 := lay_in d ho (sA (sA (sV S 0 n) 0 (flF ((sV S 0 n).1 0) (gvA 3 0) 30)) 1 (flF ((sA (sV S 0 n) 0 (flF ((sV S 0 n).1 0) (gvA 3 0) 30)).1 1) (gvA 3 1) 30)) Z n 2 (by omega) 30 0 (by omega)
  rw [flF_0, sA_id] at i2
  have i2' : sem PGM d yS_lay (14, [some (.ref o), some (.int n), some (.int (nI (1 + 1))), some (.int 0)], [], hS o (sA (sA (sV S 0 n) 0 (flF ((sV S 0 n).1 0) (gvA 3 0) 30)) 1 (flF ((sA (sV S 0 n) 0 (flF ((sV S 0 n).1 0) (gvA 3 0) 30)).1 1) (gvA 3 1) 30)) Z) = _ := i2
  rw [z2, cond_false, i2', eS_lay_7 d o ho]
  have z3 : decide ((2 : Int32) < nI (2 + 1)) = true := by decide
  rw [z3, cond_true]
  rfl
theorem lay1_RS {S : SS} {s : Nat → Int32} {np nb : Nat} (n : Int32) (h : RS S s np nb) (hnp : np ≤ 20) (hnb : nb ≤ 6) : RS (lay1 S n) (pvF s n 30) np nb := by
  obtain ⟨hV, hC, hP, hB, hR, hN⟩ := h
  have ao : ∀ j, j ≠ 0 → j ≠ 1 → j ≠ 2 → (lay1 S n).1 j = S.1 j := fun j h0 h1 h2 => by rw [lay1, sA_n h2, sA_n h1, sA_n h0, sV_1]
  have fr : ∀ k, k ≠ 0 → (k < 9 ∨ 99 ≤ k) → pvF s n 30 k = s k := fun k h0 h => pvF_fr h0 h 30 (by omega)
  refine ⟨fun k hk => ?_, fun c hc => ?_, fun p hp => ?_, fun b hb => ?_, fun k hk => ?_, fun c hc => ?_⟩
  · by_cases e : k = 0
    · subst e
      rw [pvF_0]
      show (sV S 0 n).2.1 0 = n
      rw [sV_s]
    · rw [fr k e (by omega)]
      show (sV S 0 n).2.1 k = s k
      rw [sV_n e]
      exact hV k hk
  · obtain ⟨q0, q1, q2⟩ := pvF_c (s := s) (n := n) 30 hc
    rw [q0, q1, q2]
    refine ⟨?_, ?_, ?_⟩
    · rw [lay1, sA_n (by omega), sA_n (by omega), sA_s, flF_lt hc]
      rfl
    · rw [lay1, sA_n (by omega), sA_s, flF_lt hc]
      rfl
    · rw [lay1, sA_s, flF_lt hc]
      rfl
  · rw [ao 5 (by omega) (by omega) (by omega), ao 6 (by omega) (by omega) (by omega), ao 7 (by omega) (by omega) (by omega), ao 8 (by omega) (by omega) (by omega), fr _ (by omega) (by omega), fr _ (by omega) (by omega), fr _ (by omega) (by omega), fr _ (by omega) (by omega)]
    exact hP p hp
  · rw [ao 9 (by omega) (by omega) (by omega), ao 10 (by omega) (by omega) (by omega), ao 11 (by omega) (by omega) (by omega), fr _ (by omega) (by omega), fr _ (by omega) (by omega), fr _ (by omega) (by omega)]
    exact hB b hb
  · rw [ao 12 (by omega) (by omega) (by omega), fr _ (by omega) (by omega)]
    exact hR k hk
  · rw [ao 3 (by omega) (by omega) (by omega), ao 4 (by omega) (by omega) (by omega), crN_congr (fun q hq => fr _ (by omega) (by omega)), faN_congr (fun q hq => fr _ (by omega) (by omega)) (fun q hq => fr _ (by omega) (by omega))]
    exact hN c hc
theorem cS_lay (d : Nat) {o : Nat} (ho : o = 43 ∨ o = 59) {S : SS} (Z : RT) {s : Nat → Int32} {nc np nb T : Nat} {B : Nat → Nat} (n : Int32) (h : RS S s np nb) (W : WF s nc np nb T B) : ∃ S', call PGM (d + 3) yS_lay [.ref o, .int n] (hS o S Z) = some (none, hS o S' Z) ∧ RS S' (stF s n np nb) np nb ∧ sF S S' := by
  have hnb : nb ≤ 6 := W.1.2.2.1.2
  have hnp := W.1.2.1.2
  have hnc := W.1.1.2.2
  have fr : ∀ k, k ≠ 0 → (k < 9 ∨ 99 ≤ k) → pvF s n 30 k = s k := fun k h0 h => pvF_fr h0 h 30 (by omega)
  obtain ⟨u3, l1'⟩ := lay_tr (d + 2) ho S Z n
  rw [l1']
  have pp : ∀ m p, p + m = np → ∀ S1 u3, RS S1 (spF (pvF s n 30) n p) np nb → ∃ S2, sem PGM (d + 2) yS_lay (47, [some (.ref o), some (.int n), some (.int (nI p)), u3], [], hS o S1 Z) = sem PGM (d + 2) yS_lay (80, [some (.ref o), some (.int n), some (.int (nI 0)), u3], [], hS o S2 Z) ∧ RS S2 (spF (pvF s n 30) n np) np nb ∧ sF S1 S2 := by
    intro m
    induction m with
    | zero =>
      intro p hp S1 u3 R1
      have ep : p = np := by omega
      subst ep
      have e1 : S1.2.1 1 = nI p := (R1.1 1 (by omega)).trans ((spF_fr p (fun q hq => by omega)).trans ((fr 1 (by omega) (by omega)).trans W.1.2.1.1))
      refine ⟨S1, ?_, R1, sF_refl S1⟩
      rw [eS_lay_47 (d + 2) o ho, e1]
      simp (disch := omega) only [l0, l1, l2, l3, l4, l5, l6, l7, l8, l9, l10, l11, l12, l13, l14, l15, l16, l17, l18, l19, l20, l21, l22, l23, l24, l25, l26, l27, l28, l29, l30, l31, l40, l48, l52, l57, l60, l65, l97, l99, l100, l102, l119, l122, l179, l197, l200, l201, l237, l436, l437, pk_mul, nI_add, inb_nI, nclamp, dlt, dle, deq, bif_t, bif_f, bif_nt, bif_nf, aft0, aft1, decide_true, decide_false, Bool.not_true, Bool.not_false, cond_true, cond_false, Nat.add_sub_cancel, Nat.add_one_sub_one, ou9, mo1, nI_MO, OU_lt, OU_ge, Nat.not_lt_zero, Bool.or_false, Bool.or_true, Bool.true_or, Bool.false_or, Bool.and_true, Bool.and_false, Bool.true_and, Bool.false_and, bI_0n, bI_1n, Bool.not_not]
    | succ m ih =>
      intro p hp S1 u3 R1
      have e1 : S1.2.1 1 = nI np := (R1.1 1 (by omega)).trans ((spF_fr p (fun q hq => by omega)).trans ((fr 1 (by omega) (by omega)).trans W.1.2.1.1))
      obtain ⟨k, k1, k7, hk⟩ := WF_upk W (show p < np by omega)
      have i5 : spF (pvF s n 30) n p (99 + 4 * p) = nI k := (spF_fr p (fun q hq => by omega)).trans ((fr _ (by omega) (by omega)).trans hk)
      have i6 : spF (pvF s n 30) n p (99 + 4 * p + 1) = s (99 + 4 * p + 1) := (spF_fr p (fun q hq => by omega)).trans (fr _ (by omega) (by omega))
      have p6 : S1.1 6 p = s (99 + 4 * p + 1) := (R1.2.2.1 p (by omega)).2.1.trans i6
      have ih' := ih (p + 1) (by omega)
      rw [spF, fr (99 + 4 * p + 1) (by omega) (by omega)] at ih'
      rw [eS_lay_47 (d + 2) o ho, e1, inb_nI (by omega), nclamp (by omega), p6]
      have p20 : decide (p < 20) = true := by simp; omega
      have pn : decide (nI np ≤ nI p) = false := by rw [dle (by omega) (by omega)]; simp; omega
      rw [p20, pn, cond_false, cond_true, nI_1]
      cases hd : decide (s (99 + 4 * p + 1) < n) with
      | true =>
        rw [hd, cond_true] at ih'
        rw [cond_true]
        refine ih' S1 u3 ?_
        rw [← i6, upd_id]
        exact R1
      | false =>
        rw [hd, cond_false] at ih'
        obtain ⟨S2, s1, s2, s3⟩ := cS_seat d ho Z (x := OU) R1 (show p < np by omega) hnp (show k < 9 by omega) i5 (by rw [i6]; exact okQ_30 (W.2.2.1 p (by omega)).2.1 hnc) (Or.inl rfl)
        have s1' : call PGM (d + 2) yS_seat [.ref o, .int (nI p), .int (-9)] (hS o S1 Z) = some (none, hS o S2 Z) := s1
        rw [cond_false, s1', aft0, eS_lay_72 (d + 2) o ho, nI_1]
        exact (ih' S2 u3 s2).imp (fun S' hS' => ⟨hS'.1, hS'.2.1, sF_trans s3 hS'.2.2⟩)
  have bb : ∀ m b, b + m = nb → ∀ S1, RS S1 (sbF (spF (pvF s n 30) n np) n b) np nb → ∃ S2, sem PGM (d + 2) yS_lay (80, [some (.ref o), some (.int n), some (.int (nI b)), u3], [], hS o S1 Z) = some (none, hS o S2 Z) ∧ RS S2 (sbF (spF (pvF s n 30) n np) n nb) np nb ∧ sF S1 S2 := by
    intro m
    induction m with
    | zero =>
      intro b hb S1 R1
      have eb : b = nb := by omega
      subst eb
      have e2 : S1.2.1 2 = nI b := (R1.1 2 (by omega)).trans ((sbF_fr b (fun q hq => by omega)).trans ((spF_fr np (fun q hq => by omega)).trans ((fr 2 (by omega) (by omega)).trans W.1.2.2.1.1)))
      refine ⟨S1, ?_, R1, sF_refl S1⟩
      rw [eS_lay_80 (d + 2) o ho, e2]
      simp (disch := omega) only [l0, l1, l2, l3, l4, l5, l6, l7, l8, l9, l10, l11, l12, l13, l14, l15, l16, l17, l18, l19, l20, l21, l22, l23, l24, l25, l26, l27, l28, l29, l30, l31, l40, l48, l52, l57, l60, l65, l97, l99, l100, l102, l119, l122, l179, l197, l200, l201, l237, l436, l437, pk_mul, nI_add, inb_nI, nclamp, dlt, dle, deq, bif_t, bif_f, bif_nt, bif_nf, aft0, aft1, decide_true, decide_false, Bool.not_true, Bool.not_false, cond_true, cond_false, Nat.add_sub_cancel, Nat.add_one_sub_one, ou9, mo1, nI_MO, OU_lt, OU_ge, Nat.not_lt_zero, Bool.or_false, Bool.or_true, Bool.true_or, Bool.false_or, Bool.and_true, Bool.and_false, Bool.true_and, Bool.false_and, bI_0n, bI_1n, Bool.not_not]
    | succ m ih =>
      intro b hb S1 R1
      have e2 : S1.2.1 2 = nI nb := (R1.1 2 (by omega)).trans ((sbF_fr b (fun q hq => by omega)).trans ((spF_fr np (fun q hq => by omega)).trans ((fr 2 (by omega) (by omega)).trans W.1.2.2.1.1)))
      have i9 : sbF (spF (pvF s n 30) n np) n b (179 + 3 * b) = s (179 + 3 * b) := (sbF_fr b (fun q hq => by omega)).trans ((spF_fr np (fun q hq => by omega)).trans (fr _ (by omega) (by omega)))
      have b9 : S1.1 9 b = s (179 + 3 * b) := (R1.2.2.2.1 b (by omega)).1.trans i9
      have ih' := ih (b + 1) (by omega)
      rw [sbF, (spF_fr np (fun q hq => by omega)).trans (fr (179 + 3 * b) (by omega) (by omega))] at ih'
      rw [eS_lay_80 (d + 2) o ho, e2, inb_nI (by omega), nclamp (by omega), b9]
      have p6 : decide (b < 6) = true := by simp; omega
      have pn : decide (nI nb ≤ nI b) = false := by rw [dle (by omega) (by omega)]; simp; omega
      rw [p6, pn, cond_false, cond_true, cond_true, eS_lay_106 (d + 2) o ho, eS_lay_106 (d + 2) o ho, nI_1]
      cases hd : decide (s (179 + 3 * b) < n) with
      | true =>
        rw [hd, cond_true] at ih'
        rw [cond_true]
        refine ih' S1 ?_
        rw [← i9, upd_id]
        exact R1
      | false =>
        rw [hd, cond_false] at ih'
        rw [cond_false]
        exact (ih' _ (RS_bp R1 hnp hnb (by omega))).imp (fun S' hS' => ⟨hS'.1, hS'.2.1, sF_trans ⟨rfl, rfl⟩ hS'.2.2⟩)
  obtain ⟨S2, a1, a2, a3⟩ := pp np 0 (by omega) (lay1 S n) u3 (lay1_RS n h hnp hnb)
  obtain ⟨S3, b1, b2, b3⟩ := bb nb 0 (by omega) S2 a2
  exact ⟨S3, a1.trans b1, b2, sF_trans (sF_trans ⟨rfl, rfl⟩ a3) b3⟩
theorem okQ_cut {nc n : Nat} {x : Int32} (h : okQ nc x) (hc : nc ≤ 30) (hn : n ≤ 30) : okQ n (bif decide (x < nI n) then x else OU) := by
  rcases h with h | ⟨c, hc', h⟩
  · rw [h]
    cases decide (OU < nI n) <;> exact Or.inl rfl
  · rw [h, dlt (by omega) (by omega)]
    by_cases hh : c < n
    · rw [bif_t hh]; exact Or.inr ⟨c, hh, rfl⟩
    · rw [bif_f hh]; exact Or.inl rfl
theorem WF_st {s : Nat → Int32} {nc np nb T n : Nat} {B : Nat → Nat} (W : WF s nc np nb T B) (h2 : 2 ≤ n) (h30 : n ≤ 30) : WF (stF s (nI n) np nb) n np nb T B := by
  have hnb : nb ≤ 6 := W.1.2.2.1.2
  have hnp := W.1.2.1.2
  have hnc := W.1.1.2.2
  have fr : ∀ k, k ≠ 0 → (k < 9 ∨ 99 ≤ k) → (∀ q, q < np → k ≠ 99 + 4 * q + 1) → (∀ q, q < nb → k ≠ 179 + 3 * q) → stF s (nI n) np nb k = s k := fun k h0 h hp hb => (sbF_fr nb hb).trans ((spF_fr np hp).trans (pvF_fr h0 h 30 (by omega)))
  obtain ⟨⟨a, b, c, ⟨t, ht, et⟩, f1, f2, f3⟩, g, i, j⟩ := W
  refine ⟨⟨⟨?_, h2, h30⟩, ?_, ?_, ⟨t, ht, ?_⟩, ?_, ?_, ?_⟩, fun e he => ?_, fun p hp => ?_, fun b hb => ?_⟩
  · rw [stF, sbF_fr nb (fun q hq => by omega), spF_fr np (fun q hq => by omega), pvF_0]
  · rw [fr 1 (by omega) (by omega) (fun q hq => by omega) (fun q hq => by omega)]; exact b
  · rw [fr 2 (by omega) (by omega) (fun q hq => by omega) (fun q hq => by omega)]; exact c
  · rw [fr 3 (by omega) (by omega) (fun q hq => by omega) (fun q hq => by omega)]; exact et
  · rw [fr 5 (by omega) (by omega) (fun q hq => by omega) (fun q hq => by omega)]; exact f1
  · rw [fr 6 (by omega) (by omega) (fun q hq => by omega) (fun q hq => by omega)]; exact f2
  · rw [fr 7 (by omega) (by omega) (fun q hq => by omega) (fun q hq => by omega)]; exact f3
  · obtain ⟨q0, q1, q2⟩ := pvF_c (s := s) (n := nI n) 30 he
    have low : ∀ k, 9 ≤ k → k < 99 → stF s (nI n) np nb k = pvF s (nI n) 30 k := fun k h1 h2 => (sbF_fr nb (fun q hq => by omega)).trans (spF_fr np (fun q hq => by omega))
    unfold wfC
    rw [low _ (by omega) (by omega), low _ (by omega) (by omega), low _ (by omega) (by omega), q0, q1, q2]
    exact ⟨⟨3, by omega, by omega, rfl⟩, ⟨0, by omega, rfl⟩, ⟨0, by omega, rfl⟩⟩
  · obtain ⟨w1, w2, w3, w4⟩ := i p hp
    unfold wfP
    rw [fr (99 + 4 * p) (by omega) (by omega) (fun q hq => by omega) (fun q hq => by omega), fr (99 + 4 * p + 2) (by omega) (by omega) (fun q hq => by omega) (fun q hq => by omega), fr (99 + 4 * p + 3) (by omega) (by omega) (fun q hq => by omega) (fun q hq => by omega)]
    refine ⟨w1, ?_, w3, w4⟩
    rw [stF, sbF_fr nb (fun q hq => by omega), spF_at np hp, pvF_fr (by omega) (by omega) 30 (by omega)]
    exact okQ_cut w2 hnc h30
  · obtain ⟨w1, w2, w3⟩ := j b hb
    unfold wfB
    rw [fr (179 + 3 * b + 1) (by omega) (by omega) (fun q hq => by omega) (fun q hq => by omega), fr (179 + 3 * b + 2) (by omega) (by omega) (fun q hq => by omega) (fun q hq => by omega)]
    refine ⟨?_, w2, w3⟩
    rw [stF, sbF_at nb hb, spF_fr np (fun q hq => by omega), pvF_fr (by omega) (by omega) 30 (by omega)]
    exact okQ_cut w1 hnc h30
theorem op_street (d i : Nat) (g : GT) (X : XS) (N T K : SS) (M : MS) (dd : AH) (h : INV i X N K M dd) (a : Int32) : OPR d i g X N T K M dd yB_street yM_street [.int a] := by
  have h' := h
  obtain ⟨⟨⟨nc, np, nb, n, C, R, W, L, D⟩, wo5⟩, _⟩ := h'
  have hnb : nb ≤ 6 := W.1.2.2.1.2
  have hnp := W.1.2.1.2
  have cM : ∀ Z : ZT, call PGM (d + 40) yM_street [.ref 91, .int a] (hM Z M) = sem PGM (d + 39) yM_street (11, [some (.ref 91), some (.int a), none], [.int (bI (rng a 2 30))], hM Z M) := by
    intro Z
    rw [kM_street, eM_street_0, w2, w30, cM_rng (d + 38), aft1]
  rcases rng3 a (lo := 2) (hi := 30) (by omega) (by omega) with ⟨k, k2, k30, rfl⟩ | ⟨hr, hc⟩ | ⟨hr, hc1, hc2, hc3⟩
  · have rt : rng (nI k) 2 30 = true := by rw [rng_n (by omega) (by omega) (by omega)]; simp; omega
    obtain ⟨N', c1, c2, c3⟩ := cS_lay (d + 36) (o := 43) (Or.inl rfl) (g, X, T, K, M, dd) (nI k) R W
    have fr : ∀ j, j = 8 ∨ 197 ≤ j → stF (M.1 0) (nI k) np nb j = M.1 0 j := fun j hj => (sbF_fr nb (fun q hq => by omega)).trans ((spF_fr np (fun q hq => by omega)).trans (pvF_fr (by omega) (by omega) 30 (by omega)))
    refine op_ns (nI k) N' (stF (M.1 0) (nI k) np nb) h ?_ ?_ (iS_up c2 (WF_st W k2 k30) (lawM_congr L (fr 8 (Or.inl rfl)) (fun j hj => fr j (Or.inr hj))) (by rw [c3.2]; exact D)) (c3.1.trans wo5)
    · have c1' : call PGM (d + 39) yS_lay [.ref 43, .int (nI k)] (heapOf g X N T K M dd) = some (none, heapOf g X N' T K M dd) := c1
      rw [kB_street, eB_street_0, c1']
      simp (disch := omega) only [l0, l1, l2, l3, l4, l5, l6, l7, l8, l9, l10, l11, l12, l13, l14, l15, l16, l17, l18, l19, l20, l21, l22, l23, l24, l25, l26, l27, l28, l29, l30, l31, l40, l48, l52, l57, l60, l65, l97, l99, l100, l102, l119, l122, l179, l197, l200, l201, l237, l436, l437, pk_mul, nI_add, inb_nI, nclamp, dlt, dle, deq, bif_t, bif_f, bif_nt, bif_nf, aft0, aft1, decide_true, decide_false, Bool.not_true, Bool.not_false, cond_true, cond_false, Nat.add_sub_cancel, Nat.add_one_sub_one, ou9, mo1, nI_MO, OU_lt, OU_ge, Nat.not_lt_zero, Bool.or_false, Bool.or_true, Bool.true_or, Bool.false_or, Bool.and_true, Bool.and_false, Bool.true_and, Bool.false_and, bI_0n, bI_1n, Bool.not_not]
      rw [eB_street_21]
    · rw [hM_eq, cM, rt, eM_street_11, cM_paves (d + 38), aft0, eM_street_21]
      have e1 : pvF (M.1 0) (nI k) 30 1 = nI np := (pvF_fr (by omega) (by omega) 30 (by omega)).trans W.1.2.1.1
      have e2 : spF (pvF (M.1 0) (nI k) 30) (nI k) np 2 = nI nb := (spF_fr np (fun q hq => by omega)).trans ((pvF_fr (by omega) (by omega) 30 (by omega)).trans W.1.2.2.1.1)
      have p1 := mS_people (d + 38) (g, X, N', T, K, dd) M (pvF (M.1 0) (nI k) 30) (nI k) np hnp e1 np 0 (by omega)
      have p2 := mS_beasts (d + 38) (g, X, N', T, K, dd) M (spF (pvF (M.1 0) (nI k) 30) (nI k) np) (nI k) nb hnb e2 nb 0 (by omega)
      exact p1.trans p2
  · refine op_ro MO h ?_ ?_
    · rw [kB_street, eB_street_0]
      simp (disch := omega) only [l0, l1, l2, l3, l4, l5, l6, l7, l8, l9, l10, l11, l12, l13, l14, l15, l16, l17, l18, l19, l20, l21, l22, l23, l24, l25, l26, l27, l28, l29, l30, l31, l40, l48, l52, l57, l60, l65, l97, l99, l100, l102, l119, l122, l179, l197, l200, l201, l237, l436, l437, pk_mul, nI_add, inb_nI, nclamp, dlt, dle, deq, bif_t, bif_f, bif_nt, bif_nf, aft0, aft1, decide_true, decide_false, Bool.not_true, Bool.not_false, cond_true, cond_false, Nat.add_sub_cancel, Nat.add_one_sub_one, ou9, mo1, nI_MO, OU_lt, OU_ge, Nat.not_lt_zero, Bool.or_false, Bool.or_true, Bool.true_or, Bool.false_or, Bool.and_true, Bool.and_false, Bool.true_and, Bool.false_and, bI_0n, bI_1n, Bool.not_not, hc]
    · rw [hM_eq, cM, hr, eM_street_11]
      rfl
  · refine op_ro MO h ?_ ?_
    · rw [kB_street, eB_street_0]
      simp (disch := omega) only [l0, l1, l2, l3, l4, l5, l6, l7, l8, l9, l10, l11, l12, l13, l14, l15, l16, l17, l18, l19, l20, l21, l22, l23, l24, l25, l26, l27, l28, l29, l30, l31, l40, l48, l52, l57, l60, l65, l97, l99, l100, l102, l119, l122, l179, l197, l200, l201, l237, l436, l437, pk_mul, nI_add, inb_nI, nclamp, dlt, dle, deq, bif_t, bif_f, bif_nt, bif_nf, aft0, aft1, decide_true, decide_false, Bool.not_true, Bool.not_false, cond_true, cond_false, Nat.add_sub_cancel, Nat.add_one_sub_one, ou9, mo1, nI_MO, OU_lt, OU_ge, Nat.not_lt_zero, Bool.or_false, Bool.or_true, Bool.true_or, Bool.false_or, Bool.and_true, Bool.and_false, Bool.true_and, Bool.false_and, bI_0n, bI_1n, Bool.not_not, hc1, hc3]
    · rw [hM_eq, cM, hr, eM_street_11]
      rfl
