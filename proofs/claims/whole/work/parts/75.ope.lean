/-! Calls of both: odds, begin, door. -/
def odB (nc np nb n : Nat) (C : Nat → CL) (s : Nat → Int32) (p t z : Nat) : Bool := !decide (trS nc np nb n C MO (upd s 4 (nI z)) t (99 + 4 * p + 3) ≤ s (99 + 4 * p + 3))
def odN (nc np nb n : Nat) (C : Nat → CL) (s : Nat → Int32) (p t : Nat) : Nat → Nat := cnt (fun z => odB nc np nb n C s p t (z + 1))
theorem odN_s (nc np nb n : Nat) (C : Nat → CL) (s : Nat → Int32) (p t j : Nat) : odN nc np nb n C s p t (j + 1) = odN nc np nb n C s p t j + (bif odB nc np nb n C s p t (j + 1) then 1 else 0) := rfl
def evn (a : Int32) : Bool := decide ((a - a / 2 * 2) = 0)
/-- halved while both are even, from the fraction's lower part 1, 2, 4, 8, 16 on -/
def frF : Nat → Int32 → Int32 → Int32 × Int32
  | 0, a, b => (a, b)
  | k + 1, a, b => bif evn a then frF k (a / 2) (b / 2) else (a, b)
theorem odB_end (d : Nat) (g : GT) (X : XS) (N T K : SS) (M : MS) (dd : AH) (u0 u1 u2 : Option Value) (q : Int32) : ∀ k, k ≤ 4 → ∀ a, sem PGM d yB_odds (106, [u0, u1, u2, some (.int q), some (.int a), some (.int (nI (2 ^ k)))], [], heapOf g X N T K M dd) = some (some (.int (bif !decide (q = 0) then (frF k a (nI (2 ^ k))).2 else (frF k a (nI (2 ^ k))).1)), heapOf g X N T K M dd)
  | 0, _, a => by
    have z : decide (nI (2 ^ 0) ≤ 1) = true := by decide
    rw [eB_odds_106, z, frF]
    cases decide (q = 0) <;> rfl
  | k + 1, hk, a => by
    have ih := odB_end d g X N T K M dd u0 u1 u2 q k (by omega) (a / 2)
    have z : decide (nI (2 ^ (k + 1)) ≤ 1) = false ∧ nI (2 ^ (k + 1)) / 2 = nI (2 ^ k) := by
      have e : k = 0 ∨ k = 1 ∨ k = 2 ∨ k = 3 := by omega
      rcases e with e | e | e | e <;> subst e <;> decide
    rw [eB_odds_106, z.1, frF, z.2]
    show (bif false then _ else bif !(evn a) then _ else _) = _
    cases evn a with
    | true => exact ih
    | false => cases decide (q = 0) <;> rfl
theorem odM_end (d : Nat) (Z : ZT) (M : MS) (u0 u1 u2 : Option Value) (q : Int32) : ∀ k, k ≤ 4 → ∀ a, sem PGM d yM_odds (76, [u0, u1, u2, some (.int q), some (.int a), some (.int (nI (2 ^ k)))], [], hM Z M) = some (some (.int (bif !decide (q = 0) then (frF k a (nI (2 ^ k))).2 else (frF k a (nI (2 ^ k))).1)), hM Z M)
  | 0, _, a => by
    have z : decide (nI (2 ^ 0) ≤ 1) = true := by decide
    rw [eM_odds_76, z, frF]
    show (bif !(evn a) then _ else _) = _
    cases evn a <;> cases decide (q = 0) <;> rfl
  | k + 1, hk, a => by
    have ih := odM_end d Z M u0 u1 u2 q k (by omega) (a / 2)
    have z : decide (nI (2 ^ (k + 1)) ≤ 1) = false ∧ nI (2 ^ (k + 1)) / 2 = nI (2 ^ k) := by
      have e : k = 0 ∨ k = 1 ∨ k = 2 ∨ k = 3 := by omega
      rcases e with e | e | e | e <;> subst e <;> decide
    rw [eM_odds_76, z.1, frF, z.2]
    show (bif !(evn a) then _ else _) = _
    cases evn a with
    | true => exact ih
    | false => cases decide (q = 0) <;> rfl
theorem hurt_bd {nc np nb T n t p i : Nat} {C : Nat → CL} {wo : Int32} {s : Nat → Int32} (hi : i ≤ 512) (W : WF s nc np nb T (fun _ => 180 * i)) (hp : p < np) (ht : t ≤ 60) : ∃ x, x < 100000 ∧ trS nc np nb n C wo s t (99 + 4 * p + 3) = nI x := by
  obtain ⟨x, hx, e⟩ := ((WF_trS (n := n) (C := C) (wo := wo) W t).2.2.1 p hp).2.2.2
  have hx' : x ≤ 180 * i + 3 * t := hx
  exact ⟨x, by omega, e⟩
theorem op_odds (d i : Nat) (g : GT) (X : XS) (N T K : SS) (M : MS) (dd : AH) (h : INV i X N K M dd) (hi : i ≤ 512) (a b q : Int32) : OPR d i g X N T K M dd yB_odds yM_odds [.int a, .int b, .int q] := by
  have h' := h
  obtain ⟨⟨⟨nc, np, nb, n, C, R, W, L, D⟩, wo5⟩, hK, hT, ⟨r, r24, r1, r2, hrr⟩, hH, hE, hB, hM', hD⟩ := h'
  have hnp := W.1.2.1.2
  have hnb : nb ≤ 6 := W.1.2.2.1.2
  have hm8 : M.2 8 = MO := hM'.1
  have e1 : N.2.1 1 = nI np := (R.1 1 (by omega)).trans W.1.2.1.1
  have cB : call PGM (d + 40) yB_odds [.ref 12, .int a, .int b, .int q] (heapOf g X N T K M dd) = bif hasB a np then sem PGM (d + 39) yB_odds (15, [some (.ref 12), some (.int a), some (.int b), some (.int q), none, none], [.int (bI (rng b 0 60))], heapOf g X N T K M dd) else some (some (.int MO), heapOf g X N T K M dd) := by
    rw [kB_odds, eB_odds_0, cN_hasPerson (d + 38) g X T K M dd a e1, aft1, eB_odds_8, bI_0, isB_Tenths (d + 38), aft1]
    cases hasB a np <;> rfl
  have cM : ∀ Z : ZT, call PGM (d + 40) yM_odds [.ref 91, .int a, .int b, .int q] (hM Z M) = bif hasB a np then sem PGM (d + 39) yM_odds (12, [some (.ref 91), some (.int a), some (.int b), some (.int q), none, none], [.int (bI (rng b 0 60))], hM Z M) else some (some (.int MO), hM Z M) := by
    intro Z
    rw [kM_odds, eM_odds_0, cM_isPerson (d + 37) Z M a hnp W.1.2.1.1, aft1, eM_odds_5, bI_0, cM_isLong (d + 37), aft1]
    cases hasB a np <;> rfl
  cases hk : hasB a np with
  | false =>
    refine bad_tr h ?_ ?_
    · rw [cB, hk]
      rfl
    · rw [hM_eq, cM, hk]
      rfl
  | true =>
    obtain ⟨p, hp, rfl⟩ := has_t (by omega) hk
    cases hr : rng b 0 60 with
    | false =>
      refine bad_tr h ?_ ?_
      · rw [cB, hk, hr, cond_true, eB_odds_15]
        rfl
      · rw [hM_eq, cM, hk, hr, cond_true, eM_odds_12]
        rfl
    | true =>
      obtain ⟨t, _, ht, rfl⟩ := rng_t (by omega) (by omega) hr
      have cM2 : ∀ Z : ZT, call PGM (d + 40) yM_odds [.ref 91, .int (nI p), .int (nI t), .int q] (hM Z M) = sem PGM (d + 39) yM_odds (22, [some (.ref 91), some (.int (nI p)), some (.int (nI t)), some (.int q), none, none], [.int (bI (rng q 0 1))], hM Z M) := by
        intro Z
        rw [cM, hk, hr, cond_true, eM_odds_12, bI_0, w0, w1, cM_rng (d + 38), aft1]
        rfl
      rcases rng3 q (lo := 0) (hi := 1) (by omega) (by omega) with ⟨w, _, hw1, rfl⟩ | ⟨hr', hc⟩ | ⟨hr', hc1, hc2, hc3⟩
      · have rt : rng (nI w) 0 1 = true := by rw [rng_n (by omega) (by omega) (by omega)]; simp; omega
        obtain ⟨p5, p6, p7, p8⟩ := R.2.2.1 p hp
        obtain ⟨hd, hd1, hd2⟩ := (W.2.2.1 p hp).2.2.2
        have hd1' : hd ≤ 180 * i := hd1
        have odle : ∀ j, odN nc np nb n C (M.1 0) p t j ≤ j := fun j => cnt_le _ j
        -- the class's
        have lpB : ∀ m j, j + m = 16 → ∀ T1, ∃ T', sem PGM (d + 39) yB_odds (35, [some (.ref 12), some (.int (nI p)), some (.int (nI t)), some (.int (nI w)), some (.int (nI (odN nc np nb n C (M.1 0) p t j))), some (.int (nI (j + 1)))], [], heapOf g X N T1 K M dd) = sem PGM (d + 39) yB_odds (106, [some (.ref 12), some (.int (nI p)), some (.int (nI t)), some (.int (nI w)), some (.int (nI (odN nc np nb n C (M.1 0) p t 16))), some (.int (nI (2 ^ 4)))], [], heapOf g X N T' K M dd) := by
          intro m
          induction m with
          | zero =>
            intro j hj T1
            have ej : j = 16 := by omega
            subst ej
            refine ⟨T1, ?_⟩
            rw [eB_odds_35]
            simp (disch := omega) only [l0, l1, l2, l3, l4, l5, l6, l7, l8, l9, l10, l11, l12, l13, l14, l15, l16, l17, l18, l19, l20, l21, l22, l23, l24, l25, l26, l27, l28, l29, l30, l31, l40, l48, l52, l57, l60, l65, l97, l99, l100, l102, l119, l122, l179, l197, l200, l201, l237, l436, l437, pk_mul, nI_add, inb_nI, nclamp, dlt, dle, deq, bif_t, bif_f, bif_nt, bif_nf, aft0, aft1, decide_true, decide_false, Bool.not_true, Bool.not_false, cond_true, cond_false, Nat.add_sub_cancel, Nat.add_one_sub_one, ou9, mo1, nI_MO, OU_lt, OU_ge, Nat.not_lt_zero, Bool.or_false, Bool.or_true, Bool.true_or, Bool.false_or, Bool.and_true, Bool.and_false, Bool.true_and, Bool.false_and, bI_0n, bI_1n, Bool.not_not]
          | succ m ih =>
            intro j hj T1
            have R1 : RS (sV (copS N T1) 4 (nI (j + 1))) (upd (M.1 0) 4 (nI (j + 1))) np nb := RS_z (copS_RS T1 R hnp hnb) hnp
            obtain ⟨T2, c1, c2, c3⟩ := go59 (d + 32) g X N K M (wo := MO) R1 (WF_seed W) (by rw [sV_L, copS_L]; exact D) (lawM_congr L (upd_ne (by omega)) (fun k hk => upd_ne (by omega))) (by rw [sV_n (by omega), copS_w]; exact wo_OU) ht
            have t8 : T2.1 8 p = trS nc np nb n C MO (upd (M.1 0) 4 (nI (j + 1))) t (99 + 4 * p + 3) := (c2.2.2.1 p hp).2.2.2
            obtain ⟨T', ih'⟩ := ih (j + 1) (by omega) T2
            refine ⟨T', ?_⟩
            rw [← ih', odN_s, odB]
            rw [eB_odds_35, cS_copy_59_43 (d + 37) g X N T1 K M dd (lawD_38 D), aft0, eB_odds_53, eB_odds_62, c1, aft1, eB_odds_71]
            simp (disch := omega) only [l0, l1, l2, l3, l4, l5, l6, l7, l8, l9, l10, l11, l12, l13, l14, l15, l16, l17, l18, l19, l20, l21, l22, l23, l24, l25, l26, l27, l28, l29, l30, l31, l40, l48, l52, l57, l60, l65, l97, l99, l100, l102, l119, l122, l179, l197, l200, l201, l237, l436, l437, pk_mul, nI_add, inb_nI, nclamp, dlt, dle, deq, bif_t, bif_f, bif_nt, bif_nf, aft0, aft1, decide_true, decide_false, Bool.not_true, Bool.not_false, cond_true, cond_false, Nat.add_sub_cancel, Nat.add_one_sub_one, ou9, mo1, nI_MO, OU_lt, OU_ge, Nat.not_lt_zero, Bool.or_false, Bool.or_true, Bool.true_or, Bool.false_or, Bool.and_true, Bool.and_false, Bool.true_and, Bool.false_and, bI_0n, bI_1n, Bool.not_not, t8, p8]
            cases decide (trS nc np nb n C MO (upd (M.1 0) 4 (nI (j + 1))) t (99 + 4 * p + 3) ≤ M.1 0 (99 + 4 * p + 3)) <;> rfl
        obtain ⟨T', b1⟩ := lpB 16 0 (by omega) T
        -- the model's
        have lpM : ∀ m j, j + m = 16 → ∀ M1, mJ M M1 → ∃ M', mJ M M' ∧ sem PGM (d + 39) yM_odds (33, [some (.ref 91), some (.int (nI p)), some (.int (nI t)), some (.int (nI w)), some (.int (nI (odN nc np nb n C (M.1 0) p t j))), some (.int (nI (j + 1)))], [], hM (g, X, N, T', K, dd) M1) = sem PGM (d + 39) yM_odds (76, [some (.ref 91), some (.int (nI p)), some (.int (nI t)), some (.int (nI w)), some (.int (nI (odN nc np nb n C (M.1 0) p t 16))), some (.int (nI (2 ^ 4)))], [], hM (g, X, N, T', K, dd) M') := by
          intro m
          induction m with
          | zero =>
            intro j hj M1 hJ
            have ej : j = 16 := by omega
            subst ej
            refine ⟨M1, hJ, ?_⟩
            rw [eM_odds_33]
            simp (disch := omega) only [l0, l1, l2, l3, l4, l5, l6, l7, l8, l9, l10, l11, l12, l13, l14, l15, l16, l17, l18, l19, l20, l21, l22, l23, l24, l25, l26, l27, l28, l29, l30, l31, l40, l48, l52, l57, l60, l65, l97, l99, l100, l102, l119, l122, l179, l197, l200, l201, l237, l436, l437, pk_mul, nI_add, inb_nI, nclamp, dlt, dle, deq, bif_t, bif_f, bif_nt, bif_nf, aft0, aft1, decide_true, decide_false, Bool.not_true, Bool.not_false, cond_true, cond_false, Nat.add_sub_cancel, Nat.add_one_sub_one, ou9, mo1, nI_MO, OU_lt, OU_ge, Nat.not_lt_zero, Bool.or_false, Bool.or_true, Bool.true_or, Bool.false_or, Bool.and_true, Bool.and_false, Bool.true_and, Bool.false_and, bI_0n, bI_1n, Bool.not_not]
          | succ m ih =>
            intro j hj M1 hJ
            have z0 : M1.1 0 = M.1 0 := hJ.1 0 (by omega) (by omega) (by omega)
            have z8 : M1.2 8 = MO := (hJ.2.1 8 (by omega) (by omega) (by omega) (by omega)).trans hm8
            have z14 : M1.2 14 = nI r := (hJ.2.1 14 (by omega) (by omega) (by omega) (by omega)).trans r2
            obtain ⟨M2, n1, n2⟩ := cM_hurtsIn (d + 29) (g, X, N, T', K, dd) M1 p nc np nb (60 * i) n t r (nI (j + 1)) (M.1 0 (99 + 4 * p + 1)) (fun _ => 180 * i) C (by omega) (W.2.2.1 p hp).2.1 (by rw [z0]; exact W) (by rw [z0]; exact L) ht r24 z14
            have es : setAt (M.1 0) p (nI (j + 1)) (M.1 0 (99 + 4 * p + 1)) = upd (M.1 0) 4 (nI (j + 1)) := by
              have : M.1 0 (99 + 4 * p + 1) = (upd (M.1 0) 4 (nI (j + 1))) (99 + 4 * p + 1) := by rw [upd_ne (by omega)]
              rw [setAt, this, upd_id]
            rw [z8, z0, es] at n1
            obtain ⟨x, hx, ex⟩ := hurt_bd (n := n) (C := C) (wo := MO) hi (WF_seed (z := nI (j + 1)) W) hp ht
            obtain ⟨M', hJ', ih'⟩ := ih (j + 1) (by omega) M2 (mJ_trans hJ n2)
            refine ⟨M', hJ', ?_⟩
            rw [← ih', odN_s, odB]
            rw [eM_odds_33, cM_whereIs (d + 38) _ M1 p (by omega), aft1, z0, eM_odds_52, n1, aft1, eM_odds_55, ex, hd2]
            have sl := sub_le0 (a := x) (b := hd) hx (by omega)
            simp (disch := omega) only [l0, l1, l2, l3, l4, l5, l6, l7, l8, l9, l10, l11, l12, l13, l14, l15, l16, l17, l18, l19, l20, l21, l22, l23, l24, l25, l26, l27, l28, l29, l30, l31, l40, l48, l52, l57, l60, l65, l97, l99, l100, l102, l119, l122, l179, l197, l200, l201, l237, l436, l437, pk_mul, nI_add, inb_nI, nclamp, dlt, dle, deq, bif_t, bif_f, bif_nt, bif_nf, aft0, aft1, decide_true, decide_false, Bool.not_true, Bool.not_false, cond_true, cond_false, Nat.add_sub_cancel, Nat.add_one_sub_one, ou9, mo1, nI_MO, OU_lt, OU_ge, Nat.not_lt_zero, Bool.or_false, Bool.or_true, Bool.true_or, Bool.false_or, Bool.and_true, Bool.and_false, Bool.true_and, Bool.false_and, bI_0n, bI_1n, Bool.not_not, sl]
            by_cases hxh : x ≤ hd
            · simp (disch := omega) only [l0, l1, l2, l3, l4, l5, l6, l7, l8, l9, l10, l11, l12, l13, l14, l15, l16, l17, l18, l19, l20, l21, l22, l23, l24, l25, l26, l27, l28, l29, l30, l31, l40, l48, l52, l57, l60, l65, l97, l99, l100, l102, l119, l122, l179, l197, l200, l201, l237, l436, l437, pk_mul, nI_add, inb_nI, nclamp, dlt, dle, deq, bif_t, bif_f, bif_nt, bif_nf, aft0, aft1, decide_true, decide_false, Bool.not_true, Bool.not_false, cond_true, cond_false, Nat.add_sub_cancel, Nat.add_one_sub_one, ou9, mo1, nI_MO, OU_lt, OU_ge, Nat.not_lt_zero, Bool.or_false, Bool.or_true, Bool.true_or, Bool.false_or, Bool.and_true, Bool.and_false, Bool.true_and, Bool.false_and, bI_0n, bI_1n, Bool.not_not, hxh, Nat.add_zero]
            · simp (disch := omega) only [l0, l1, l2, l3, l4, l5, l6, l7, l8, l9, l10, l11, l12, l13, l14, l15, l16, l17, l18, l19, l20, l21, l22, l23, l24, l25, l26, l27, l28, l29, l30, l31, l40, l48, l52, l57, l60, l65, l97, l99, l100, l102, l119, l122, l179, l197, l200, l201, l237, l436, l437, pk_mul, nI_add, inb_nI, nclamp, dlt, dle, deq, bif_t, bif_f, bif_nt, bif_nf, aft0, aft1, decide_true, decide_false, Bool.not_true, Bool.not_false, cond_true, cond_false, Nat.add_sub_cancel, Nat.add_one_sub_one, ou9, mo1, nI_MO, OU_lt, OU_ge, Nat.not_lt_zero, Bool.or_false, Bool.or_true, Bool.true_or, Bool.false_or, Bool.and_true, Bool.and_false, Bool.true_and, Bool.false_and, bI_0n, bI_1n, Bool.not_not, hxh]
        obtain ⟨M', hJ', m1⟩ := lpM 16 0 (by omega) M (mJ_refl M)
        refine op_tr (bif !decide (nI w = 0) then (frF 4 (nI (odN nc np nb n C (M.1 0) p t 16)) (nI (2 ^ 4))).2 else (frF 4 (nI (odN nc np nb n C (M.1 0) p t 16)) (nI (2 ^ 4))).1) T' M' h hJ' ?_ ?_
        · have q1 : decide (nI w < 0) = false := by rw [l0, dlt (by omega) (by omega)]; simp
          have q2 : decide (nI w ≤ 1) = true := by rw [l1, dle (by omega) (by omega)]; simp; omega
          rw [cB, hk, hr, cond_true, eB_odds_15, bI_0, q1, q2]
          have := b1.trans (odB_end (d + 39) g X N T' K M dd (some (.ref 12)) (some (.int (nI p))) (some (.int (nI t))) (nI w) 4 (by omega) (nI (odN nc np nb n C (M.1 0) p t 16)))
          exact this
        · rw [hM_eq, cM2, rt, eM_odds_22]
          exact m1.trans (odM_end (d + 39) _ M' _ _ _ (nI w) 4 (by omega) _)
      · refine bad_tr h ?_ ?_
        · rw [cB, hk, hr, cond_true, eB_odds_15]
          simp (disch := omega) only [l0, l1, l2, l3, l4, l5, l6, l7, l8, l9, l10, l11, l12, l13, l14, l15, l16, l17, l18, l19, l20, l21, l22, l23, l24, l25, l26, l27, l28, l29, l30, l31, l40, l48, l52, l57, l60, l65, l97, l99, l100, l102, l119, l122, l179, l197, l200, l201, l237, l436, l437, pk_mul, nI_add, inb_nI, nclamp, dlt, dle, deq, bif_t, bif_f, bif_nt, bif_nf, aft0, aft1, decide_true, decide_false, Bool.not_true, Bool.not_false, cond_true, cond_false, Nat.add_sub_cancel, Nat.add_one_sub_one, ou9, mo1, nI_MO, OU_lt, OU_ge, Nat.not_lt_zero, Bool.or_false, Bool.or_true, Bool.true_or, Bool.false_or, Bool.and_true, Bool.and_false, Bool.true_and, Bool.false_and, bI_0n, bI_1n, Bool.not_not, hc]
        · rw [hM_eq, cM2, hr', eM_odds_22]
          rfl
      · refine bad_tr h ?_ ?_
        · rw [cB, hk, hr, cond_true, eB_odds_15]
          simp (disch := omega) only [l0, l1, l2, l3, l4, l5, l6, l7, l8, l9, l10, l11, l12, l13, l14, l15, l16, l17, l18, l19, l20, l21, l22, l23, l24, l25, l26, l27, l28, l29, l30, l31, l40, l48, l52, l57, l60, l65, l97, l99, l100, l102, l119, l122, l179, l197, l200, l201, l237, l436, l437, pk_mul, nI_add, inb_nI, nclamp, dlt, dle, deq, bif_t, bif_f, bif_nt, bif_nf, aft0, aft1, decide_true, decide_false, Bool.not_true, Bool.not_false, cond_true, cond_false, Nat.add_sub_cancel, Nat.add_one_sub_one, ou9, mo1, nI_MO, OU_lt, OU_ge, Nat.not_lt_zero, Bool.or_false, Bool.or_true, Bool.true_or, Bool.false_or, Bool.and_true, Bool.and_false, Bool.true_and, Bool.false_and, bI_0n, bI_1n, Bool.not_not, hc1, hc3]
        · rw [hM_eq, cM2, hr', eM_odds_22]
          rfl
-- begin
def bgH (nc np nb n : Nat) (C : Nat → CL) (s : Nat → Int32) (p t c : Nat) : Int32 := trS nc np nb n C MO (upd s (99 + 4 * p + 1) (nI c)) t (99 + 4 * p + 3)
/-- the best CELL and its HURTS among the first c + 1 -/
def bgF (nc np nb n : Nat) (C : Nat → CL) (s : Nat → Int32) (p t : Nat) : Nat → Nat × Nat
  | 0 => (0, 0)
  | c + 1 => bif decide (bgH nc np nb n C s p t (bgF nc np nb n C s p t c).1 ≤ bgH nc np nb n C s p t (c + 1)) then bgF nc np nb n C s p t c else (c + 1, 0)
theorem bgF_le (nc np nb n : Nat) (C : Nat → CL) (s : Nat → Int32) (p t : Nat) : ∀ c, (bgF nc np nb n C s p t c).1 ≤ c
  | 0 => Nat.le_refl _
  | c + 1 => by
    have := bgF_le nc np nb n C s p t c
    rw [bgF]
    cases decide (bgH nc np nb n C s p t (bgF nc np nb n C s p t c).1 ≤ bgH nc np nb n C s p t (c + 1)) with
    | true => rw [cond_true]; omega
    | false => exact Nat.le_refl _
theorem op_begin (d i : Nat) (g : GT) (X : XS) (N T K : SS) (M : MS) (dd : AH) (h : INV i X N K M dd) (hi : i ≤ 512) (a b : Int32) : OPR d i g X N T K M dd yB_begin yM_begin [.int a, .int b] := by
  have h' := h
  obtain ⟨⟨⟨nc, np, nb, n, C, R, W, L, D⟩, wo5⟩, hK, hT, ⟨r, r24, r1, r2, hrr⟩, hH, hE, hB, hM', hD⟩ := h'
  have hnp := W.1.2.1.2
  have hnc := W.1.1.2.2
  have hnc2 := W.1.1.2.1
  have hnb : nb ≤ 6 := W.1.2.2.1.2
  have hm8 : M.2 8 = MO := hM'.1
  have e0 : N.2.1 0 = nI nc := (R.1 0 (by omega)).trans W.1.1.1
  have e1 : N.2.1 1 = nI np := (R.1 1 (by omega)).trans W.1.2.1.1
  have cB : call PGM (d + 40) yB_begin [.ref 12, .int a, .int b] (heapOf g X N T K M dd) = bif hasB a np then sem PGM (d + 39) yB_begin (15, [some (.ref 12), some (.int a), some (.int b), none, none, none], [.int (bI (rng b 0 60))], heapOf g X N T K M dd) else some (some (.int MO), heapOf g X N T K M dd) := by
    rw [kB_begin, eB_begin_0, cN_hasPerson (d + 38) g X T K M dd a e1, aft1, eB_begin_8, bI_0, isB_Tenths (d + 38), aft1]
    cases hasB a np <;> rfl
  have cM : ∀ Z : ZT, call PGM (d + 40) yM_begin [.ref 91, .int a, .int b] (hM Z M) = bif hasB a np then sem PGM (d + 39) yM_begin (12, [some (.ref 91), some (.int a), some (.int b), none, none, none, none], [.int (bI (rng b 0 60))], hM Z M) else some (some (.int MO), hM Z M) := by
    intro Z
    rw [kM_begin, eM_begin_0, cM_isPerson (d + 37) Z M a hnp W.1.2.1.1, aft1, eM_begin_5, bI_0, cM_isLong (d + 37), aft1]
    cases hasB a np <;> rfl
  cases hk : hasB a np with
  | false =>
    refine bad_tr h ?_ ?_
    · rw [cB, hk]
      rfl
    · rw [hM_eq, cM, hk]
      rfl
  | true =>
    obtain ⟨p, hp, rfl⟩ := has_t (by omega) hk
    cases hr : rng b 0 60 with
    | false =>
      refine bad_tr h ?_ ?_
      · rw [cB, hk, hr, cond_true, eB_begin_15]
        rfl
      · rw [hM_eq, cM, hk, hr, cond_true, eM_begin_12]
        rfl
    | true =>
      obtain ⟨t, _, ht, rfl⟩ := rng_t (by omega) (by omega) hr
      obtain ⟨p5, p6, p7, p8⟩ := R.2.2.1 p hp
      obtain ⟨kk, k1, k7, hkk⟩ := WF_upk W hp
      obtain ⟨hd, hd1, hd2⟩ := (W.2.2.1 p hp).2.2.2
      have hd1' : hd ≤ 180 * i := hd1
      have okc : ∀ c, c < nc → okQ nc (nI c) := fun c hc => Or.inr ⟨c, hc, rfl⟩
      have bd : ∀ c, c < nc → ∃ x, x < 100000 ∧ bgH nc np nb n C (M.1 0) p t c = nI x := fun c hc => hurt_bd hi (WF_place W (by omega) (okc c hc)) hp ht
      -- one TRIAL of the class
      have one : ∀ c, c < nc → ∀ T1 (i3 i4 : Int32), ∃ T2, aftK (sem PGM (d + 39) yB_begin) 0 (51, [some (.ref 12), some (.int (nI p)), some (.int (nI t)), some (.int i3), some (.int i4), some (.int (nI c))], [], heapOf g X N T1 K M dd) (call PGM (d + 39) yS_copy [.ref 59, .ref 43] (heapOf g X N T1 K M dd)) = (bif decide (nI c = nI 0) then sem PGM (d + 39) yB_begin (28, [some (.ref 12), some (.int (nI p)), some (.int (nI t)), some (.int (nI c)), some (.int (bgH nc np nb n C (M.1 0) p t c)), some (.int (nI (c + 1)))], [], heapOf g X N T2 K M dd) else bif decide (i4 ≤ bgH nc np nb n C (M.1 0) p t c) then sem PGM (d + 39) yB_begin (28, [some (.ref 12), some (.int (nI p)), some (.int (nI t)), some (.int i3), some (.int i4), some (.int (nI (c + 1)))], [], heapOf g X N T2 K M dd) else sem PGM (d + 39) yB_begin (28, [some (.ref 12), some (.int (nI p)), some (.int (nI t)), some (.int (nI c)), some (.int (bgH nc np nb n C (M.1 0) p t c)), some (.int (nI (c + 1)))], [], heapOf g X N T2 K M dd)) := by
        intro c hc T1 i3 i4
        obtain ⟨T2, s1, s2, s3⟩ := cS_seat (d + 37) (o := 59) (Or.inr rfl) (g, X, N, K, M, dd) (x := nI c) (copS_RS T1 R hnp hnb) hp hnp (show kk < 9 by omega) hkk (okQ_30 (W.2.2.1 p hp).2.1 hnc) (Or.inr ⟨c, by omega, rfl⟩)
        have s1' : call PGM (d + 39) yS_seat [.ref 59, .int (nI p), .int (nI c)] (heapOf g X N (copS N T1) K M dd) = some (none, heapOf g X N T2 K M dd) := s1
        obtain ⟨T3, c1, c2, c3⟩ := go59 (d + 32) g X N K M (wo := MO) s2 (WF_place W (by omega) (okc c hc)) (by rw [s3.2, copS_L]; exact D) (lawM_congr L (upd_ne (by omega)) (fun k hk => upd_ne (by omega))) (by rw [s3.1, copS_w]; exact wo_OU) ht
        have t8 : T3.1 8 p = bgH nc np nb n C (M.1 0) p t c := (c2.2.2.1 p hp).2.2.2
        refine ⟨T3, ?_⟩
        rw [cS_copy_59_43 (d + 37) g X N T1 K M dd (lawD_38 D), aft0, eB_begin_51, s1', aft0, eB_begin_61, c1, aft1, eB_begin_70]
        have p20 : decide (p < 20) = true := by simp; omega
        rw [inb_nI (by omega), nclamp (by omega), t8, p20, nI_1]
        rfl
      have lpB : ∀ m c, c + 1 + m = nc → ∀ T1, ∃ T', sem PGM (d + 39) yB_begin (28, [some (.ref 12), some (.int (nI p)), some (.int (nI t)), some (.int (nI (bgF nc np nb n C (M.1 0) p t c).1)), some (.int (bgH nc np nb n C (M.1 0) p t (bgF nc np nb n C (M.1 0) p t c).1)), some (.int (nI (c + 1)))], [], heapOf g X N T1 K M dd) = some (some (.int (nI (bgF nc np nb n C (M.1 0) p t (nc - 1)).1)), heapOf g X N T' K M dd) := by
        intro m
        induction m with
        | zero =>
          intro c hc T1
          refine ⟨T1, ?_⟩
          rw [eB_begin_28, e0, show nc - 1 = c by omega]
          simp (disch := omega) only [l0, l1, l2, l3, l4, l5, l6, l7, l8, l9, l10, l11, l12, l13, l14, l15, l16, l17, l18, l19, l20, l21, l22, l23, l24, l25, l26, l27, l28, l29, l30, l31, l40, l48, l52, l57, l60, l65, l97, l99, l100, l102, l119, l122, l179, l197, l200, l201, l237, l436, l437, pk_mul, nI_add, inb_nI, nclamp, dlt, dle, deq, bif_t, bif_f, bif_nt, bif_nf, aft0, aft1, decide_true, decide_false, Bool.not_true, Bool.not_false, cond_true, cond_false, Nat.add_sub_cancel, Nat.add_one_sub_one, ou9, mo1, nI_MO, OU_lt, OU_ge, Nat.not_lt_zero, Bool.or_false, Bool.or_true, Bool.true_or, Bool.false_or, Bool.and_true, Bool.and_false, Bool.true_and, Bool.false_and, bI_0n, bI_1n, Bool.not_not]
        | succ m ih =>
          intro c hc T1
          obtain ⟨T2, o1⟩ := one (c + 1) (by omega) T1 (nI (bgF nc np nb n C (M.1 0) p t c).1) (bgH nc np nb n C (M.1 0) p t (bgF nc np nb n C (M.1 0) p t c).1)
          obtain ⟨T', ih'⟩ := ih (c + 1) (by omega) T2
          refine ⟨T', ?_⟩
          rw [← ih', eB_begin_28, e0, o1, bgF]
          simp (disch := omega) only [l0, l1, l2, l3, l4, l5, l6, l7, l8, l9, l10, l11, l12, l13, l14, l15, l16, l17, l18, l19, l20, l21, l22, l23, l24, l25, l26, l27, l28, l29, l30, l31, l40, l48, l52, l57, l60, l65, l97, l99, l100, l102, l119, l122, l179, l197, l200, l201, l237, l436, l437, pk_mul, nI_add, inb_nI, nclamp, dlt, dle, deq, bif_t, bif_f, bif_nt, bif_nf, aft0, aft1, decide_true, decide_false, Bool.not_true, Bool.not_false, cond_true, cond_false, Nat.add_sub_cancel, Nat.add_one_sub_one, ou9, mo1, nI_MO, OU_lt, OU_ge, Nat.not_lt_zero, Bool.or_false, Bool.or_true, Bool.true_or, Bool.false_or, Bool.and_true, Bool.and_false, Bool.true_and, Bool.false_and, bI_0n, bI_1n, Bool.not_not]
          cases decide (bgH nc np nb n C (M.1 0) p t (bgF nc np nb n C (M.1 0) p t c).1 ≤ bgH nc np nb n C (M.1 0) p t (c + 1)) <;> rfl
      obtain ⟨T0, o0'⟩ := one 0 (by omega) T 0 0
      obtain ⟨T', b1⟩ := lpB (nc - 1) 0 (by omega) T0
      -- the model's
      have oneM : ∀ c, c < nc → ∀ M1, mJ M M1 → ∃ M2, mJ M M2 ∧ call PGM (d + 39) yM_hurtsIn [.ref 91, .int (nI p), .int (nI t), .int (M1.1 0 4), .int (nI c)] (hM (g, X, N, T', K, dd) M1) = some (some (.int (bgH nc np nb n C (M.1 0) p t c - nI hd)), hM (g, X, N, T', K, dd) M2) := by
        intro c hc M1 hJ
        have z0 : M1.1 0 = M.1 0 := hJ.1 0 (by omega) (by omega) (by omega)
        have z8 : M1.2 8 = MO := (hJ.2.1 8 (by omega) (by omega) (by omega) (by omega)).trans hm8
        have z14 : M1.2 14 = nI r := (hJ.2.1 14 (by omega) (by omega) (by omega) (by omega)).trans r2
        obtain ⟨M2, n1, n2⟩ := cM_hurtsIn (d + 29) (g, X, N, T', K, dd) M1 p nc np nb (60 * i) n t r (M1.1 0 4) (nI c) (fun _ => 180 * i) C (by omega) (okc c hc) (by rw [z0]; exact W) (by rw [z0]; exact L) ht r24 z14
        refine ⟨M2, mJ_trans hJ n2, ?_⟩
        rw [n1, z8, z0, hd2]
        have es : setAt (M.1 0) p (M.1 0 4) (nI c) = upd (M.1 0) (99 + 4 * p + 1) (nI c) := by rw [setAt, upd_id]
        rw [es]
        rfl
      have lpM : ∀ m c, c + 1 + m = nc → ∀ M1 u6, mJ M M1 → ∃ M', mJ M M' ∧ sem PGM (d + 39) yM_begin (25, [some (.ref 91), some (.int (nI p)), some (.int (nI t)), some (.int (nI (bgF nc np nb n C (M.1 0) p t c).1)), some (.int (bgH nc np nb n C (M.1 0) p t (bgF nc np nb n C (M.1 0) p t c).1 - nI hd)), some (.int (nI (c + 1))), u6], [], hM (g, X, N, T', K, dd) M1) = some (some (.int (nI (bgF nc np nb n C (M.1 0) p t (nc - 1)).1)), hM (g, X, N, T', K, dd) M') := by
        intro m
        induction m with
        | zero =>
          intro c hc M1 u6 hJ
          have z0 : M1.1 0 = M.1 0 := hJ.1 0 (by omega) (by omega) (by omega)
          refine ⟨M1, hJ, ?_⟩
          rw [eM_begin_25, z0, W.1.1.1, show nc - 1 = c by omega]
          simp (disch := omega) only [l0, l1, l2, l3, l4, l5, l6, l7, l8, l9, l10, l11, l12, l13, l14, l15, l16, l17, l18, l19, l20, l21, l22, l23, l24, l25, l26, l27, l28, l29, l30, l31, l40, l48, l52, l57, l60, l65, l97, l99, l100, l102, l119, l122, l179, l197, l200, l201, l237, l436, l437, pk_mul, nI_add, inb_nI, nclamp, dlt, dle, deq, bif_t, bif_f, bif_nt, bif_nf, aft0, aft1, decide_true, decide_false, Bool.not_true, Bool.not_false, cond_true, cond_false, Nat.add_sub_cancel, Nat.add_one_sub_one, ou9, mo1, nI_MO, OU_lt, OU_ge, Nat.not_lt_zero, Bool.or_false, Bool.or_true, Bool.true_or, Bool.false_or, Bool.and_true, Bool.and_false, Bool.true_and, Bool.false_and, bI_0n, bI_1n, Bool.not_not]
        | succ m ih =>
          intro c hc M1 u6 hJ
          have z0 : M1.1 0 = M.1 0 := hJ.1 0 (by omega) (by omega) (by omega)
          have ble := bgF_le nc np nb n C (M.1 0) p t c
          obtain ⟨M2, hJ2, n1⟩ := oneM (c + 1) (by omega) M1 hJ
          obtain ⟨x, hx, ex⟩ := bd (c + 1) (by omega)
          obtain ⟨y, hy, ey⟩ := bd (bgF nc np nb n C (M.1 0) p t c).1 (by omega)
          obtain ⟨M', hJ', ih'⟩ := ih (c + 1) (by omega) M2 (some (.int (bgH nc np nb n C (M.1 0) p t (c + 1) - nI hd))) hJ2
          refine ⟨M', hJ', ?_⟩
          rw [← ih', eM_begin_25, n1, aft1, eM_begin_50, z0, W.1.1.1, bgF]
          have sl : decide (bgH nc np nb n C (M.1 0) p t (bgF nc np nb n C (M.1 0) p t c).1 - nI hd ≤ bgH nc np nb n C (M.1 0) p t (c + 1) - nI hd) = decide (bgH nc np nb n C (M.1 0) p t (bgF nc np nb n C (M.1 0) p t c).1 ≤ bgH nc np nb n C (M.1 0) p t (c + 1)) := by
            rw [ex, ey]
            exact sub_le3 hy hx (by omega)
          rw [sl]
          simp (disch := omega) only [l0, l1, l2, l3, l4, l5, l6, l7, l8, l9, l10, l11, l12, l13, l14, l15, l16, l17, l18, l19, l20, l21, l22, l23, l24, l25, l26, l27, l28, l29, l30, l31, l40, l48, l52, l57, l60, l65, l97, l99, l100, l102, l119, l122, l179, l197, l200, l201, l237, l436, l437, pk_mul, nI_add, inb_nI, nclamp, dlt, dle, deq, bif_t, bif_f, bif_nt, bif_nf, aft0, aft1, decide_true, decide_false, Bool.not_true, Bool.not_false, cond_true, cond_false, Nat.add_sub_cancel, Nat.add_one_sub_one, ou9, mo1, nI_MO, OU_lt, OU_ge, Nat.not_lt_zero, Bool.or_false, Bool.or_true, Bool.true_or, Bool.false_or, Bool.and_true, Bool.and_false, Bool.true_and, Bool.false_and, bI_0n, bI_1n, Bool.not_not]
          cases decide (bgH nc np nb n C (M.1 0) p t (bgF nc np nb n C (M.1 0) p t c).1 ≤ bgH nc np nb n C (M.1 0) p t (c + 1)) <;> rfl
      obtain ⟨M0, hJ0, n0⟩ := oneM 0 (by omega) M (mJ_refl M)
      obtain ⟨M', hJ', m1⟩ := lpM (nc - 1) 0 (by omega) M0 (some (.int (bgH nc np nb n C (M.1 0) p t 0 - nI hd))) hJ0
      refine op_tr (nI (bgF nc np nb n C (M.1 0) p t (nc - 1)).1) T' M' h hJ' ?_ ?_
      · rw [cB, hk, hr, cond_true, eB_begin_15, bI_ne0, cond_true, eB_begin_28, e0]
        have z : decide (nI nc ≤ 0) = false := by rw [l0, dle (by omega) (by omega)]; simp; omega
        rw [z, cond_false]
        have o0'' := o0'
        have zz : decide (nI 0 = nI 0) = true := by decide
        rw [zz, cond_true] at o0''
        exact o0''.trans b1
      · rw [hM_eq, cM, hk, hr, cond_true, eM_begin_12, bI_ne0, cond_true, eM_begin_25, W.1.1.1]
        have z : decide (nI nc ≤ 0) = false := by rw [l0, dle (by omega) (by omega)]; simp; omega
        have n0' : call PGM (d + 39) yM_hurtsIn [.ref 91, .int (nI p), .int (nI t), .int (M.1 0 4), .int 0] (hM (g, X, N, T', K, dd) M) = some (some (.int (bgH nc np nb n C (M.1 0) p t 0 - nI hd)), hM (g, X, N, T', K, dd) M0) := n0
        rw [z, cond_false, n0', aft1, eM_begin_50]
        exact m1
