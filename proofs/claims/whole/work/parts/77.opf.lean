/-! Calls of both: door, limit, morning. -/
def drV (nc np nb n : Nat) (C : Nat → CL) (s : Nat → Int32) (t c : Nat) : Nat := trV nc np nb n C MO (upd s (9 + 3 * c + 2) (nI 1)) t
/-- least HARM and the CELL for it, among the first CELLS -/
def drF (nc np nb n : Nat) (C : Nat → CL) (s : Nat → Int32) (t : Nat) : Nat → Nat × Int32
  | 0 => (trV nc np nb n C MO s t, -3)
  | c + 1 => bif decide (s (9 + 3 * c + 2) = nI 1) then drF nc np nb n C s t c else bif decide ((drF nc np nb n C s t c).1 ≤ drV nc np nb n C s t c) then drF nc np nb n C s t c else (drV nc np nb n C s t c, nI c)
theorem goV_le (np nb n : Nat) (C : Nat → CL) (wo : Int32) (s : Nat → Int32) : goV np nb n C wo s ≤ 3 * np := by
  have : ∀ j (x : Nat → Int32), hrmV nb x j ≤ 3 * j := by
    intro j x
    induction j with
    | zero => exact Nat.le_refl _
    | succ j ih =>
      have := hv_le (hrmS nb x j) nb j
      rw [hrmV]
      omega
  exact this np _
theorem trV_le {nc np nb n : Nat} {C : Nat → CL} {wo : Int32} {s : Nat → Int32} (hnp : np ≤ 20) : ∀ j, trV nc np nb n C wo s j ≤ 60 * j
  | 0 => Nat.zero_le _
  | j + 1 => by
    have h1 := trV_le (nc := nc) (nb := nb) (n := n) (C := C) (wo := wo) (s := s) hnp j
    have h2 := goV_le np nb n C wo (trS nc np nb n C wo s j)
    rw [trV]
    omega
theorem drF_le {nc np nb n : Nat} {C : Nat → CL} {s : Nat → Int32} {t : Nat} (hnp : np ≤ 20) (ht : t ≤ 60) : ∀ c, (drF nc np nb n C s t c).1 ≤ 3600
  | 0 => by
    have := trV_le (nc := nc) (nb := nb) (n := n) (C := C) (wo := MO) (s := s) hnp t
    rw [drF]
    show trV nc np nb n C MO s t ≤ 3600
    omega
  | c + 1 => by
    have ih := drF_le (nc := nc) (nb := nb) (n := n) (C := C) (s := s) hnp ht c
    have := trV_le (nc := nc) (nb := nb) (n := n) (C := C) (wo := MO) (s := upd s (9 + 3 * c + 2) (nI 1)) hnp t
    rw [drF]
    cases decide (s (9 + 3 * c + 2) = nI 1) with
    | true => exact ih
    | false =>
      cases decide ((drF nc np nb n C s t c).1 ≤ drV nc np nb n C s t c) with
      | true => exact ih
      | false =>
        show trV nc np nb n C MO (upd s (9 + 3 * c + 2) (nI 1)) t ≤ 3600
        omega
theorem op_door (d i : Nat) (g : GT) (X : XS) (N T K : SS) (M : MS) (dd : AH) (h : INV i X N K M dd) (a : Int32) : OPR d i g X N T K M dd yB_door yM_door [.int a] := by
  have h' := h
  obtain ⟨⟨⟨nc, np, nb, n, C, R, W, L, D⟩, wo5⟩, hK, hT, ⟨r, r24, r1, r2, hrr⟩, hH, hE, hB, hM', hD⟩ := h'
  have hnp := W.1.2.1.2
  have hnc := W.1.1.2.2
  have hnb : nb ≤ 6 := W.1.2.2.1.2
  have hm8 : M.2 8 = MO := hM'.1
  have e0 : N.2.1 0 = nI nc := (R.1 0 (by omega)).trans W.1.1.1
  have cB : call PGM (d + 40) yB_door [.ref 12, .int a] (heapOf g X N T K M dd) = sem PGM (d + 39) yB_door (4, [some (.ref 12), some (.int a), none, none, none, none], [.int (bI (rng a 0 60))], heapOf g X N T K M dd) := by
    rw [kB_door, eB_door_0, isB_Tenths (d + 38), aft1]
  have cM : ∀ Z : ZT, call PGM (d + 40) yM_door [.ref 91, .int a] (hM Z M) = sem PGM (d + 39) yM_door (4, [some (.ref 91), some (.int a), none, none, none, none, none], [.int (bI (rng a 0 60))], hM Z M) := by
    intro Z
    rw [kM_door, eM_door_0, cM_isLong (d + 37), aft1]
  cases hr : rng a 0 60 with
  | false =>
    refine bad_tr h ?_ ?_
    · rw [cB, hr, eB_door_4]
      rfl
    · rw [hM_eq, cM, hr, eM_door_4]
      rfl
  | true =>
    obtain ⟨t, _, ht, rfl⟩ := rng_t (by omega) (by omega) hr
    have dle' := fun c => drF_le (nc := nc) (np := np) (nb := nb) (n := n) (C := C) (s := M.1 0) hnp ht c
    have dv : ∀ c, drV nc np nb n C (M.1 0) t c ≤ 3600 := by
      intro c
      have := trV_le (nc := nc) (nb := nb) (n := n) (C := C) (wo := MO) (s := upd (M.1 0) (9 + 3 * c + 2) (nI 1)) hnp t
      show trV nc np nb n C MO (upd (M.1 0) (9 + 3 * c + 2) (nI 1)) t ≤ 3600
      omega
    have wfd : ∀ c, c < nc → WF (upd (M.1 0) (9 + 3 * c + 2) (nI 1)) nc np nb (60 * i) (fun _ => 180 * i) := fun c hc => WF_cell W (by omega) (by omega) (by omega) (by omega) (by omega)
    have lwd : ∀ c, c < nc → lawM (upd (M.1 0) (9 + 3 * c + 2) (nI 1)) n C := fun c hc => lawM_congr L (upd_ne (by omega)) (fun k hk => upd_ne (by omega))
    obtain ⟨T0, c1, c2, c3⟩ := go59 (d + 32) g X N K M (wo := MO) (copS_RS T R hnp hnb) W (by rw [copS_L]; exact D) L (by rw [copS_w]; exact wo_OU) ht
    have lpB : ∀ m c, c + m = nc → ∀ T1 u5, ∃ T', sem PGM (d + 39) yB_door (36, [some (.ref 12), some (.int (nI t)), some (.int (nI (drF nc np nb n C (M.1 0) t c).1)), some (.int (drF nc np nb n C (M.1 0) t c).2), some (.int (nI c)), u5], [], heapOf g X N T1 K M dd) = some (some (.int (drF nc np nb n C (M.1 0) t nc).2), heapOf g X N T' K M dd) := by
      intro m
      induction m with
      | zero =>
        intro c hc T1 u5
        have ec : c = nc := by omega
        subst ec
        refine ⟨T1, ?_⟩
        rw [eB_door_36, e0]
        simp (disch := omega) only [l0, l1, l2, l3, l4, l5, l6, l7, l8, l9, l10, l11, l12, l13, l14, l15, l16, l17, l18, l19, l20, l21, l22, l23, l24, l25, l26, l27, l28, l29, l30, l31, l40, l48, l52, l57, l60, l65, l97, l99, l100, l102, l119, l122, l179, l197, l200, l201, l237, l436, l437, pk_mul, nI_add, inb_nI, nclamp, dlt, dle, deq, bif_t, bif_f, bif_nt, bif_nf, aft0, aft1, decide_true, decide_false, Bool.not_true, Bool.not_false, cond_true, cond_false, Nat.add_sub_cancel, Nat.add_one_sub_one, ou9, mo1, nI_MO, OU_lt, OU_ge, Nat.not_lt_zero, Bool.or_false, Bool.or_true, Bool.true_or, Bool.false_or, Bool.and_true, Bool.and_false, Bool.true_and, Bool.false_and, bI_0n, bI_1n, Bool.not_not]
      | succ m ih =>
        intro c hc T1 u5
        have c2' : N.1 2 c = M.1 0 (9 + 3 * c + 2) := (R.2.1 c (by omega)).2.2
        have R1 : RS (sA (copS N T1) 2 (upd ((copS N T1).1 2) c (nI 1))) (upd (M.1 0) (9 + 3 * c + 2) (nI 1)) np nb := RS_c (copS_RS T1 R hnp hnb) hnp (by omega) (by omega)
        obtain ⟨T2, d1, d2, d3⟩ := go59 (d + 32) g X N K M (wo := MO) R1 (wfd c (by omega)) (by rw [sA_2, copS_L]; exact D) (lwd c (by omega)) (by rw [sA_2, copS_w]; exact wo_OU) ht
        have d1' : call PGM (d + 39) yS_goOn [.ref 59, .int (nI t), .null] (heapOf g X N (sA (copS N T1) 2 (upd ((copS N T1).1 2) c (nI 1))) K M dd) = some (some (.int (nI (drV nc np nb n C (M.1 0) t c))), heapOf g X N T2 K M dd) := d1
        have ihs := ih (c + 1) (by omega)
        have h1 := dle' c
        have h2 := dv c
        rw [drF] at ihs
        rw [eB_door_36, e0]
        simp (disch := omega) only [l0, l1, l2, l3, l4, l5, l6, l7, l8, l9, l10, l11, l12, l13, l14, l15, l16, l17, l18, l19, l20, l21, l22, l23, l24, l25, l26, l27, l28, l29, l30, l31, l40, l48, l52, l57, l60, l65, l97, l99, l100, l102, l119, l122, l179, l197, l200, l201, l237, l436, l437, pk_mul, nI_add, inb_nI, nclamp, dlt, dle, deq, bif_t, bif_f, bif_nt, bif_nf, aft0, aft1, decide_true, decide_false, Bool.not_true, Bool.not_false, cond_true, cond_false, Nat.add_sub_cancel, Nat.add_one_sub_one, ou9, mo1, nI_MO, OU_lt, OU_ge, Nat.not_lt_zero, Bool.or_false, Bool.or_true, Bool.true_or, Bool.false_or, Bool.and_true, Bool.and_false, Bool.true_and, Bool.false_and, bI_0n, bI_1n, Bool.not_not, c2']
        cases hd : decide (M.1 0 (9 + 3 * c + 2) = nI 1) with
        | true =>
          rw [hd] at ihs
          exact ihs T1 u5
        | false =>
          rw [hd, cond_false] at ihs
          rw [Bool.not_false, cond_true, cS_copy_59_43 (d + 37) g X N T1 K M dd (lawD_38 D), aft0, eB_door_78]
          simp (disch := omega) only [l0, l1, l2, l3, l4, l5, l6, l7, l8, l9, l10, l11, l12, l13, l14, l15, l16, l17, l18, l19, l20, l21, l22, l23, l24, l25, l26, l27, l28, l29, l30, l31, l40, l48, l52, l57, l60, l65, l97, l99, l100, l102, l119, l122, l179, l197, l200, l201, l237, l436, l437, pk_mul, nI_add, inb_nI, nclamp, dlt, dle, deq, bif_t, bif_f, bif_nt, bif_nf, aft0, aft1, decide_true, decide_false, Bool.not_true, Bool.not_false, cond_true, cond_false, Nat.add_sub_cancel, Nat.add_one_sub_one, ou9, mo1, nI_MO, OU_lt, OU_ge, Nat.not_lt_zero, Bool.or_false, Bool.or_true, Bool.true_or, Bool.false_or, Bool.and_true, Bool.and_false, Bool.true_and, Bool.false_and, bI_0n, bI_1n, Bool.not_not]
          rw [eB_door_91, d1', aft1, eB_door_100]
          simp (disch := omega) only [l0, l1, l2, l3, l4, l5, l6, l7, l8, l9, l10, l11, l12, l13, l14, l15, l16, l17, l18, l19, l20, l21, l22, l23, l24, l25, l26, l27, l28, l29, l30, l31, l40, l48, l52, l57, l60, l65, l97, l99, l100, l102, l119, l122, l179, l197, l200, l201, l237, l436, l437, pk_mul, nI_add, inb_nI, nclamp, dlt, dle, deq, bif_t, bif_f, bif_nt, bif_nf, aft0, aft1, decide_true, decide_false, Bool.not_true, Bool.not_false, cond_true, cond_false, Nat.add_sub_cancel, Nat.add_one_sub_one, ou9, mo1, nI_MO, OU_lt, OU_ge, Nat.not_lt_zero, Bool.or_false, Bool.or_true, Bool.true_or, Bool.false_or, Bool.and_true, Bool.and_false, Bool.true_and, Bool.false_and, bI_0n, bI_1n, Bool.not_not]
          by_cases hle : (drF nc np nb n C (M.1 0) t c).1 ≤ drV nc np nb n C (M.1 0) t c
          · simp only [hle, decide_true, cond_true] at ihs ⊢
            exact ihs T2 _
          · simp only [hle, decide_false, cond_false] at ihs ⊢
            exact ihs T2 _
    obtain ⟨T', b1⟩ := lpB nc 0 (by omega) T0 none
    obtain ⟨M0, m1, m2⟩ := cM_harmIn (d + 29) (g, X, N, T', K, dd) M nc np nb (60 * i) n t r (fun _ => 180 * i) C W L ht r24 r2
    rw [hm8] at m1
    have upd2 : ∀ c, M.1 0 (9 + 3 * c + 2) = nI 0 → upd (upd (M.1 0) (9 + 3 * c + 2) (nI 1)) (9 + 3 * c + 2) (nI 0) = M.1 0 := by
      intro c e
      rw [upd_upd, ← e, upd_id]
    have lpM : ∀ m c, c + m = nc → ∀ M1 (u5 u6 : Option Value), (u5 = none ∨ ∃ x, u5 = some (.int x)) → mJ M M1 → ∃ M', mJ M M' ∧ sem PGM (d + 39) yM_door (21, [some (.ref 91), some (.int (nI t)), some (.int (nI (drF nc np nb n C (M.1 0) t c).1)), some (.int (drF nc np nb n C (M.1 0) t c).2), some (.int (nI c)), u5, u6], [], hM (g, X, N, T', K, dd) M1) = some (some (.int (drF nc np nb n C (M.1 0) t nc).2), hM (g, X, N, T', K, dd) M') := by
      intro m
      induction m with
      | zero =>
        intro c hc M1 u5 u6 h5 hJ
        have ec : c = nc := by omega
        subst ec
        have z0 : M1.1 0 = M.1 0 := hJ.1 0 (by omega) (by omega) (by omega)
        refine ⟨M1, hJ, ?_⟩
        rcases h5 with rfl | ⟨x, rfl⟩
        · rw [eM_door_21, z0, W.1.1.1]
          simp (disch := omega) only [l0, l1, l2, l3, l4, l5, l6, l7, l8, l9, l10, l11, l12, l13, l14, l15, l16, l17, l18, l19, l20, l21, l22, l23, l24, l25, l26, l27, l28, l29, l30, l31, l40, l48, l52, l57, l60, l65, l97, l99, l100, l102, l119, l122, l179, l197, l200, l201, l237, l436, l437, pk_mul, nI_add, inb_nI, nclamp, dlt, dle, deq, bif_t, bif_f, bif_nt, bif_nf, aft0, aft1, decide_true, decide_false, Bool.not_true, Bool.not_false, cond_true, cond_false, Nat.add_sub_cancel, Nat.add_one_sub_one, ou9, mo1, nI_MO, OU_lt, OU_ge, Nat.not_lt_zero, Bool.or_false, Bool.or_true, Bool.true_or, Bool.false_or, Bool.and_true, Bool.and_false, Bool.true_and, Bool.false_and, bI_0n, bI_1n, Bool.not_not]
        · rw [eM_door_21x, z0, W.1.1.1]
          simp (disch := omega) only [l0, l1, l2, l3, l4, l5, l6, l7, l8, l9, l10, l11, l12, l13, l14, l15, l16, l17, l18, l19, l20, l21, l22, l23, l24, l25, l26, l27, l28, l29, l30, l31, l40, l48, l52, l57, l60, l65, l97, l99, l100, l102, l119, l122, l179, l197, l200, l201, l237, l436, l437, pk_mul, nI_add, inb_nI, nclamp, dlt, dle, deq, bif_t, bif_f, bif_nt, bif_nf, aft0, aft1, decide_true, decide_false, Bool.not_true, Bool.not_false, cond_true, cond_false, Nat.add_sub_cancel, Nat.add_one_sub_one, ou9, mo1, nI_MO, OU_lt, OU_ge, Nat.not_lt_zero, Bool.or_false, Bool.or_true, Bool.true_or, Bool.false_or, Bool.and_true, Bool.and_false, Bool.true_and, Bool.false_and, bI_0n, bI_1n, Bool.not_not]
      | succ m ih =>
        intro c hc M1 u5 u6 h5 hJ
        have z0 : M1.1 0 = M.1 0 := hJ.1 0 (by omega) (by omega) (by omega)
        have z8 : M1.2 8 = MO := (hJ.2.1 8 (by omega) (by omega) (by omega) (by omega)).trans hm8
        have z14 : M1.2 14 = nI r := (hJ.2.1 14 (by omega) (by omega) (by omega) (by omega)).trans r2
        obtain ⟨M2, n1, n2⟩ := cM_harmIn (d + 29) (g, X, N, T', K, dd) (mA M1 0 (upd (M.1 0) (9 + 3 * c + 2) (nI 1))) nc np nb (60 * i) n t r (fun _ => 180 * i) C (by rw [mA_s]; exact wfd c (by omega)) (by rw [mA_s]; exact lwd c (by omega)) ht r24 z14
        have e8 : (mA M1 0 (upd (M.1 0) (9 + 3 * c + 2) (nI 1))).2 8 = MO := z8
        rw [e8, mA_s] at n1
        have n1' : call PGM (d + 39) yM_harmIn [.ref 91, .int (nI t)] (hM (g, X, N, T', K, dd) (mA M1 0 (upd (M.1 0) (9 + 3 * c + 2) (nI 1)))) = some (some (.int (nI (drV nc np nb n C (M.1 0) t c))), hM (g, X, N, T', K, dd) M2) := n1
        have q0 : M2.1 0 = upd (M.1 0) (9 + 3 * c + 2) (nI 1) := by rw [n2.1 0 (by omega) (by omega) (by omega), mA_s]
        have ihs := ih (c + 1) (by omega)
        have h1 := dle' c
        have h2 := dv c
        rw [drF] at ihs
        have both : sem PGM (d + 39) yM_door (21, [some (.ref 91), some (.int (nI t)), some (.int (nI (drF nc np nb n C (M.1 0) t c).1)), some (.int (drF nc np nb n C (M.1 0) t c).2), some (.int (nI c)), u5, u6], [], hM (g, X, N, T', K, dd) M1) = bif !decide (M.1 0 (9 + 3 * c + 2) = nI 0) then sem PGM (d + 39) yM_door (21, [some (.ref 91), some (.int (nI t)), some (.int (nI (drF nc np nb n C (M.1 0) t c).1)), some (.int (drF nc np nb n C (M.1 0) t c).2), some (.int (nI (c + 1))), some (.int (nI (9 + 3 * c + 2))), u6], [], hM (g, X, N, T', K, dd) M1) else aftK (sem PGM (d + 39) yM_door) 1 (66, [some (.ref 91), some (.int (nI t)), some (.int (nI (drF nc np nb n C (M.1 0) t c).1)), some (.int (drF nc np nb n C (M.1 0) t c).2), some (.int (nI c)), some (.int (nI (9 + 3 * c + 2))), u6], [], hM (g, X, N, T', K, dd) (mA M1 0 (upd (M.1 0) (9 + 3 * c + 2) (nI 1)))) (call PGM (d + 39) yM_harmIn [.ref 91, .int (nI t)] (hM (g, X, N, T', K, dd) (mA M1 0 (upd (M.1 0) (9 + 3 * c + 2) (nI 1))))) := by
          rcases h5 with rfl | ⟨x, rfl⟩
          · rw [eM_door_21, z0, W.1.1.1]
            simp (disch := omega) only [l0, l1, l2, l3, l4, l5, l6, l7, l8, l9, l10, l11, l12, l13, l14, l15, l16, l17, l18, l19, l20, l21, l22, l23, l24, l25, l26, l27, l28, l29, l30, l31, l40, l48, l52, l57, l60, l65, l97, l99, l100, l102, l119, l122, l179, l197, l200, l201, l237, l436, l437, pk_mul, nI_add, inb_nI, nclamp, dlt, dle, deq, bif_t, bif_f, bif_nt, bif_nf, aft0, aft1, decide_true, decide_false, Bool.not_true, Bool.not_false, cond_true, cond_false, Nat.add_sub_cancel, Nat.add_one_sub_one, ou9, mo1, nI_MO, OU_lt, OU_ge, Nat.not_lt_zero, Bool.or_false, Bool.or_true, Bool.true_or, Bool.false_or, Bool.and_true, Bool.and_false, Bool.true_and, Bool.false_and, bI_0n, bI_1n, Bool.not_not]
          · rw [eM_door_21x, z0, W.1.1.1]
            simp (disch := omega) only [l0, l1, l2, l3, l4, l5, l6, l7, l8, l9, l10, l11, l12, l13, l14, l15, l16, l17, l18, l19, l20, l21, l22, l23, l24, l25, l26, l27, l28, l29, l30, l31, l40, l48, l52, l57, l60, l65, l97, l99, l100, l102, l119, l122, l179, l197, l200, l201, l237, l436, l437, pk_mul, nI_add, inb_nI, nclamp, dlt, dle, deq, bif_t, bif_f, bif_nt, bif_nf, aft0, aft1, decide_true, decide_false, Bool.not_true, Bool.not_false, cond_true, cond_false, Nat.add_sub_cancel, Nat.add_one_sub_one, ou9, mo1, nI_MO, OU_lt, OU_ge, Nat.not_lt_zero, Bool.or_false, Bool.or_true, Bool.true_or, Bool.false_or, Bool.and_true, Bool.and_false, Bool.true_and, Bool.false_and, bI_0n, bI_1n, Bool.not_not]
        rw [both]
        obtain ⟨w, hw, ew⟩ := (W.2.1 c (by omega)).2.2
        have ew01 : w = 0 ∨ w = 1 := by omega
        rcases ew01 with e | e <;> subst e
        · have nd : decide (M.1 0 (9 + 3 * c + 2) = nI 1) = false := by rw [ew]; decide
          have yd : decide (M.1 0 (9 + 3 * c + 2) = nI 0) = true := by rw [ew]; decide
          rw [nd, cond_false] at ihs
          rw [yd, Bool.not_true, cond_false, n1', aft1, eM_door_66]
          simp (disch := omega) only [l0, l1, l2, l3, l4, l5, l6, l7, l8, l9, l10, l11, l12, l13, l14, l15, l16, l17, l18, l19, l20, l21, l22, l23, l24, l25, l26, l27, l28, l29, l30, l31, l40, l48, l52, l57, l60, l65, l97, l99, l100, l102, l119, l122, l179, l197, l200, l201, l237, l436, l437, pk_mul, nI_add, inb_nI, nclamp, dlt, dle, deq, bif_t, bif_f, bif_nt, bif_nf, aft0, aft1, decide_true, decide_false, Bool.not_true, Bool.not_false, cond_true, cond_false, Nat.add_sub_cancel, Nat.add_one_sub_one, ou9, mo1, nI_MO, OU_lt, OU_ge, Nat.not_lt_zero, Bool.or_false, Bool.or_true, Bool.true_or, Bool.false_or, Bool.and_true, Bool.and_false, Bool.true_and, Bool.false_and, bI_0n, bI_1n, Bool.not_not, q0]
          rw [upd2 c ew, eM_door_76]
          have hJ3 : mJ M (mA M2 0 (M.1 0)) := by
            refine ⟨fun k h2 h6 h7 => ?_, fun k h9 h10 h11 h13 => ?_, ?_⟩
            · by_cases hk : k = 0
              · subst hk; rw [mA_s]
              · rw [mA_n hk, n2.1 k h2 h6 h7, mA_n hk, hJ.1 k h2 h6 h7]
            · rw [mA_2, n2.2.1 k h9 h10 h11 h13, mA_2, hJ.2.1 k h9 h10 h11 h13]
            · rw [mA_2]
              rcases n2.2.2 with e | e
              · rw [e, mA_2]; exact hJ.2.2
              · exact Or.inr e
          simp (disch := omega) only [l0, l1, l2, l3, l4, l5, l6, l7, l8, l9, l10, l11, l12, l13, l14, l15, l16, l17, l18, l19, l20, l21, l22, l23, l24, l25, l26, l27, l28, l29, l30, l31, l40, l48, l52, l57, l60, l65, l97, l99, l100, l102, l119, l122, l179, l197, l200, l201, l237, l436, l437, pk_mul, nI_add, inb_nI, nclamp, dlt, dle, deq, bif_t, bif_f, bif_nt, bif_nf, aft0, aft1, decide_true, decide_false, Bool.not_true, Bool.not_false, cond_true, cond_false, Nat.add_sub_cancel, Nat.add_one_sub_one, ou9, mo1, nI_MO, OU_lt, OU_ge, Nat.not_lt_zero, Bool.or_false, Bool.or_true, Bool.true_or, Bool.false_or, Bool.and_true, Bool.and_false, Bool.true_and, Bool.false_and, bI_0n, bI_1n, Bool.not_not]
          by_cases hle : (drF nc np nb n C (M.1 0) t c).1 ≤ drV nc np nb n C (M.1 0) t c
          · simp only [hle, decide_true, cond_true] at ihs ⊢
            exact ihs _ _ _ (Or.inr ⟨_, rfl⟩) hJ3
          · simp only [hle, decide_false, cond_false] at ihs ⊢
            exact ihs _ _ _ (Or.inr ⟨_, rfl⟩) hJ3
        · have nd : decide (M.1 0 (9 + 3 * c + 2) = nI 1) = true := by rw [ew]; decide
          have yd : decide (M.1 0 (9 + 3 * c + 2) = nI 0) = false := by rw [ew]; decide
          rw [nd, cond_true] at ihs
          rw [yd, Bool.not_false, cond_true]
          exact ihs M1 _ u6 (Or.inr ⟨_, rfl⟩) hJ
    obtain ⟨M', hJ', l1'⟩ := lpM nc 0 (by omega) M0 none none (Or.inl rfl) m2
    refine op_tr (drF nc np nb n C (M.1 0) t nc).2 T' M' h hJ' ?_ ?_
    · rw [cB, hr, eB_door_4, cS_copy_59_43 (d + 37) g X N T K M dd (lawD_38 D), aft0, eB_door_20, c1, aft1, eB_door_29]
      exact b1
    · rw [hM_eq, cM, hr, eM_door_4, m1, aft1, eM_door_14]
      exact l1'
-- limit
def lmF (nc np nb n : Nat) (C : Nat → CL) (s : Nat → Int32) (t : Nat) : Nat → Nat
  | 0 => 0
  | m + 1 => bif anyH (trS nc np nb n C MO (outF s (m + 1) (np - (m + 1))) t) np then lmF nc np nb n C s t m else m + 1
theorem op_limit (d i : Nat) (g : GT) (X : XS) (N T K : SS) (M : MS) (dd : AH) (h : INV i X N K M dd) (a : Int32) : OPR d i g X N T K M dd yB_limit yM_limit [.int a] := by
  have h' := h
  obtain ⟨⟨⟨nc, np, nb, n, C, R, W, L, D⟩, wo5⟩, hK, hT, ⟨r, r24, r1, r2, hrr⟩, hH, hE, hB, hM', hD⟩ := h'
  have hnp := W.1.2.1.2
  have hnc := W.1.1.2.2
  have hnb : nb ≤ 6 := W.1.2.2.1.2
  have hm8 : M.2 8 = MO := hM'.1
  have e1 : N.2.1 1 = nI np := (R.1 1 (by omega)).trans W.1.2.1.1
  have cB : call PGM (d + 40) yB_limit [.ref 12, .int a] (heapOf g X N T K M dd) = sem PGM (d + 39) yB_limit (4, [some (.ref 12), some (.int a), none, none], [.int (bI (rng a 0 60))], heapOf g X N T K M dd) := by
    rw [kB_limit, eB_limit_0, isB_Tenths (d + 38), aft1]
  have cM : ∀ Z : ZT, call PGM (d + 40) yM_limit [.ref 91, .int a] (hM Z M) = sem PGM (d + 39) yM_limit (4, [some (.ref 91), some (.int a), none], [.int (bI (rng a 0 60))], hM Z M) := by
    intro Z
    rw [kM_limit, eM_limit_0, cM_isLong (d + 37), aft1]
  cases hr : rng a 0 60 with
  | false =>
    refine bad_tr h ?_ ?_
    · rw [cB, hr, eB_limit_4]
      rfl
    · rw [hM_eq, cM, hr, eM_limit_4]
      rfl
  | true =>
    obtain ⟨t, _, ht, rfl⟩ := rng_t (by omega) (by omega) hr
    have outs : ∀ m k j, m + j + k = np → ∀ T1 (i3 : Option Value), RS T1 (outF (M.1 0) m j) np nb → T1.2.2 = N.2.2 → T1.2.1 5 = OU → ∃ T2, sem PGM (d + 39) yB_limit (34, [some (.ref 12), some (.int (nI t)), some (.int (nI m)), some (.int (nI (m + j)))], [], heapOf g X N T1 K M dd) = aftK (sem PGM (d + 39) yB_limit) 1 (70, [some (.ref 12), some (.int (nI t)), some (.int (nI m)), some (.int (nI np))], [], heapOf g X N T2 K M dd) (call PGM (d + 39) yS_goOn [.ref 59, .int (nI t), .null] (heapOf g X N T2 K M dd)) ∧ RS T2 (outF (M.1 0) m (np - m)) np nb ∧ T2.2.2 = N.2.2 ∧ T2.2.1 5 = OU := by
      intro m k
      induction k with
      | zero =>
        intro j hj T1 i3 R1 a1 a2
        refine ⟨T1, ?_, by rw [show np - m = j by omega]; exact R1, a1, a2⟩
        rw [eB_limit_34, e1, show m + j = np by omega]
        simp (disch := omega) only [l0, l1, l2, l3, l4, l5, l6, l7, l8, l9, l10, l11, l12, l13, l14, l15, l16, l17, l18, l19, l20, l21, l22, l23, l24, l25, l26, l27, l28, l29, l30, l31, l40, l48, l52, l57, l60, l65, l97, l99, l100, l102, l119, l122, l179, l197, l200, l201, l237, l436, l437, pk_mul, nI_add, inb_nI, nclamp, dlt, dle, deq, bif_t, bif_f, bif_nt, bif_nf, aft0, aft1, decide_true, decide_false, Bool.not_true, Bool.not_false, cond_true, cond_false, Nat.add_sub_cancel, Nat.add_one_sub_one, ou9, mo1, nI_MO, OU_lt, OU_ge, Nat.not_lt_zero, Bool.or_false, Bool.or_true, Bool.true_or, Bool.false_or, Bool.and_true, Bool.and_false, Bool.true_and, Bool.false_and, bI_0n, bI_1n, Bool.not_not]
      | succ k ih =>
        intro j hj T1 i3 R1 a1 a2
        have W1 := WF_outF (m := m) W j (by omega)
        obtain ⟨kk, k1, k7, hkk⟩ := WF_upk W1 (show m + j < np by omega)
        obtain ⟨T2, s1, s2, s3⟩ := cS_seat (d + 37) (o := 59) (Or.inr rfl) (g, X, N, K, M, dd) (x := OU) R1 (show m + j < np by omega) hnp (show kk < 9 by omega) hkk (okQ_30 (W1.2.2.1 _ (by omega)).2.1 hnc) (Or.inl rfl)
        have s1' : call PGM (d + 39) yS_seat [.ref 59, .int (nI (m + j)), .int (-9)] (heapOf g X N T1 K M dd) = some (none, heapOf g X N T2 K M dd) := s1
        obtain ⟨T3, b1, b2⟩ := ih (j + 1) (by omega) T2 i3 s2 (s3.2.trans a1) (s3.1.trans a2)
        refine ⟨T3, ?_, b2⟩
        rw [eB_limit_34, e1, s1', aft0, eB_limit_55, dle (by omega) (by omega), bif_f (by omega), nI_1]
        exact b1
    have lpB : ∀ m, m ≤ np → ∀ T1 u3, ∃ T', sem PGM (d + 39) yB_limit (17, [some (.ref 12), some (.int (nI t)), some (.int (nI m)), u3], [], heapOf g X N T1 K M dd) = some (some (.int (nI (lmF nc np nb n C (M.1 0) t m))), heapOf g X N T' K M dd) := by
      intro m
      induction m with
      | zero =>
        intro _ T1 u3
        refine ⟨T1, ?_⟩
        rw [eB_limit_17, lmF]
        rfl
      | succ m ih =>
        intro hm T1 u3
        obtain ⟨T2, o1, o2, o3, o4⟩ := outs (m + 1) (np - (m + 1)) 0 (by omega) (copS N T1) none (copS_RS T1 R hnp hnb) (copS_L N T1) (copS_w N T1)
        have W1 := WF_outF (m := m + 1) W (np - (m + 1)) (by omega)
        obtain ⟨T3, d1, d2, d3⟩ := go59 (d + 32) g X N K M (wo := MO) o2 W1 (by rw [o3]; exact D) (lawM_congr L (outF_fr (by omega) _ (by omega)) (fun j hj => outF_fr (by omega) _ (by omega))) (by rw [o4]; exact wo_OU) ht
        have W2 := WF_trS (n := n) (C := C) (wo := MO) W1 t
        have hp : call PGM (d + 39) yS_heaps [.ref 59] (heapOf g X N T3 K M dd) = some (some (.int (nI (cnt (qbt (hpX (trS nc np nb n C MO (outF (M.1 0) (m + 1) (np - (m + 1))) t) np)) 32))), heapOf g X N T3 K M dd) := by
          rw [hT_eq, cS_heaps (d + 37) (o := 59) (Or.inr rfl) _ d2 hnp W2.1.2.1.1]
        have hz := hp_any hnc (fun p hp => (W2.2.2.1 p hp).2.1)
        obtain ⟨T', ih'⟩ := ih (by omega) T3 (some (.int (nI np)))
        rw [eB_limit_17, cS_copy_59_43 (d + 37) g X N T1 K M dd (lawD_38 D), aft0, eB_limit_32, l0, dle (by omega) (by omega), bif_f (by omega), lmF]
        rw [show m + 1 = m + 1 + 0 from rfl] at o1
        have o1' : sem PGM (d + 39) yB_limit (34, [some (.ref 12), some (.int (nI t)), some (.int (nI (m + 1))), some (.int (nI (m + 1)))], [], heapOf g X N (copS N T1) K M dd) = _ := o1
        rw [o1', d1, aft1, eB_limit_70, hp, aft1, eB_limit_78, hz]
        cases anyH (trS nc np nb n C MO (outF (M.1 0) (m + 1) (np - (m + 1))) t) np with
        | false => exact ⟨T3, rfl⟩
        | true =>
          refine ⟨T', ?_⟩
          have e : nI (m + 1) + (-1) = nI m := nI_m1 m
          rw [e, eB_limit_86]
          exact ih'
    obtain ⟨T', b1⟩ := lpB np (Nat.le_refl _) T none
    have lpM : ∀ m, m ≤ np → ∀ M1, mJ M M1 → ∃ M', mJ M M' ∧ sem PGM (d + 39) yM_limit (16, [some (.ref 91), some (.int (nI t)), some (.int (nI m))], [], hM (g, X, N, T', K, dd) M1) = some (some (.int (nI (lmF nc np nb n C (M.1 0) t m))), hM (g, X, N, T', K, dd) M') := by
      intro m
      induction m with
      | zero =>
        intro _ M1 hJ
        refine ⟨M1, hJ, ?_⟩
        rw [eM_limit_16, lmF]
        rfl
      | succ m ih =>
        intro hm M1 hJ
        have z0 : M1.1 0 = M.1 0 := hJ.1 0 (by omega) (by omega) (by omega)
        have z8 : M1.2 8 = MO := (hJ.2.1 8 (by omega) (by omega) (by omega) (by omega)).trans hm8
        have z14 : M1.2 14 = nI r := (hJ.2.1 14 (by omega) (by omega) (by omega) (by omega)).trans r2
        obtain ⟨M2, n1, n2⟩ := cM_isHeapedBy (d + 29) (g, X, N, T', K, dd) M1 (m + 1) nc np nb (60 * i) n t r (fun _ => 180 * i) C hm (by rw [z0]; exact W) (by rw [z0]; exact L) ht r24 z14
        rw [z8, z0] at n1
        obtain ⟨M', hJ', ih'⟩ := ih (by omega) M2 (mJ_trans hJ n2)
        rw [eM_limit_16, n1, aft1, eM_limit_26, bI_ne0, l0, dle (by omega) (by omega), bif_f (by omega), lmF]
        cases anyH (trS nc np nb n C MO (outF (M.1 0) (m + 1) (np - (m + 1))) t) np with
        | false => exact ⟨M2, mJ_trans hJ n2, rfl⟩
        | true =>
          refine ⟨M', hJ', ?_⟩
          have e : nI (m + 1) + (-1) = nI m := nI_m1 m
          rw [cond_true, e, eM_limit_34]
          exact ih'
    obtain ⟨M', hJ', m1⟩ := lpM np (Nat.le_refl _) M (mJ_refl M)
    refine op_tr (nI (lmF nc np nb n C (M.1 0) t np)) T' M' h hJ' ?_ ?_
    · rw [cB, hr, eB_limit_4, e1]
      exact b1
    · rw [hM_eq, cM, hr, eM_limit_4, W.1.2.1.1]
      exact m1
-- morning
theorem or_0 (x : Int32) : x ||| 0 = x := Int32.or_zero
theorem op_morning (d i : Nat) (g : GT) (X : XS) (N T K : SS) (M : MS) (dd : AH) (h : INV i X N K M dd) (a : Int32) : OPR d i g X N T K M dd yB_morning yM_morning [.int a] := by
  have h' := h
  obtain ⟨⟨⟨nc, np, nb, n, C, R, W, L, D⟩, wo5⟩, hK, hT, ⟨r, r24, r1, r2, hrr⟩, hH, hE, hB, hM', hD⟩ := h'
  have hnp := W.1.2.1.2
  have hnc := W.1.1.2.2
  have cM : ∀ Z : ZT, call PGM (d + 40) yM_morning [.ref 91, .int a] (hM Z M) = sem PGM (d + 39) yM_morning (9, [some (.ref 91), some (.int a), none, none, none, none, none], [.int (bI (rng a 0 3))], hM Z M) := by
    intro Z
    rw [kM_morning, eM_morning_0, w0, w3, cM_rng (d + 38), aft1]
  cases hr : rng a 0 3 with
  | false =>
    refine bad_tr h ?_ ?_
    · rw [kB_morning, eB_morning_0]
      simp (disch := omega) only [l0, l1, l2, l3, l4, l5, l6, l7, l8, l9, l10, l11, l12, l13, l14, l15, l16, l17, l18, l19, l20, l21, l22, l23, l24, l25, l26, l27, l28, l29, l30, l31, l40, l48, l52, l57, l60, l65, l97, l99, l100, l102, l119, l122, l179, l197, l200, l201, l237, l436, l437, pk_mul, nI_add, inb_nI, nclamp, dlt, dle, deq, bif_t, bif_f, bif_nt, bif_nf, aft0, aft1, decide_true, decide_false, Bool.not_true, Bool.not_false, cond_true, cond_false, Nat.add_sub_cancel, Nat.add_one_sub_one, ou9, mo1, nI_MO, OU_lt, OU_ge, Nat.not_lt_zero, Bool.or_false, Bool.or_true, Bool.true_or, Bool.false_or, Bool.and_true, Bool.and_false, Bool.true_and, Bool.false_and, bI_0n, bI_1n, Bool.not_not, o0, o1, o2, o3, rng_ne hr (show 0 ≤ 0 by omega) (show 0 ≤ 3 by omega) (by omega), rng_ne hr (show 0 ≤ 1 by omega) (show 1 ≤ 3 by omega) (by omega), rng_ne hr (show 0 ≤ 2 by omega) (show 2 ≤ 3 by omega) (by omega), rng_ne hr (show 0 ≤ 3 by omega) (show 3 ≤ 3 by omega) (by omega)]
    · rw [hM_eq, cM, hr, eM_morning_9]
      rfl
  | true =>
    obtain ⟨w, _, hw, rfl⟩ := rng_t (by omega) (by omega) hr
    -- the model: over PEOPLE, then over CELLS
    have lp1 : ∀ (Z : ZT) k j, j + k = np → ∀ u6, sem PGM (d + 39) yM_morning (24, [some (.ref 91), some (.int (nI w)), some (.int (huS (M.1 0) j)), some (.int (nI (ouN (M.1 0) j))), some (.int (hpX (M.1 0) j)), some (.int (nI j)), u6], [], hM Z M) = sem PGM (d + 39) yM_morning (118, [some (.ref 91), some (.int (nI w)), some (.int (huS (M.1 0) np)), some (.int (nI (ouN (M.1 0) np))), some (.int (hpX (M.1 0) np)), some (.int (nI 0)), some (.int (nI 0))], [], hM Z M) := by
      intro Z k
      induction k with
      | zero =>
        intro j hj u6
        have ej : j = np := by omega
        subst ej
        rw [eM_morning_24, W.1.2.1.1]
        simp (disch := omega) only [l0, l1, l2, l3, l4, l5, l6, l7, l8, l9, l10, l11, l12, l13, l14, l15, l16, l17, l18, l19, l20, l21, l22, l23, l24, l25, l26, l27, l28, l29, l30, l31, l40, l48, l52, l57, l60, l65, l97, l99, l100, l102, l119, l122, l179, l197, l200, l201, l237, l436, l437, pk_mul, nI_add, inb_nI, nclamp, dlt, dle, deq, bif_t, bif_f, bif_nt, bif_nf, aft0, aft1, decide_true, decide_false, Bool.not_true, Bool.not_false, cond_true, cond_false, Nat.add_sub_cancel, Nat.add_one_sub_one, ou9, mo1, nI_MO, OU_lt, OU_ge, Nat.not_lt_zero, Bool.or_false, Bool.or_true, Bool.true_or, Bool.false_or, Bool.and_true, Bool.and_false, Bool.true_and, Bool.false_and, bI_0n, bI_1n, Bool.not_not]
      | succ k ih =>
        intro j hj u6
        have ih' := ih (j + 1) (by omega) u6
        have eo : ouN (M.1 0) (j + 1) = ouN (M.1 0) j + (bif decide (M.1 0 (99 + 4 * j + 1) < 0) then 1 else 0) := rfl
        rw [huS, eo, hpX] at ih'
        rw [← ih', eM_morning_24, W.1.2.1.1, cM_whereIs (d + 38) Z M j (by omega), aft1, eM_morning_59, cM_whereIs (d + 38) Z M j (by omega), aft1, aft1, eM_morning_77, eM_morning_77, cM_kindOf (d + 38) Z M j (by omega), aft1, aft1, eM_morning_86, eM_morning_86, cM_whereIs (d + 38) Z M j (by omega), aft1, aft1, eM_morning_98, eM_morning_98, or_0, le_not_lt 0]
        simp (disch := omega) only [l0, l1, l2, l3, l4, l5, l6, l7, l8, l9, l10, l11, l12, l13, l14, l15, l16, l17, l18, l19, l20, l21, l22, l23, l24, l25, l26, l27, l28, l29, l30, l31, l40, l48, l52, l57, l60, l65, l97, l99, l100, l102, l119, l122, l179, l197, l200, l201, l237, l436, l437, pk_mul, nI_add, inb_nI, nclamp, dlt, dle, deq, bif_t, bif_f, bif_nt, bif_nf, aft0, aft1, decide_true, decide_false, Bool.not_true, Bool.not_false, cond_true, cond_false, Nat.add_sub_cancel, Nat.add_one_sub_one, ou9, mo1, nI_MO, OU_lt, OU_ge, Nat.not_lt_zero, Bool.or_false, Bool.or_true, Bool.true_or, Bool.false_or, Bool.and_true, Bool.and_false, Bool.true_and, Bool.false_and, bI_0n, bI_1n, Bool.not_not, Nat.add_zero]
        cases decide (M.1 0 (99 + 4 * j + 1) < nI 0) <;> cases decide (M.1 0 (99 + 4 * j) = nI 6) <;> rfl
    have bit1 : ∀ c, c < 30 → ((hpX (M.1 0) np >>> (nI c &&& 31)) &&& 1) = bI (qbt (hpX (M.1 0) np) c) := by
      intro c hc
      refine qb_ext (fun k hk => ?_)
      rw [qb_and, qb_sshr c (by omega) _ hk, qb_1 hk]
      have e0 : ∀ b : Bool, qbt (bI b) k = (b && decide (k = 0)) := by
        intro b
        cases b with
        | true => exact qb_1 hk
        | false => exact (by decide +kernel : ∀ i, i < 32 → qbt 0 i = false) k hk
      rw [e0]
      by_cases hk0 : k = 0
      · subst hk0
        rw [if_pos (by omega)]
        rfl
      · simp [hk0]
    have lp2 : ∀ (Z : ZT) (x2 x3 : Int32) k c, c + k = 30 → sem PGM (d + 39) yM_morning (118, [some (.ref 91), some (.int (nI w)), some (.int x2), some (.int x3), some (.int (hpX (M.1 0) np)), some (.int (nI (cnt (qbt (hpX (M.1 0) np)) c))), some (.int (nI c))], [], hM Z M) = some (some (.int (bif decide (nI w = 0) then M.1 0 3 else bif decide (nI w = 1) then x2 else bif decide (nI w = 2) then x3 else nI (cnt (qbt (hpX (M.1 0) np)) 30))), hM Z M) := by
      intro Z x2 x3 k
      induction k with
      | zero =>
        intro c hc
        have ec : c = 30 := by omega
        subst ec
        rw [eM_morning_118]
        have z : decide ((30 : Int32) ≤ nI 30) = true := by decide
        rw [z, cond_true]
        cases decide (nI w = 0) <;> cases decide (nI w = 1) <;> cases decide (nI w = 2) <;> rfl
      | succ k ih =>
        intro c hc
        have ih' := ih (c + 1) (by omega)
        have ec : cnt (qbt (hpX (M.1 0) np)) (c + 1) = cnt (qbt (hpX (M.1 0) np)) c + (bif qbt (hpX (M.1 0) np) c then 1 else 0) := rfl
        have z : decide ((30 : Int32) ≤ nI c) = false := by rw [show (30 : Int32) = nI 30 from rfl, dle (by omega) (by omega)]; simp; omega
        rw [← ih', eM_morning_118, z, cond_false, bit1 c (by omega), nI_1, ec]
        cases qbt (hpX (M.1 0) np) c with
        | true =>
          have : bI true = nI 1 := rfl
          rw [this, nI_add]
          rfl
        | false =>
          have : bI false = nI 0 := rfl
          rw [this, add0]
          rfl
    have mF : ∀ Z : ZT, call PGM (d + 40) yM_morning [.ref 91, .int (nI w)] (hM Z M) = some (some (.int (bif decide (nI w = 0) then M.1 0 3 else bif decide (nI w = 1) then huS (M.1 0) np else bif decide (nI w = 2) then nI (ouN (M.1 0) np) else nI (cnt (qbt (hpX (M.1 0) np)) 30))), hM Z M) := by
      intro Z
      rw [cM, hr, eM_morning_9]
      exact (lp1 Z np 0 (by omega) none).trans (lp2 Z _ _ 30 0 (by omega))
    have hpc := hpX_30 hnc (fun p hp => (W.2.2.1 p hp).2.1)
    have b1 : call PGM (d + 39) yS_allHurts [.ref 43] (heapOf g X N T K M dd) = some (some (.int (huS (M.1 0) np)), heapOf g X N T K M dd) := by
      rw [hN_eq, cS_allHurts (d + 38) (o := 43) (Or.inl rfl) _ R hnp W.1.2.1.1]
    have b2 : call PGM (d + 39) yS_peopleOut [.ref 43] (heapOf g X N T K M dd) = some (some (.int (nI (ouN (M.1 0) np))), heapOf g X N T K M dd) := by
      rw [hN_eq, cS_peopleOut (d + 37) (o := 43) (Or.inl rfl) _ R hnp W.1.2.1.1]
    have b3 : call PGM (d + 39) yS_heaps [.ref 43] (heapOf g X N T K M dd) = some (some (.int (nI (cnt (qbt (hpX (M.1 0) np)) 30))), heapOf g X N T K M dd) := by
      rw [hN_eq, cS_heaps (d + 37) (o := 43) (Or.inl rfl) _ R hnp W.1.2.1.1, hpc]
    refine op_ro (bif decide (nI w = 0) then M.1 0 3 else bif decide (nI w = 1) then huS (M.1 0) np else bif decide (nI w = 2) then nI (ouN (M.1 0) np) else nI (cnt (qbt (hpX (M.1 0) np)) 30)) h ?_ (by rw [hM_eq, mF])
    rw [kB_morning, eB_morning_0, b1, b2, b3, aft1, aft1, aft1, eB_morning_47, eB_morning_55, eB_morning_63, R.1 3 (by omega)]
    have e : w = 0 ∨ w = 1 ∨ w = 2 ∨ w = 3 := by omega
    rcases e with e | e | e | e <;> subst e <;> rfl
