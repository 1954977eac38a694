/-! Calls of both: widths, shelf. -/
theorem lg_sum (i : Int32) {k : Nat} (hk : k < 1000) : (i.toInt64 + (nI k).toInt64).toInt = i.toInt + (k : Int) := by
  have h1 := i.toInt_lt
  have h2 := i.le_toInt
  rw [Int64.toInt_add, Int32.toInt_toInt64, Int32.toInt_toInt64, nI_toInt (by omega)]
  refine Int.bmod_eq_of_le ?_ ?_ <;> omega
theorem lg_back (i : Int32) {k : Nat} (hk : k < 1000) : (i.toInt64 + (nI k).toInt64).toInt32 = i + nI k := by
  apply Int32.toInt_inj.mp
  rw [Int64.toInt_toInt32, lg_sum i hk, Int32.toInt_add, nI_toInt (by omega)]
theorem wd_inL (i : Int32) {k n : Nat} (hk : k < 1000) (hn : n ≤ 40) : (decide ((0 : Int64) ≤ i.toInt64 + (nI k).toInt64) && decide (i.toInt64 + (nI k).toInt64 ≤ (nI n - 1).toInt64)) = hasB (i + nI k) n := by
  have h1 := i.toInt_lt
  have h2 := i.le_toInt
  have z : (0 : Int64).toInt = 0 := rfl
  have z' : (0 : Int32).toInt = 0 := rfl
  have e1 : (nI n - 1).toInt = (n : Int) - 1 := by
    rw [Int32.toInt_sub, nI_toInt (by omega)]
    have : (1 : Int32).toInt = 1 := rfl
    rw [this]
    refine Int.bmod_eq_of_le ?_ ?_ <;> omega
  have e2 : (i + nI k).toInt = (i.toInt + (k : Int)).bmod (2 ^ 32) := by rw [Int32.toInt_add, nI_toInt (by omega)]
  have e3 : (i + nI k).toInt = if i.toInt + (k : Int) < 2147483648 then i.toInt + (k : Int) else i.toInt + (k : Int) - 4294967296 := by
    rw [e2]
    by_cases hs : i.toInt + (k : Int) < 2147483648
    · rw [if_pos hs]
      refine Int.bmod_eq_of_le ?_ ?_ <;> omega
    · rw [if_neg hs, Int.bmod_def]
      split <;> omega
  unfold hasB
  rw [show (decide ((0 : Int64) ≤ i.toInt64 + (nI k).toInt64)) = decide (0 ≤ i.toInt + (k : Int)) by rw [decide_eq_decide, Int64.le_iff_toInt_le, lg_sum i hk, z]]
  rw [show (decide (i.toInt64 + (nI k).toInt64 ≤ (nI n - 1).toInt64)) = decide (i.toInt + (k : Int) ≤ (n : Int) - 1) by rw [decide_eq_decide, Int64.le_iff_toInt_le, lg_sum i hk, Int32.toInt_toInt64, e1]]
  rw [show (decide (i + nI k < 0)) = decide ((i + nI k).toInt < 0) by rw [decide_eq_decide, Int32.lt_iff_toInt_lt, z']]
  rw [show (decide (i + nI k < nI n)) = decide ((i + nI k).toInt < (n : Int)) by rw [decide_eq_decide, Int32.lt_iff_toInt_lt, nI_toInt (by omega)]]
  rw [e3]
  by_cases hs : i.toInt + (k : Int) < 2147483648
  · rw [if_pos hs]
    by_cases a : 0 ≤ i.toInt + (k : Int)
    · have b : ¬ i.toInt + (k : Int) < 0 := by omega
      by_cases c : i.toInt + (k : Int) < (n : Int)
      · have c' : i.toInt + (k : Int) ≤ (n : Int) - 1 := by omega
        simp [a, b, c, c']
      · have c' : ¬ i.toInt + (k : Int) ≤ (n : Int) - 1 := by omega
        simp [c, c']
    · have b : i.toInt + (k : Int) < 0 := by omega
      simp [a, b]
  · rw [if_neg hs]
    have a : ¬ i.toInt + (k : Int) ≤ (n : Int) - 1 := by omega
    have b : i.toInt + (k : Int) - 4294967296 < 0 := by omega
    simp [a, b]
/-- widths from a row, CELL by CELL -/
def wdR (nc nn : Nat) (f : Nat → Int32) (i : Int32) : Nat → Nat → Nat → (Nat → Int32) → (Nat → Int32) × Int32
  | 0, _, came, s => (s, nI came)
  | m + 1, k, came, s => bif hasB (i + nI k) nn then (bif decide (k < nc) && rng (f (i + nI k).toNatClampNeg) 1 9 then wdR nc nn f i m (k + 1) (came + 1) (upd s (9 + 3 * k) (f (i + nI k).toNatClampNeg)) else wdR nc nn f i m (k + 1) came s) else (s, -12)
theorem cB_cellW (d : Nat) (g : GT) (X : XS) {N : SS} (T K : SS) (M : MS) (dd : AH) {s : Nat → Int32} {nc np nb : Nat} (hnc : nc ≤ 30) (e0 : N.2.1 0 = nI nc) (k : Nat) (hk : k < 30) (v : Int32) : call PGM (d + 2) yB_cell [.ref 12, .int (nI k), .int 0, .int v] (heapOf g X N T K M dd) = bif decide (k < nc) && rng v 1 9 then some (some (.int (N.1 0 k)), heapOf g X (sA N 0 (upd (N.1 0) k v)) T K M dd) else some (some (.int MO), heapOf g X N T K M dd) := by
  rw [kB_cell, eB_cell_0, cN_hasCell d g X T K M dd _ e0, aft1, eB_cell_8, has_n (by omega) (by omega)]
  have z0 : (0 : Int32).toNatClampNeg = 0 := rfl
  rw [z0, g40, g50]
  by_cases hc : k < nc
  · rcases rng3 v (lo := 1) (hi := 9) (by omega) (by omega) with ⟨x, x1, x9, rfl⟩ | ⟨hr, h1⟩ | ⟨hr, h1, h2, h3⟩
    · have rt : rng (nI x) 1 9 = true := by rw [rng_n (by omega) (by omega) (by omega)]; simp; omega
      simp (disch := omega) only [l0, l1, l2, l3, l4, l5, l6, l7, l8, l9, l10, l11, l12, l13, l14, l15, l16, l17, l18, l19, l20, l21, l22, l23, l24, l25, l26, l27, l28, l29, l30, l31, l40, l48, l52, l57, l60, l65, l97, l99, l100, l102, l119, l122, l179, l197, l200, l201, l237, l436, l437, pk_mul, nI_add, inb_nI, nclamp, dlt, dle, deq, bif_t, bif_f, bif_nt, bif_nf, aft0, aft1, decide_true, decide_false, Bool.not_true, Bool.not_false, cond_true, cond_false, Nat.add_sub_cancel, Nat.add_one_sub_one, ou9, mo1, nI_MO, OU_lt, OU_ge, Nat.not_lt_zero, Bool.or_false, Bool.or_true, Bool.true_or, Bool.false_or, Bool.and_true, Bool.and_false, Bool.true_and, Bool.false_and, bI_0n, bI_1n, Bool.not_not, hc, rt]
    · simp (disch := omega) only [l0, l1, l2, l3, l4, l5, l6, l7, l8, l9, l10, l11, l12, l13, l14, l15, l16, l17, l18, l19, l20, l21, l22, l23, l24, l25, l26, l27, l28, l29, l30, l31, l40, l48, l52, l57, l60, l65, l97, l99, l100, l102, l119, l122, l179, l197, l200, l201, l237, l436, l437, pk_mul, nI_add, inb_nI, nclamp, dlt, dle, deq, bif_t, bif_f, bif_nt, bif_nf, aft0, aft1, decide_true, decide_false, Bool.not_true, Bool.not_false, cond_true, cond_false, Nat.add_sub_cancel, Nat.add_one_sub_one, ou9, mo1, nI_MO, OU_lt, OU_ge, Nat.not_lt_zero, Bool.or_false, Bool.or_true, Bool.true_or, Bool.false_or, Bool.and_true, Bool.and_false, Bool.true_and, Bool.false_and, bI_0n, bI_1n, Bool.not_not, hc, hr, h1]
    · simp (disch := omega) only [l0, l1, l2, l3, l4, l5, l6, l7, l8, l9, l10, l11, l12, l13, l14, l15, l16, l17, l18, l19, l20, l21, l22, l23, l24, l25, l26, l27, l28, l29, l30, l31, l40, l48, l52, l57, l60, l65, l97, l99, l100, l102, l119, l122, l179, l197, l200, l201, l237, l436, l437, pk_mul, nI_add, inb_nI, nclamp, dlt, dle, deq, bif_t, bif_f, bif_nt, bif_nf, aft0, aft1, decide_true, decide_false, Bool.not_true, Bool.not_false, cond_true, cond_false, Nat.add_sub_cancel, Nat.add_one_sub_one, ou9, mo1, nI_MO, OU_lt, OU_ge, Nat.not_lt_zero, Bool.or_false, Bool.or_true, Bool.true_or, Bool.false_or, Bool.and_true, Bool.and_false, Bool.true_and, Bool.false_and, bI_0n, bI_1n, Bool.not_not, hc, hr, h1, h3]
  · simp (disch := omega) only [l0, l1, l2, l3, l4, l5, l6, l7, l8, l9, l10, l11, l12, l13, l14, l15, l16, l17, l18, l19, l20, l21, l22, l23, l24, l25, l26, l27, l28, l29, l30, l31, l40, l48, l52, l57, l60, l65, l97, l99, l100, l102, l119, l122, l179, l197, l200, l201, l237, l436, l437, pk_mul, nI_add, inb_nI, nclamp, dlt, dle, deq, bif_t, bif_f, bif_nt, bif_nf, aft0, aft1, decide_true, decide_false, Bool.not_true, Bool.not_false, cond_true, cond_false, Nat.add_sub_cancel, Nat.add_one_sub_one, ou9, mo1, nI_MO, OU_lt, OU_ge, Nat.not_lt_zero, Bool.or_false, Bool.or_true, Bool.true_or, Bool.false_or, Bool.and_true, Bool.and_false, Bool.true_and, Bool.false_and, bI_0n, bI_1n, Bool.not_not, hc]
theorem op_widths (d i : Nat) (g : GT) (X : XS) (N T K : SS) (M : MS) (dd : AH) (h : INV i X N K M dd) (a b c : Int32) : OPR d i g X N T K M dd yB_widths yM_widths [.int a, .int b, .int c] := by
  have h' := h
  obtain ⟨⟨⟨nc, np, nb, n, C, R, W, L, D⟩, wo5⟩, hK, hT, hR, hH, hE, hB, hM', hD⟩ := h'
  have hnp := W.1.2.1.2
  have hnc := W.1.1.2.2
  have cB : call PGM (d + 40) yB_widths [.ref 12, .int a, .int b, .int c] (heapOf g X N T K M dd) = sem PGM (d + 39) yB_widths (4, [some (.ref 12), some (.int a), some (.int b), some (.int c), none, none, none], [.int (bI (hasB a 4))], heapOf g X N T K M dd) := by
    rw [kB_widths, eB_widths_0, isB_Holder (d + 38), aft1]
  have cM : ∀ Z : ZT, call PGM (d + 40) yM_widths [.ref 91, .int a, .int b, .int c] (hM Z M) = bif hasB a 4 then sem PGM (d + 39) yM_widths (16, [some (.ref 91), some (.int a), some (.int b), some (.int c), none, none, none, none, none, none], [.int (bI (rng c 0 30))], hM Z M) else some (some (.int MO), hM Z M) := by
    intro Z
    rw [kM_widths, eM_widths_0, cM_isOne (d + 37), aft1, eM_widths_4, bI_0, w0, w30, cM_rng (d + 38), aft1]
    cases hasB a 4 <;> rfl
  cases ha : hasB a 4 with
  | false =>
    refine op_ro MO h ?_ ?_
    · rw [cB, ha, eB_widths_4]
      rfl
    · rw [hM_eq, cM, ha]
      rfl
  | true =>
    obtain ⟨sh, hsh, rfl⟩ := has_t (by omega) ha
    have k4 : decide (sh < 4) = true := by simp [hsh]
    rcases rng3 c (lo := 0) (hi := 30) (by omega) (by omega) with ⟨m, _, hm, rfl⟩ | ⟨hr, hc⟩ | ⟨hr, hc1, hc2, hc3⟩
    · have rt : rng (nI m) 0 30 = true := by rw [rng_n (by omega) (by omega) (by omega)]; simp; omega
      have v1 : decide (nI m < 0) = false := by rw [l0, dlt (by omega) (by omega)]; simp
      have v2 : decide (nI m ≤ 30) = true := by rw [show (30 : Int32) = nI 30 from rfl, dle (by omega) (by omega)]; simp; omega
      rcases hold2 (hH.1 sh hsh) with ⟨e1, e2⟩ | ⟨j, t, nn, f, e1, hs, e2, e3, e4⟩
      · refine op_ro (-11) h ?_ ?_
        · rw [cB, ha, eB_widths_4, inb_nI (by omega), k4, nclamp (by omega), e1, v1, v2]
          rfl
        · have tk : ∀ Z : ZT, call PGM (d + 39) yM_taking [.ref 91, .int (nI sh), .int 0] (hM Z M) = some (some (.int (-11)), hM Z M) := by
            intro Z
            rw [kM_taking, eM_taking_0, inb_nI (by omega), k4, nclamp (by omega), e2]
            rfl
          rw [hM_eq, cM, ha, rt, cond_true, eM_widths_16, tk, aft1, eM_widths_27]
          rfl
      · have ht := hs.1
        have hn := hs.2.1
        have b9 : Nat.beq (j + 108) 9 = false := by
          cases e : Nat.beq (j + 108) 9 with
          | false => rfl
          | true => have := Nat.eq_of_beq_eq_true e; omega
        have b12 : Nat.ble 12 (j + 108) = true := Nat.ble_eq_true_of_le (by omega)
        have z6 : decide ((0 : Int32) ≤ nI t) = true := by rw [l0, dle (by omega) (by omega)]; simp
        have tk : ∀ Z : ZT, call PGM (d + 39) yM_taking [.ref 91, .int (nI sh), .int 0] (hM Z M) = some (some (.int (bif decide (t = 0) then 0 else -13)), hM Z M) := by
          intro Z
          rw [kM_taking, eM_taking_0, inb_nI (by omega), k4, nclamp (by omega), e2, z6, l0, deq (by omega) (by omega)]
          cases decide (t = 0) <;> rfl
        have cB2 : call PGM (d + 40) yB_widths [.ref 12, .int (nI sh), .int b, .int (nI m)] (heapOf g X N T K M dd) = bif decide (t = 0) then sem PGM (d + 39) yB_widths (52, [some (.ref 12), some (.int (nI sh)), some (.int b), some (.int (nI m)), some (.ref (j + 108)), some (.int 0), some (.int 0)], [], heapOf g X N T K M dd) else some (some (.int (-13)), heapOf g X N T K M dd) := by
          obtain ⟨s1, s2, s3, s4, s5, s6, s7, s8, s9⟩ := sh_ok (g := g) (X := X) (N := N) (T := T) (K := K) (M := M) hs
          rw [cB, ha, eB_widths_4, inb_nI (by omega), k4, nclamp (by omega), e1, v1, v2]
          show (bif false then _ else bif false then _ else bif true then bif false then _ else bif true && Nat.ble 12 (j + 108) then bif !(Nat.beq (j + 108) 9) then bif okI (heapOf g X N T K M dd) (j + 108) 4 0 then bif decide (gI (heapOf g X N T K M dd) (j + 108) 0 = nI 0) then _ else _ else none else none else none else _) = _
          rw [b9, b12, s2, s3, deq (by omega) (by omega)]
          rfl
        by_cases et0 : t = 0
        · have ey : decide (t = 0) = true := by simp [et0]
          have lpB : ∀ q k, k + q = m → ∀ (N1 : SS) (s : Nat → Int32) (came : Nat), RS N1 s np nb → WF s nc np nb (60 * i) (fun _ => 180 * i) → lawM s n C → N1.2.1 0 = nI nc → ∃ N2, sem PGM (d + 39) yB_widths (52, [some (.ref 12), some (.int (nI sh)), some (.int b), some (.int (nI m)), some (.ref (j + 108)), some (.int (nI came)), some (.int (nI k))], [], heapOf g X N1 T K M dd) = some (some (.int (wdR nc nn f b q k came s).2), heapOf g X N2 T K M dd) ∧ RS N2 (wdR nc nn f b q k came s).1 np nb ∧ WF (wdR nc nn f b q k came s).1 nc np nb (60 * i) (fun _ => 180 * i) ∧ lawM (wdR nc nn f b q k came s).1 n C ∧ sF N1 N2 := by
            intro q
            induction q with
            | zero =>
              intro k hk N1 s came R1 W1 L1 z1
              refine ⟨N1, ?_, R1, W1, L1, sF_refl N1⟩
              rw [eB_widths_52]
              simp (disch := omega) only [l0, l1, l2, l3, l4, l5, l6, l7, l8, l9, l10, l11, l12, l13, l14, l15, l16, l17, l18, l19, l20, l21, l22, l23, l24, l25, l26, l27, l28, l29, l30, l31, l40, l48, l52, l57, l60, l65, l97, l99, l100, l102, l119, l122, l179, l197, l200, l201, l237, l436, l437, pk_mul, nI_add, inb_nI, nclamp, dlt, dle, deq, bif_t, bif_f, bif_nt, bif_nf, aft0, aft1, decide_true, decide_false, Bool.not_true, Bool.not_false, cond_true, cond_false, Nat.add_sub_cancel, Nat.add_one_sub_one, ou9, mo1, nI_MO, OU_lt, OU_ge, Nat.not_lt_zero, Bool.or_false, Bool.or_true, Bool.true_or, Bool.false_or, Bool.and_true, Bool.and_false, Bool.true_and, Bool.false_and, bI_0n, bI_1n, Bool.not_not]
              rfl
            | succ q ih =>
              intro k hk N1 s came R1 W1 L1 z1
              obtain ⟨s1, s2, s3, s4, s5, s6, s7, s8, s9⟩ := sh_ok (g := g) (X := X) (N := N1) (T := T) (K := K) (M := M) hs
              have km : decide (nI m ≤ nI k) = false := by rw [dle (by omega) (by omega)]; simp; omega
              rw [eB_widths_52, km, s1, cH_has (d + 38) g X N1 T K M hs, aft1, eB_widths_67, wdR]
              cases hb : hasB (b + nI k) nn with
              | false => exact ⟨N1, rfl, R1, W1, L1, sF_refl N1⟩
              | true =>
                obtain ⟨x, hx, ex⟩ := has_t (by omega) hb
                rw [ex, nclamp (by omega), s4, s5, s6, (s9 x hx).1, (s9 x hx).2.1, cB_cellW (s := s) (np := np) (nb := nb) (d + 37) g X T K M dd hnc z1 k (by omega)]
                rw [bI_ne0]
                simp only [cond_true, cond_false, Bool.and_true]
                cases hh : decide (k < nc) && rng (f x) 1 9 with
                | false =>
                  rw [cond_false, cond_false, aft1, eB_widths_90]
                  have zz : decide (MO = -1) = true := by decide
                  rw [zz, cond_true, nI_1]
                  exact ih (k + 1) (by omega) N1 s came R1 W1 L1 z1
                | true =>
                  rw [Bool.and_eq_true] at hh
                  have hk' : k < nc := of_decide_eq_true hh.1
                  obtain ⟨y, y1, y9, ey'⟩ := rng_t (by omega) (by omega) hh.2
                  obtain ⟨w, ww1, ww9, ew⟩ := (W1.2.1 k (by omega)).1
                  have nw : N1.1 0 k = nI w := (R1.2.1 k (by omega)).1.trans ew
                  have zz : decide (nI w = -1) = false := by
                    have : ¬ nI w = MO := by
                      intro e
                      have := congrArg Int32.toInt e
                      rw [MO_int, nI_toInt (by omega)] at this
                      omega
                    show decide (nI w = MO) = false
                    simp [this]
                  rw [cond_true, cond_true, aft1, eB_widths_90, nw, zz, cond_false, nI_1, nI_1]
                  have R2 : RS (sA N1 0 (upd (N1.1 0) k (f x))) (upd s (9 + 3 * k) (f x)) np nb := RS_c (w := 0) R1 hnp (by omega) (by omega)
                  have W2 : WF (upd s (9 + 3 * k) (f x)) nc np nb (60 * i) (fun _ => 180 * i) := by
                    rw [ey']
                    exact WF_cell (w := 0) W1 (by omega) (by omega) (by omega) (by omega) (by omega)
                  obtain ⟨N2, c1, c2, c3, c4, c5⟩ := ih (k + 1) (by omega) _ _ (came + 1) R2 W2 (lawM_congr L1 (upd_ne (by omega)) (fun j hj => upd_ne (by omega))) z1
                  exact ⟨N2, c1, c2, c3, c4, sF_trans ⟨rfl, rfl⟩ c5⟩
          have e0 : N.2.1 0 = nI nc := (R.1 0 (by omega)).trans W.1.1.1
          obtain ⟨N', b1, b2, b3, b4, b5⟩ := lpB m 0 (by omega) N (M.1 0) 0 R W L e0
          have lpM : ∀ q k, k + q = m → ∀ (s : Nat → Int32) (came : Nat) (u7 u9 : Option Value), s 0 = nI nc → sem PGM (d + 39) yM_widths (43, [some (.ref 91), some (.int (nI sh)), some (.int b), some (.int (nI m)), some (.int 0), some (.int (nI came)), some (.int (nI k)), u7, none, u9], [], hM (g, X, N', T, K, dd) (mA M 0 s)) = some (some (.int (wdR nc nn f b q k came s).2), hM (g, X, N', T, K, dd) (mA M 0 (wdR nc nn f b q k came s).1)) := by
            intro q
            induction q with
            | zero =>
              intro k hk s came u7 u9 z1
              rw [eM_widths_43]
              simp (disch := omega) only [l0, l1, l2, l3, l4, l5, l6, l7, l8, l9, l10, l11, l12, l13, l14, l15, l16, l17, l18, l19, l20, l21, l22, l23, l24, l25, l26, l27, l28, l29, l30, l31, l40, l48, l52, l57, l60, l65, l97, l99, l100, l102, l119, l122, l179, l197, l200, l201, l237, l436, l437, pk_mul, nI_add, inb_nI, nclamp, dlt, dle, deq, bif_t, bif_f, bif_nt, bif_nf, aft0, aft1, decide_true, decide_false, Bool.not_true, Bool.not_false, cond_true, cond_false, Nat.add_sub_cancel, Nat.add_one_sub_one, ou9, mo1, nI_MO, OU_lt, OU_ge, Nat.not_lt_zero, Bool.or_false, Bool.or_true, Bool.true_or, Bool.false_or, Bool.and_true, Bool.and_false, Bool.true_and, Bool.false_and, bI_0n, bI_1n, Bool.not_not]
              rfl
            | succ q ih =>
              intro k hk s came u7 u9 z1
              have km : decide (nI m ≤ nI k) = false := by rw [dle (by omega) (by omega)]; simp; omega
              have q10 : (mA M 0 s).1 10 = M.1 10 := mA_n (by omega)
              have q11 : (mA M 0 s).1 11 = M.1 11 := mA_n (by omega)
              rw [eM_widths_43, km, inb_nI (by omega), k4, nclamp (by omega), q10, e3, cM_in (d + 38), wd_inL b (by omega) hn, aft1, eM_widths_72, wdR, lg_back b (by omega), q11, cM_isCell (d + 37) _ (mA M 0 s) (nI k) hnc (by rw [mA_s]; exact z1), has_n (by omega) (by omega)]
              cases hb : hasB (b + nI k) nn with
              | false => rfl
              | true =>
                obtain ⟨x, hx, ex⟩ := has_t (by omega) hb
                have k40 : decide (40 * sh + x < 160) = true := by simp; omega
                have e40 : (40 : Int32) * nI sh + nI x = nI (40 * sh + x) := by rw [show (40 : Int32) = nI 40 from rfl, pk_mul, nI_add]
                rw [ex, nclamp (by omega), e40, inb_nI (by omega), k40, nclamp (by omega), ← e4 x hx, bI_ne0]
                simp only [cond_true, cond_false]
                rw [aft1, eM_widths_99, bI_0, w1, w9, cM_rng (d + 38), aft1, eM_widths_112, bI_0, nI_1]
                have k99 : decide (9 + 3 * k < 437) = true := by simp; omega
                have e9 : (9 : Int32) + 3 * nI k = nI (9 + 3 * k) := by rw [show (9 : Int32) = nI 9 from rfl, show (3 : Int32) = nI 3 from rfl, pk_mul, nI_add]
                rw [e9, inb_nI (by omega), k99, nclamp (by omega), mA_s, mA_mA, eM_widths_129, nI_1, nI_1]
                cases h1 : decide (k < nc) with
                | false => exact ih (k + 1) (by omega) s came _ _ z1
                | true =>
                  cases h2 : rng (f x) 1 9 with
                  | false => exact ih (k + 1) (by omega) s came _ _ z1
                  | true => exact ih (k + 1) (by omega) (upd s (9 + 3 * k) (f x)) (came + 1) _ _ (by rw [upd_ne (by omega)]; exact z1)
          have m1 := lpM m 0 (by omega) (M.1 0) 0 none none W.1.1.1
          rw [mA_id] at m1
          refine op_ns (wdR nc nn f b m 0 0 (M.1 0)).2 N' (wdR nc nn f b m 0 0 (M.1 0)).1 h ?_ ?_ (iS_up b2 b3 b4 (by rw [b5.2]; exact D)) (b5.1.trans wo5)
          · rw [cB2, ey, cond_true]
            exact b1
          · rw [hM_eq, cM, ha, rt, cond_true, eM_widths_16, tk, ey, aft1, eM_widths_27]
            exact m1
        · have ey : decide (t = 0) = false := by simp [et0]
          refine op_ro (-13) h ?_ ?_
          · rw [cB2, ey]
            rfl
          · rw [hM_eq, cM, ha, rt, cond_true, eM_widths_16, tk, ey, aft1, eM_widths_27]
            rfl
    · refine op_ro MO h ?_ ?_
      · rw [cB, ha, eB_widths_4]
        simp (disch := omega) only [l0, l1, l2, l3, l4, l5, l6, l7, l8, l9, l10, l11, l12, l13, l14, l15, l16, l17, l18, l19, l20, l21, l22, l23, l24, l25, l26, l27, l28, l29, l30, l31, l40, l48, l52, l57, l60, l65, l97, l99, l100, l102, l119, l122, l179, l197, l200, l201, l237, l436, l437, pk_mul, nI_add, inb_nI, nclamp, dlt, dle, deq, bif_t, bif_f, bif_nt, bif_nf, aft0, aft1, decide_true, decide_false, Bool.not_true, Bool.not_false, cond_true, cond_false, Nat.add_sub_cancel, Nat.add_one_sub_one, ou9, mo1, nI_MO, OU_lt, OU_ge, Nat.not_lt_zero, Bool.or_false, Bool.or_true, Bool.true_or, Bool.false_or, Bool.and_true, Bool.and_false, Bool.true_and, Bool.false_and, bI_0n, bI_1n, Bool.not_not, hc]
      · rw [hM_eq, cM, ha, hr, cond_true, eM_widths_16]
        rfl
    · refine op_ro MO h ?_ ?_
      · rw [cB, ha, eB_widths_4]
        simp (disch := omega) only [l0, l1, l2, l3, l4, l5, l6, l7, l8, l9, l10, l11, l12, l13, l14, l15, l16, l17, l18, l19, l20, l21, l22, l23, l24, l25, l26, l27, l28, l29, l30, l31, l40, l48, l52, l57, l60, l65, l97, l99, l100, l102, l119, l122, l179, l197, l200, l201, l237, l436, l437, pk_mul, nI_add, inb_nI, nclamp, dlt, dle, deq, bif_t, bif_f, bif_nt, bif_nf, aft0, aft1, decide_true, decide_false, Bool.not_true, Bool.not_false, cond_true, cond_false, Nat.add_sub_cancel, Nat.add_one_sub_one, ou9, mo1, nI_MO, OU_lt, OU_ge, Nat.not_lt_zero, Bool.or_false, Bool.or_true, Bool.true_or, Bool.false_or, Bool.and_true, Bool.and_false, Bool.true_and, Bool.false_and, bI_0n, bI_1n, Bool.not_not, hc1, hc3]
      · rw [hM_eq, cM, ha, hr, cond_true, eM_widths_16]
        rfl
-- shelves
theorem iE_set {X : XS} {M : MS} {dd : AH} (k : Nat) (w w' q q' z : Int32) (o : Option Nat) (hk : k < 4) (h : iE X M dd) (hn : ((w = nI 3 ∨ w = nI 2) ∧ w' = nI 3 ∧ o = none) ∨ (∃ a b, a < 2 ∧ b < 20 ∧ w = nI a ∧ w' = nI a ∧ q = nI b ∧ q' = nI b ∧ o = none) ∨ (∃ j t n f, w = nI 2 ∧ w' = nI 2 ∧ o = some (j + 108) ∧ shA dd j t n f ∧ q' = nI t ∧ z = nI n)) : iE (xO (xA (xA X 14 (upd (X.1 14) k w)) 15 (upd (X.1 15) k q)) 1 (va_up (X.2.2 1) k o)) (mA (mA (mA M 12 (upd (M.1 12) k w')) 13 (upd (M.1 13) k q')) 14 (upd (M.1 14) k z)) dd := by
  intro l hl
  unfold iE1
  have x14 : (xO (xA (xA X 14 (upd (X.1 14) k w)) 15 (upd (X.1 15) k q)) 1 (va_up (X.2.2 1) k o)).1 14 = upd (X.1 14) k w := by rw [xO_1, xA_n (by omega), xA_s]
  have x15 : (xO (xA (xA X 14 (upd (X.1 14) k w)) 15 (upd (X.1 15) k q)) 1 (va_up (X.2.2 1) k o)).1 15 = upd (X.1 15) k q := by rw [xO_1, xA_s]
  have q12 : (mA (mA (mA M 12 (upd (M.1 12) k w')) 13 (upd (M.1 13) k q')) 14 (upd (M.1 14) k z)).1 12 = upd (M.1 12) k w' := by rw [mA_n (by omega), mA_n (by omega), mA_s]
  have q13 : (mA (mA (mA M 12 (upd (M.1 12) k w')) 13 (upd (M.1 13) k q')) 14 (upd (M.1 14) k z)).1 13 = upd (M.1 13) k q' := by rw [mA_n (by omega), mA_s]
  have q14 : (mA (mA (mA M 12 (upd (M.1 12) k w')) 13 (upd (M.1 13) k q')) 14 (upd (M.1 14) k z)).1 14 = upd (M.1 14) k z := mA_s _ _ _
  rw [x14, x15, q12, q13, q14, xO_s]
  by_cases e : l = k
  · subst e
    rw [vup_eq, upd_eq, upd_eq, upd_eq, upd_eq, upd_eq]
    exact hn
  · rw [vup_ne e, upd_ne e, upd_ne e, upd_ne e, upd_ne e, upd_ne e]
    exact h l hl
theorem INV_E {i : Nat} {X : XS} {N K : SS} {M : MS} {dd : AH} (h : INV i X N K M dd) (k : Nat) (w w' q q' z : Int32) (o : Option Nat) (hk : k < 4) (hn : ((w = nI 3 ∨ w = nI 2) ∧ w' = nI 3 ∧ o = none) ∨ (∃ a b, a < 2 ∧ b < 20 ∧ w = nI a ∧ w' = nI a ∧ q = nI b ∧ q' = nI b ∧ o = none) ∨ (∃ j t n f, w = nI 2 ∧ w' = nI 2 ∧ o = some (j + 108) ∧ shA dd j t n f ∧ q' = nI t ∧ z = nI n)) : INV (i + 1) (xO (xA (xA X 14 (upd (X.1 14) k w)) 15 (upd (X.1 15) k q)) 1 (va_up (X.2.2 1) k o)) N K (mA (mA (mA M 12 (upd (M.1 12) k w')) 13 (upd (M.1 13) k q')) 14 (upd (M.1 14) k z)) dd := by
  have h' := h
  obtain ⟨_, hK, hT, hR, hH, hE, hB, hM', hD⟩ := h'
  refine INV_H h (fun j h14 h15 => by rw [xO_1, xA_n h15, xA_n h14]) rfl (fun j hj => by rw [mA_n (by omega), mA_n (by omega), mA_n (by omega)]) rfl (fun _ _ _ hl => hl) ?_ (iE_set k w w' q q' z o hk hE hn) (iD_mono hD)
  have q9 : (mA (mA (mA M 12 (upd (M.1 12) k w')) 13 (upd (M.1 13) k q')) 14 (upd (M.1 14) k z)).1 9 = M.1 9 := by rw [mA_n (by omega), mA_n (by omega), mA_n (by omega)]
  have q10 : (mA (mA (mA M 12 (upd (M.1 12) k w')) 13 (upd (M.1 13) k q')) 14 (upd (M.1 14) k z)).1 10 = M.1 10 := by rw [mA_n (by omega), mA_n (by omega), mA_n (by omega)]
  have q11 : (mA (mA (mA M 12 (upd (M.1 12) k w')) 13 (upd (M.1 13) k q')) 14 (upd (M.1 14) k z)).1 11 = M.1 11 := by rw [mA_n (by omega), mA_n (by omega), mA_n (by omega)]
  unfold iH iH1
  rw [q9, q10, q11, xO_n (by omega)]
  exact hH
theorem op_shelf (d i : Nat) (g : GT) (X : XS) (N T K : SS) (M : MS) (dd : AH) (h : INV i X N K M dd) (a b c : Int32) : OPR d i g X N T K M dd yB_shelf yM_shelf [.int a, .int b, .int c] := by
  have h' := h
  obtain ⟨⟨⟨nc, np, nb, n, C, R, W, L, D⟩, wo5⟩, hK, hT, hR, hH, hE, hB, hM', hD⟩ := h'
  have hnp := W.1.2.1.2
  have hnb : nb ≤ 6 := W.1.2.2.1.2
  have e1 : N.2.1 1 = nI np := (R.1 1 (by omega)).trans W.1.2.1.1
  have e2 : N.2.1 2 = nI nb := (R.1 2 (by omega)).trans W.1.2.2.1.1
  have cT : call PGM (d + 39) yB_isThing [.ref 12, .int b, .int c] (heapOf g X N T K M dd) = some (some (.int (bI (bif decide (b = nI 0) then hasB c np else bif decide (b = nI 1) then hasB c nb else bif decide (b = nI 2) then hasB c 4 else decide (b = nI 3)))), heapOf g X N T K M dd) := by
    rw [kB_isThing, eB_isThing_0, cN_hasPerson (d + 37) g X T K M dd c e1, cN_hasBeast (d + 37) g X T K M dd c e2, isB_Holder (d + 37), aft1, aft1, aft1, eB_isThing_36, eB_isThing_45, eB_isThing_50, bI_B, bI_B, bI_B, o0, o1, o2]
    show (bif decide (b = nI 0) then _ else bif decide (b = nI 1) then _ else bif decide (b = nI 2) then _ else bif !decide (b = nI 3) then _ else _) = _
    cases decide (b = nI 0) <;> cases decide (b = nI 1) <;> cases decide (b = nI 2) <;> cases decide (b = nI 3) <;> rfl
  have cB : call PGM (d + 40) yB_shelf [.ref 12, .int a, .int b, .int c] (heapOf g X N T K M dd) = bif hasB a 4 then sem PGM (d + 39) yB_shelf (13, [some (.ref 12), some (.int a), some (.int b), some (.int c)], [.int (bI (bif decide (b = nI 0) then hasB c np else bif decide (b = nI 1) then hasB c nb else bif decide (b = nI 2) then hasB c 4 else decide (b = nI 3)))], heapOf g X N T K M dd) else some (some (.int MO), heapOf g X N T K M dd) := by
    rw [kB_shelf, eB_shelf_0, isB_Holder (d + 38), aft1, eB_shelf_4, bI_0, cT, aft1]
    cases hasB a 4 <;> rfl
  have cM : ∀ Z : ZT, call PGM (d + 40) yM_shelf [.ref 91, .int a, .int b, .int c] (hM Z M) = bif hasB a 4 then sem PGM (d + 39) yM_shelf (16, [some (.ref 91), some (.int a), some (.int b), some (.int c), none], [.int (bI (rng b 0 3))], hM Z M) else some (some (.int MO), hM Z M) := by
    intro Z
    rw [kM_shelf, eM_shelf_0, cM_isOne (d + 37), aft1, eM_shelf_4, bI_0, w0, w3, cM_rng (d + 38), aft1]
    cases hasB a 4 <;> rfl
  cases ha : hasB a 4 with
  | false =>
    refine op_ro MO h ?_ ?_
    · rw [cB, ha]
      rfl
    · rw [hM_eq, cM, ha]
      rfl
  | true =>
    obtain ⟨k, hk, rfl⟩ := has_t (by omega) ha
    have k4 : decide (k < 4) = true := by simp [hk]
    have ik : inb (nI k) 4 = true := by rw [inb_nI (by omega)]; exact k4
    have nk : (nI k).toNatClampNeg = k := nclamp (by omega)
    cases hr : rng b 0 3 with
    | false =>
      refine op_ro MO h ?_ ?_
      · rw [cB, ha, cond_true, rng_ne hr (show 0 ≤ 0 by omega) (show 0 ≤ 3 by omega) (by omega), rng_ne hr (show 0 ≤ 1 by omega) (show 1 ≤ 3 by omega) (by omega), rng_ne hr (show 0 ≤ 2 by omega) (show 2 ≤ 3 by omega) (by omega), rng_ne hr (show 0 ≤ 3 by omega) (show 3 ≤ 3 by omega) (by omega), eB_shelf_13]
        rfl
      · rw [hM_eq, cM, ha, hr, cond_true, eM_shelf_16]
        rfl
    | true =>
      obtain ⟨w, _, hw, rfl⟩ := rng_t (by omega) (by omega) hr
      -- the end of both, where no row is laid there
      have endB : decide (nI w = 2) = false → ∀ v : Int32, sem PGM (d + 39) yB_shelf (25, [some (.ref 12), some (.int (nI k)), some (.int (nI w)), some (.int c)], [], heapOf g (xA X 14 (upd (X.1 14) k v)) N T K M dd) = some (some (.int 1), heapOf g (xO (xA (xA X 14 (upd (X.1 14) k v)) 15 (upd (X.1 15) k c)) 1 (va_up (X.2.2 1) k none)) N T K M dd) := by
        intro h2 v
        rw [eB_shelf_25, ik, nk, cond_true, xA_n (by omega), eB_shelf_32, h2, ik, nk]
        rfl
      have endM : ∀ (Z : ZT) (v : Int32), sem PGM (d + 39) yM_shelf (100, [some (.ref 91), some (.int (nI k)), some (.int (nI w)), some (.int c), some (.int 0)], [], hM Z (mA M 12 (upd (M.1 12) k v))) = some (some (.int 1), hM Z (mA (mA (mA M 12 (upd (M.1 12) k v)) 13 (upd (M.1 13) k c)) 14 (upd (M.1 14) k 0))) := by
        intro Z v
        have z : decide ((0 : Int32) = 0) = true := by decide
        rw [eM_shelf_100, z, cond_true, ik, nk, cond_true, eM_shelf_121, z, cond_true, ik, nk, cond_true, mA_n (by omega), mA_n (by omega), mA_n (by omega)]
      have e : w = 0 ∨ w = 1 ∨ w = 2 ∨ w = 3 := by omega
      rcases e with e | e | e | e <;> subst e
      · cases hc : hasB c np with
        | false =>
          refine op_ro MO h ?_ ?_
          · rw [cB, ha, cond_true, hc, eB_shelf_13]
            rfl
          · rw [hM_eq, cM, ha, hr, cond_true, eM_shelf_16, cM_isPerson (d + 37) _ M c hnp W.1.2.1.1, hc, aft1, eM_shelf_28]
            rfl
        | true =>
          obtain ⟨p, hp, rfl⟩ := has_t (by omega) hc
          refine ⟨1, _, N, T, K, _, dd, ?_, ?_, INV_E h k (nI 0) (nI 0) (nI p) (nI p) 0 none hk (Or.inr (Or.inl ⟨0, p, by omega, by omega, rfl, rfl, rfl, rfl, rfl⟩))⟩
          · rw [cB, ha, cond_true, hc, eB_shelf_13, ik, nk]
            exact endB (by decide) (nI 0)
          · rw [hM_eq, cM, ha, hr, cond_true, eM_shelf_16, cM_isPerson (d + 37) _ M _ hnp W.1.2.1.1, hc, aft1, eM_shelf_28, ik, nk]
            exact endM _ (nI 0)
      · cases hc : hasB c nb with
        | false =>
          refine op_ro MO h ?_ ?_
          · rw [cB, ha, cond_true, hc, eB_shelf_13]
            rfl
          · rw [hM_eq, cM, ha, hr, cond_true, eM_shelf_16, cM_isBeast (d + 37) _ M c hnb W.1.2.2.1.1, hc, aft1, eM_shelf_41]
            rfl
        | true =>
          obtain ⟨p, hp, rfl⟩ := has_t (by omega) hc
          refine ⟨1, _, N, T, K, _, dd, ?_, ?_, INV_E h k (nI 1) (nI 1) (nI p) (nI p) 0 none hk (Or.inr (Or.inl ⟨1, p, by omega, by omega, rfl, rfl, rfl, rfl, rfl⟩))⟩
          · rw [cB, ha, cond_true, hc, eB_shelf_13, ik, nk]
            exact endB (by decide) (nI 1)
          · rw [hM_eq, cM, ha, hr, cond_true, eM_shelf_16, cM_isBeast (d + 37) _ M _ hnb W.1.2.2.1.1, hc, aft1, eM_shelf_41, ik, nk]
            exact endM _ (nI 1)
      · cases hc : hasB c 4 with
        | false =>
          refine op_ro MO h ?_ ?_
          · rw [cB, ha, cond_true, hc, eB_shelf_13]
            rfl
          · rw [hM_eq, cM, ha, hr, cond_true, eM_shelf_16, cM_isOne (d + 37), hc, aft1, eM_shelf_53]
            rfl
        | true =>
          obtain ⟨p, hp, rfl⟩ := has_t (by omega) hc
          have p4 : decide (p < 4) = true := by simp [hp]
          have ip : inb (nI p) 4 = true := by rw [inb_nI (by omega)]; exact p4
          have np' : (nI p).toNatClampNeg = p := nclamp (by omega)
          rcases hold2 (hH.1 p hp) with ⟨s1, s2⟩ | ⟨j, t, nn, f, s1, hs, s2, s3, s4⟩
          · refine ⟨1, _, N, T, K, _, dd, ?_, ?_, INV_E h k (nI 2) (nI 3) (nI p) (nI p) 0 none hk (Or.inl ⟨Or.inr rfl, rfl, rfl⟩)⟩
            · rw [cB, ha, cond_true, hc, eB_shelf_13, ik, nk]
              show sem PGM (d + 39) yB_shelf (25, [some (.ref 12), some (.int (nI k)), some (.int (nI 2)), some (.int (nI p))], [], heapOf g (xA X 14 (upd (X.1 14) k (nI 2))) N T K M dd) = _
              rw [eB_shelf_25, ik, nk, cond_true, xA_n (by omega), eB_shelf_32, ip, np', ik, nk]
              show (bif false then _ else bif true && (X.2.2 0 p).isNone then _ else _) = _
              rw [s1]
              rfl
            · rw [hM_eq, cM, ha, hr, cond_true, eM_shelf_16, cM_isOne (d + 37), hc, aft1, eM_shelf_53, ik, nk, ip, np', s2]
              exact endM _ (nI 3)
          · have ht := hs.1
            have b12 : Nat.ble 12 (j + 108) = true := Nat.ble_eq_true_of_le (by omega)
            have z6 : decide (nI t < 0) = false := by rw [l0, dlt (by omega) (by omega)]; simp
            refine ⟨1, _, N, T, K, _, dd, ?_, ?_, INV_E h k (nI 2) (nI 2) (nI p) (nI t) (nI nn) (some (j + 108)) hk (Or.inr (Or.inr ⟨j, t, nn, f, rfl, rfl, rfl, hs, rfl, rfl⟩))⟩
            · rw [cB, ha, cond_true, hc, eB_shelf_13, ik, nk]
              show sem PGM (d + 39) yB_shelf (25, [some (.ref 12), some (.int (nI k)), some (.int (nI 2)), some (.int (nI p))], [], heapOf g (xA X 14 (upd (X.1 14) k (nI 2))) N T K M dd) = _
              rw [eB_shelf_25, ik, nk, cond_true, xA_n (by omega), eB_shelf_32, ip, np', ik, nk]
              show (bif false then _ else bif true && (X.2.2 0 p).isNone then _ else bif true && (X.2.2 0 p).isSome && Nat.ble 12 ((X.2.2 0 p).getD 0) then bif Nat.ble 12 ((X.2.2 0 p).getD 0) && true && okC _ ((X.2.2 0 p).getD 0) 4 && true then some (some (Value.int 1), heapOf g (xO (xA (xA X 14 (upd (X.1 14) k (nI 2))) 15 (upd (X.1 15) k (nI p))) 1 (va_up (X.2.2 1) k (some ((X.2.2 0 p).getD 0)))) N T K M dd) else none else none) = _
              rw [s1]
              show (bif true && Nat.ble 12 (j + 108) then bif Nat.ble 12 (j + 108) && true && okC _ (j + 108) 4 && true then _ else none else none) = _
              rw [b12, (sh_ok hs).1]
              rfl
            · have endS : ∀ Z : ZT, sem PGM (d + 39) yM_shelf (100, [some (.ref 91), some (.int (nI k)), some (.int (nI 2)), some (.int (nI p)), some (.int 1)], [], hM Z (mA M 12 (upd (M.1 12) k (nI 2)))) = some (some (.int 1), hM Z (mA (mA (mA M 12 (upd (M.1 12) k (nI 2))) 13 (upd (M.1 13) k (nI t))) 14 (upd (M.1 14) k (nI nn)))) := by
                intro Z
                have z : decide ((1 : Int32) = 0) = false := by decide
                have q9 : (mA M 12 (upd (M.1 12) k (nI 2))).1 9 = M.1 9 := mA_n (by omega)
                have q13 : (mA M 12 (upd (M.1 12) k (nI 2))).1 13 = M.1 13 := mA_n (by omega)
                rw [eM_shelf_100, z, cond_false, ip, ik, nk, np', q9, q13, s2, cond_true, cond_true, eM_shelf_121, z, cond_false, ip, ik, nk, np', cond_true, cond_true]
                have q10 : (mA (mA M 12 (upd (M.1 12) k (nI 2))) 13 (upd (M.1 13) k (nI t))).1 10 = M.1 10 := by rw [mA_n (by omega), mA_n (by omega)]
                have q14 : (mA (mA M 12 (upd (M.1 12) k (nI 2))) 13 (upd (M.1 13) k (nI t))).1 14 = M.1 14 := by rw [mA_n (by omega), mA_n (by omega)]
                rw [q10, q14, s3]
              rw [hM_eq, cM, ha, hr, cond_true, eM_shelf_16, cM_isOne (d + 37), hc, aft1, eM_shelf_53, ik, nk, ip, np', s2, z6]
              exact endS _
      · refine ⟨1, _, N, T, K, _, dd, ?_, ?_, INV_E h k (nI 3) (nI 3) c c 0 none hk (Or.inl ⟨Or.inl rfl, rfl, rfl⟩)⟩
        · rw [cB, ha, cond_true, eB_shelf_13, ik, nk]
          exact endB (by decide) (nI 3)
        · rw [hM_eq, cM, ha, hr, cond_true, eM_shelf_16, ik, nk]
          exact endM _ (nI 3)
