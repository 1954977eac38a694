/-! The class's street: who is where. -/
theorem hS_1 {o : Nat} (ho : o = 43 ∨ o = 59) (S : SS) (Z : RT) : hat (hS o S Z) 1 = some (.inl (.int, 9, .inl (gvA 1))) := by
  rcases ho with rfl | rfl <;> rfl
theorem heapOf_1 (g : GT) (X : XS) (N T K : SS) (M : MS) (dd : AH) : hat (heapOf g X N T K M dd) 1 = some (.inl (.int, 9, .inl (gvA 1))) := id rfl
set_option maxRecDepth 100000 in
theorem isA_tab : ∀ k a : Fin 9, (decide (((((gvA 1) a.val) >>> (nI k.val &&& 31)) &&& 1) = 1)) = under (nI k.val) (nI a.val) := by decide +kernel
theorem cB_isA (d : Nat) {h : AH} (hh : hat h 1 = some (.inl (.int, 9, .inl (gvA 1)))) {k a : Nat} (hk : k < 9) (ha : a < 9) : call PGM (d + 1) yB_isA [.int (nI k), .int (nI a)] h = some (some (.int (bI (under (nI k) (nI a)))), h) := by
  have e1 : okL h 1 = true := by unfold okL; rw [hh]
  have e2 : lenA h 1 = 9 := by unfold lenA; rw [hh]
  have e3 : inA h 1 0 (nI a) = true := by
    unfold inA
    rw [hh]
    show (true && inb (nI a) 9) = true
    rw [inb_nI (by omega)]
    simp [ha]
  have e4 : rA h 1 (nI a) = gvA 1 a := by
    unfold rA
    rw [hh]
    show gvA 1 (nI a).toNatClampNeg = _
    rw [nclamp (by omega)]
  have e5 := isA_tab ⟨k, hk⟩ ⟨a, ha⟩
  rw [kB_isA, eB_isA_0, e1, e2, e3, e4, e5]
  have z : decide (nI a < 0) = false := by rw [l0, dlt (by omega) (by omega)]; simp
  have y : decide (nI 9 ≤ nI a) = false := by rw [dle (by omega) (by omega)]; simp; omega
  rw [z, y]
  cases under (nI k) (nI a) <;> rfl
theorem cS_hasCell (d : Nat) {o : Nat} (ho : o = 43 ∨ o = 59) (S : SS) (Z : RT) (c : Int32) : call PGM (d + 1) yS_hasCell [.ref o, .int c] (hS o S Z) = some (some (.int (bI (!decide (c < 0) && decide (c < S.2.1 0)))), hS o S Z) := by
  rw [kS_hasCell, eS_hasCell_0 d o ho, le_not_lt]
  cases decide (c < 0) <;> cases decide (c < S.2.1 0) <;> rfl
theorem cS_hasCellN (d : Nat) {o : Nat} (ho : o = 43 ∨ o = 59) {S : SS} (Z : RT) {c nc : Nat} (hc : c < 2147483648) (hnc : nc ≤ 30) (h0 : S.2.1 0 = nI nc) : call PGM (d + 1) yS_hasCell [.ref o, .int (nI c)] (hS o S Z) = some (some (.int (bI (decide (c < nc)))), hS o S Z) := by
  rw [cS_hasCell d ho, h0]
  simp (disch := omega) only [l0, l1, l2, l3, l4, l5, l6, l7, l8, l9, l10, l11, l12, l13, l14, l15, l16, l17, l18, l19, l20, l21, l22, l23, l24, l25, l26, l27, l28, l29, l30, l31, l40, l48, l52, l57, l60, l65, l97, l99, l100, l102, l119, l122, l179, l197, l200, l201, l237, l436, l437, pk_mul, nI_add, inb_nI, nclamp, dlt, dle, deq, bif_t, bif_f, bif_nt, bif_nf, aft0, aft1, decide_true, decide_false, Bool.not_true, Bool.not_false, cond_true, cond_false, Nat.add_sub_cancel, Nat.add_one_sub_one, ou9, mo1, nI_MO, OU_lt, OU_ge, Nat.not_lt_zero, Bool.or_false, Bool.or_true, Bool.true_or, Bool.false_or, Bool.and_true, Bool.and_false, Bool.true_and, Bool.false_and, bI_0n, bI_1n, Bool.not_not]
theorem cS_crowdIn (d : Nat) {o : Nat} (ho : o = 43 ∨ o = 59) {S : SS} (Z : RT) {c nc : Nat} (hc : c < 2147483648) (hnc : nc ≤ 30) (h0 : S.2.1 0 = nI nc) : call PGM (d + 2) yS_crowdIn [.ref o, .int (nI c)] (hS o S Z) = some (some (.int (bif decide (c < nc) then S.1 3 c else nI 0)), hS o S Z) := by
  rw [kS_crowdIn, eS_crowdIn_0 (d + 1) o ho, cS_hasCellN d ho Z hc hnc h0, aft1, eS_crowdIn_5 (d + 1) o ho, bI_0]
  by_cases h : c < nc
  · simp (disch := omega) only [l0, l1, l2, l3, l4, l5, l6, l7, l8, l9, l10, l11, l12, l13, l14, l15, l16, l17, l18, l19, l20, l21, l22, l23, l24, l25, l26, l27, l28, l29, l30, l31, l40, l48, l52, l57, l60, l65, l97, l99, l100, l102, l119, l122, l179, l197, l200, l201, l237, l436, l437, pk_mul, nI_add, inb_nI, nclamp, dlt, dle, deq, bif_t, bif_f, bif_nt, bif_nf, aft0, aft1, decide_true, decide_false, Bool.not_true, Bool.not_false, cond_true, cond_false, Nat.add_sub_cancel, Nat.add_one_sub_one, ou9, mo1, nI_MO, OU_lt, OU_ge, Nat.not_lt_zero, Bool.or_false, Bool.or_true, Bool.true_or, Bool.false_or, Bool.and_true, Bool.and_false, Bool.true_and, Bool.false_and, bI_0n, bI_1n, Bool.not_not, h]
  · simp only [h, decide_false, Bool.not_false, cond_true, cond_false]
    rfl
theorem cS_crowdInNeg (d : Nat) {o : Nat} (ho : o = 43 ∨ o = 59) {S : SS} (Z : RT) {c : Int32} (hc : c < 0) : call PGM (d + 2) yS_crowdIn [.ref o, .int c] (hS o S Z) = some (some (.int (nI 0)), hS o S Z) := by
  rw [kS_crowdIn, eS_crowdIn_0 (d + 1) o ho, cS_hasCell d ho, aft1, eS_crowdIn_5 (d + 1) o ho, bI_0]
  simp only [hc, decide_true, Bool.not_true, Bool.false_and, Bool.not_false, cond_true]
  rfl
theorem cS_hasPerson (d : Nat) {o : Nat} (ho : o = 43 ∨ o = 59) (S : SS) (Z : RT) (c : Int32) : call PGM (d + 1) yS_hasPerson [.ref o, .int c] (hS o S Z) = some (some (.int (bI (!decide (c < 0) && decide (c < S.2.1 1)))), hS o S Z) := by
  rw [kS_hasPerson, eS_hasPerson_0 d o ho, le_not_lt]
  cases decide (c < 0) <;> cases decide (c < S.2.1 1) <;> rfl
theorem cS_hasBeast (d : Nat) {o : Nat} (ho : o = 43 ∨ o = 59) (S : SS) (Z : RT) (c : Int32) : call PGM (d + 1) yS_hasBeast [.ref o, .int c] (hS o S Z) = some (some (.int (bI (!decide (c < 0) && decide (c < S.2.1 2)))), hS o S Z) := by
  rw [kS_hasBeast, eS_hasBeast_0 d o ho, le_not_lt]
  cases decide (c < 0) <;> cases decide (c < S.2.1 2) <;> rfl
theorem cS_isOut (d : Nat) {o : Nat} (ho : o = 43 ∨ o = 59) (S : SS) (Z : RT) {p : Nat} (hp : p < 20) : call PGM (d + 1) yS_isOut [.ref o, .int (nI p)] (hS o S Z) = some (some (.int (bI (decide (S.1 6 p < 0)))), hS o S Z) := by
  rw [kS_isOut, eS_isOut_0 d o ho, inb_nI (by omega), bif_t hp, nclamp (by omega), le_not_lt]
  cases decide (S.1 6 p < 0) <;> rfl
-- tallies
theorem MO_eq : (-1 : Int32) = MO := id rfl
theorem cntI {f g : Nat → Bool} {k n : Nat} (hk : k < n) (hg : ∀ p, p < n → p ≠ k → g p = f p) : nI (cnt g n) = nI (cnt f n) + MO * bI (f k) + nI 1 * bI (g k) := by
  have h := cnt_upd hk hg
  have a0 : MO * bI false = nI 0 := by decide
  have a1 : MO * bI true = MO := by decide
  have b0 : nI 1 * bI false = nI 0 := by decide
  have b1 : nI 1 * bI true = nI 1 := by decide
  cases hf : f k <;> cases hgk : g k <;> simp only [hf, hgk, cond_true, cond_false] at h
  · rw [a0, b0, nI_add, nI_add]
    congr 1
  · rw [a0, b1, nI_add, nI_add]
    congr 1
  · rw [a1, b0, show cnt f n = cnt g n + 1 by omega, nI_MO, nI_add]
    congr 1
  · have hps : 0 < cnt f n := cnt_pos.mpr ⟨k, hk, hf⟩
    rw [a1, b1, show cnt f n = (cnt f n - 1) + 1 by omega, nI_MO, nI_add]
    congr 1
    omega
def fb (b : Bool) : Int32 := bI b
theorem fall_tab : ∀ k : Fin 9, ((((gvA 1) 3) >>> (nI k.val &&& 31)) &&& 1) = bI (under (nI k.val) (nI 3)) := by decide +kernel
theorem mul0 (v : Int32) : v * bI false = nI 0 := Int32.mul_zero
theorem mul1 (v : Int32) : v * bI true = v := Int32.mul_one v
theorem add0 (v : Int32) : v + nI 0 = v := Int32.add_zero v
theorem cS_tally (d : Nat) {o : Nat} (ho : o = 43 ∨ o = 59) (S : SS) (Z : RT) {p k : Nat} (v : Int32) (hp : p < 20) (hk : k < 9) (h5 : S.1 5 p = nI k) (hq : okQ 30 (S.1 6 p)) : ∃ S', call PGM (d + 1) yS_tally [.ref o, .int (nI p), .int v] (hS o S Z) = some (none, hS o S' Z) ∧ S'.2 = S.2 ∧ (∀ j, j ≠ 3 → j ≠ 4 → S'.1 j = S.1 j) ∧ (∀ c, c < 30 → S'.1 3 c = S.1 3 c + v * bI (decide (S.1 6 p = nI c)) ∧ S'.1 4 c = S.1 4 c + v * bI (decide (S.1 6 p = nI c) && under (S.1 5 p) (nI 3))) := by
  rw [kS_tally, eS_tally_0 d o ho, inb_nI (by omega), bif_t hp, nclamp (by omega)]
  rcases hq with h6 | ⟨c, hc, h6⟩
  · refine ⟨S, ?_, rfl, fun _ _ _ => rfl, fun c hc => ?_⟩
    · rw [h6, OU_lt']
      rfl
    · have : decide (OU = nI c) = false := by
        have h1 : ¬ OU = nI c := by
          intro h
          have h2 : decide (OU < nI 0) = true := OU_lt
          rw [h, dlt (by omega) (by omega)] at h2
          simp at h2
        simp [h1]
      rw [h6, this]
      simp only [Bool.false_and, mul0, add0, and_self]
  · refine ⟨sA (sA S 3 (upd (S.1 3) c (S.1 3 c + v))) 4 (upd (S.1 4) c (S.1 4 c + v * bI (under (nI k) (nI 3)))), ?_, rfl, fun j h3 h4 => ?_, fun e he => ?_⟩
    · have ft := fall_tab ⟨k, hk⟩
      rw [h6]
      simp (disch := omega) only [l0, l1, l2, l3, l4, l5, l6, l7, l8, l9, l10, l11, l12, l13, l14, l15, l16, l17, l18, l19, l20, l21, l22, l23, l24, l25, l26, l27, l28, l29, l30, l31, l40, l48, l52, l57, l60, l65, l97, l99, l100, l102, l119, l122, l179, l197, l200, l201, l237, l436, l437, pk_mul, nI_add, inb_nI, nclamp, dlt, dle, deq, bif_t, bif_f, bif_nt, bif_nf, aft0, aft1, decide_true, decide_false, Bool.not_true, Bool.not_false, cond_true, cond_false, Nat.add_sub_cancel, Nat.add_one_sub_one, ou9, mo1, nI_MO, OU_lt, OU_ge, Nat.not_lt_zero, Bool.or_false, Bool.or_true, Bool.true_or, Bool.false_or, Bool.and_true, Bool.and_false, Bool.true_and, Bool.false_and, bI_0n, bI_1n, Bool.not_not]
      rw [eS_tally_28 d o ho]
      simp (disch := omega) only [l0, l1, l2, l3, l4, l5, l6, l7, l8, l9, l10, l11, l12, l13, l14, l15, l16, l17, l18, l19, l20, l21, l22, l23, l24, l25, l26, l27, l28, l29, l30, l31, l40, l48, l52, l57, l60, l65, l97, l99, l100, l102, l119, l122, l179, l197, l200, l201, l237, l436, l437, pk_mul, nI_add, inb_nI, nclamp, dlt, dle, deq, bif_t, bif_f, bif_nt, bif_nf, aft0, aft1, decide_true, decide_false, Bool.not_true, Bool.not_false, cond_true, cond_false, Nat.add_sub_cancel, Nat.add_one_sub_one, ou9, mo1, nI_MO, OU_lt, OU_ge, Nat.not_lt_zero, Bool.or_false, Bool.or_true, Bool.true_or, Bool.false_or, Bool.and_true, Bool.and_false, Bool.true_and, Bool.false_and, bI_0n, bI_1n, Bool.not_not]
      rw [sA_n (show (5 : Nat) ≠ 3 by omega), h5, sA_n (show (4 : Nat) ≠ 3 by omega)]
      rw [← ft]
      rfl
    · rw [sA_n h4, sA_n h3]
    · rw [sA_n (show (3 : Nat) ≠ 4 by omega), sA_s, sA_s, h6, h5, deq (by omega) (by omega)]
      by_cases hce : c = e
      · subst hce
        simp only [decide_true, Bool.true_and, mul1, upd_eq, and_self]
      · simp only [hce, decide_false, Bool.false_and, mul0, add0]
        rw [upd_ne (fun h => hce h.symm), upd_ne (fun h => hce h.symm)]
        exact ⟨rfl, rfl⟩
theorem under3 (x : Int32) : under x 3 = under x (nI 3) := rfl
/-- one PERSON is counted elsewhere -/
theorem RS_p {S S' : SS} {s s' : Nat → Int32} {np nb p : Nat} (h : RS S s np nb) (hp : p < np) (hnp : np ≤ 20) (hs : ∀ k, k ≠ 99 + 4 * p → k ≠ 99 + 4 * p + 1 → s' k = s k) (e2 : S'.2 = S.2) (eo : ∀ j, j ≠ 3 → j ≠ 4 → j ≠ 5 → j ≠ 6 → S'.1 j = S.1 j) (e5 : S'.1 5 = upd (S.1 5) p (s' (99 + 4 * p))) (e6 : S'.1 6 = upd (S.1 6) p (s' (99 + 4 * p + 1)))
    (e34 : ∀ c, c < 30 → S'.1 3 c = S.1 3 c + MO * bI (decide (s (99 + 4 * p + 1) = nI c)) + nI 1 * bI (decide (s' (99 + 4 * p + 1) = nI c)) ∧ S'.1 4 c = S.1 4 c + MO * bI (decide (s (99 + 4 * p + 1) = nI c) && under (s (99 + 4 * p)) (nI 3)) + nI 1 * bI (decide (s' (99 + 4 * p + 1) = nI c) && under (s' (99 + 4 * p)) (nI 3))) : RS S' s' np nb := by
  obtain ⟨hV, hC, hP, hB, hR, hN⟩ := h
  refine ⟨fun k hk => ?_, fun c hc => ?_, fun q hq => ?_, fun b hb => ?_, fun k hk => ?_, fun c hc => ?_⟩
  · rw [e2, hs k (by omega) (by omega)]
    exact hV k hk
  · rw [eo 0 (by omega) (by omega) (by omega) (by omega), eo 1 (by omega) (by omega) (by omega) (by omega), eo 2 (by omega) (by omega) (by omega) (by omega), hs _ (by omega) (by omega), hs _ (by omega) (by omega), hs _ (by omega) (by omega)]
    exact hC c hc
  · rw [e5, e6, eo 7 (by omega) (by omega) (by omega) (by omega), eo 8 (by omega) (by omega) (by omega) (by omega)]
    by_cases hqp : q = p
    · subst hqp
      rw [upd_eq, upd_eq, hs (99 + 4 * q + 2) (by omega) (by omega), hs (99 + 4 * q + 3) (by omega) (by omega)]
      exact ⟨rfl, rfl, (hP q hq).2.2.1, (hP q hq).2.2.2⟩
    · rw [upd_ne hqp, upd_ne hqp, hs _ (by omega) (by omega), hs _ (by omega) (by omega), hs _ (by omega) (by omega), hs _ (by omega) (by omega)]
      exact hP q hq
  · rw [eo 9 (by omega) (by omega) (by omega) (by omega), eo 10 (by omega) (by omega) (by omega) (by omega), eo 11 (by omega) (by omega) (by omega) (by omega), hs _ (by omega) (by omega), hs _ (by omega) (by omega), hs _ (by omega) (by omega)]
    exact hB b hb
  · rw [eo 12 (by omega) (by omega) (by omega) (by omega), hs _ (by omega) (by omega)]
    exact hR k hk
  · obtain ⟨a3, a4⟩ := e34 c hc
    obtain ⟨b3, b4⟩ := hN c hc
    rw [a3, a4, b3, b4]
    constructor
    · exact (cntI (f := fun q => decide (s (99 + 4 * q + 1) = nI c)) (g := fun q => decide (s' (99 + 4 * q + 1) = nI c)) hp (fun q hq hqp => by show decide _ = decide _; rw [hs _ (by omega) (by omega)])).symm
    · exact (cntI (f := fun q => decide (s (99 + 4 * q + 1) = nI c) && under (s (99 + 4 * q)) 3) (g := fun q => decide (s' (99 + 4 * q + 1) = nI c) && under (s' (99 + 4 * q)) 3) hp (fun q hq hqp => by show (decide _ && _) = (decide _ && _); rw [hs _ (by omega) (by omega), hs _ (by omega) (by omega)])).symm
theorem okQ_30 {nc : Nat} {x : Int32} (h : okQ nc x) (hn : nc ≤ 30) : okQ 30 x := by
  rcases h with h | ⟨c, hc, h⟩
  · exact Or.inl h
  · exact Or.inr ⟨c, by omega, h⟩
theorem cS_seat (d : Nat) {o : Nat} (ho : o = 43 ∨ o = 59) {S : SS} (Z : RT) {s : Nat → Int32} {np nb p k : Nat} {x : Int32} (h : RS S s np nb) (hp : p < np) (hnp : np ≤ 20) (hk : k < 9) (hs : s (99 + 4 * p) = nI k) (hq : okQ 30 (s (99 + 4 * p + 1))) (hx : okQ 30 x) :
    ∃ S', call PGM (d + 2) yS_seat [.ref o, .int (nI p), .int x] (hS o S Z) = some (none, hS o S' Z) ∧ RS S' (upd s (99 + 4 * p + 1) x) np nb ∧ sF S S' := by
  obtain ⟨p5, p6, p7, p8⟩ := h.2.2.1 p hp
  obtain ⟨S1, c1, f1, g1, t1⟩ := cS_tally d ho S Z (-1) (p := p) (k := k) (by omega) hk (by rw [p5, hs]) (by rw [p6]; exact hq)
  have i5 : S1.1 5 = S.1 5 := g1 5 (by omega) (by omega)
  have i6 : S1.1 6 = S.1 6 := g1 6 (by omega) (by omega)
  obtain ⟨S2, c2, f2, g2, t2⟩ := cS_tally d ho (sA S1 6 (upd (S1.1 6) p x)) Z 1 (p := p) (k := k) (by omega) hk (by rw [sA_n (by omega), i5, p5, hs]) (by rw [sA_s, upd_eq]; exact hx)
  refine ⟨S2, ?_, ?_, ?_⟩
  · rw [kS_seat, eS_seat_0 (d + 1) o ho, c1, aft0, eS_seat_6 (d + 1) o ho, inb_nI (by omega), bif_t (show p < 20 by omega), nclamp (by omega), c2, aft0, eS_seat_19 (d + 1) o ho]
  · refine RS_p h hp hnp (fun j _ hj => upd_ne hj) (by rw [f2, sA_2, f1]) (fun j h3 h4 h5 h6 => by rw [g2 j h3 h4, sA_n h6, g1 j h3 h4]) ?_ ?_ (fun c hc => ?_)
    · rw [g2 5 (by omega) (by omega), sA_n (by omega), i5, upd_ne (by omega), ← p5, upd_id]
    · rw [g2 6 (by omega) (by omega), sA_s, i6, upd_eq]
    · obtain ⟨a3, a4⟩ := t1 c hc
      obtain ⟨b3, b4⟩ := t2 c hc
      rw [sA_n (by omega), sA_s, upd_eq, a3] at b3
      rw [sA_n (by omega), sA_s, upd_eq, sA_n (by omega), a4, i5] at b4
      rw [b3, b4, p5, p6, upd_eq, upd_ne (by omega)]
      exact ⟨rfl, rfl⟩
  · exact ⟨by rw [f2, sA_2, f1], by rw [f2, sA_2, f1]⟩
theorem cS_become (d : Nat) {o : Nat} (ho : o = 43 ∨ o = 59) {S : SS} (Z : RT) {s : Nat → Int32} {np nb p k k' : Nat} (h : RS S s np nb) (hp : p < np) (hnp : np ≤ 20) (hk : k < 9) (hs : s (99 + 4 * p) = nI k) (hq : okQ 30 (s (99 + 4 * p + 1))) (hk' : k' < 9) :
    ∃ S', call PGM (d + 2) yS_become [.ref o, .int (nI p), .int (nI k')] (hS o S Z) = some (none, hS o S' Z) ∧ RS S' (upd s (99 + 4 * p) (nI k')) np nb ∧ sF S S' := by
  obtain ⟨p5, p6, p7, p8⟩ := h.2.2.1 p hp
  obtain ⟨S1, c1, f1, g1, t1⟩ := cS_tally d ho S Z (-1) (p := p) (k := k) (by omega) hk (by rw [p5, hs]) (by rw [p6]; exact hq)
  have i5 : S1.1 5 = S.1 5 := g1 5 (by omega) (by omega)
  have i6 : S1.1 6 = S.1 6 := g1 6 (by omega) (by omega)
  obtain ⟨S2, c2, f2, g2, t2⟩ := cS_tally d ho (sA S1 5 (upd (S1.1 5) p (nI k'))) Z 1 (p := p) (k := k') (by omega) hk' (by rw [sA_s, upd_eq]) (by rw [sA_n (by omega), i6, p6]; exact hq)
  refine ⟨S2, ?_, ?_, ?_⟩
  · rw [kS_become, eS_become_0 (d + 1) o ho, c1, aft0, eS_become_6 (d + 1) o ho, inb_nI (by omega), bif_t (show p < 20 by omega), nclamp (by omega), c2, aft0, eS_become_19 (d + 1) o ho]
  · refine RS_p h hp hnp (fun j hj _ => upd_ne hj) (by rw [f2, sA_2, f1]) (fun j h3 h4 h5 h6 => by rw [g2 j h3 h4, sA_n h5, g1 j h3 h4]) ?_ ?_ (fun c hc => ?_)
    · rw [g2 5 (by omega) (by omega), sA_s, i5, upd_eq]
    · rw [g2 6 (by omega) (by omega), sA_n (by omega), i6, upd_ne (by omega), ← p6, upd_id]
    · obtain ⟨a3, a4⟩ := t1 c hc
      obtain ⟨b3, b4⟩ := t2 c hc
      rw [sA_n (by omega), sA_n (by omega), a3, i6] at b3
      rw [sA_n (by omega), sA_n (by omega), sA_s, upd_eq, a4, i6] at b4
      rw [b3, b4, p5, p6, upd_eq, upd_ne (by omega)]
      exact ⟨rfl, rfl⟩
  · exact ⟨by rw [f2, sA_2, f1], by rw [f2, sA_2, f1]⟩
