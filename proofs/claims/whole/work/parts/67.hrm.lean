/-! The class's street: HARMS and heaps of a TENTH. -/
theorem RS_h {S : SS} {s : Nat → Int32} {np nb p : Nat} {x : Int32} (h : RS S s np nb) (hnp : np ≤ 20) (hp : p < np) : RS (sA S 8 (upd (S.1 8) p x)) (upd s (99 + 4 * p + 3) x) np nb := by
  obtain ⟨hV, hC, hP, hB, hR, hN⟩ := h
  refine ⟨fun k hk => ?_, fun c hc => ?_, fun q hq => ?_, fun b hb => ?_, fun k hk => ?_, fun c hc => ?_⟩
  · rw [upd_ne (by omega)]; exact hV k hk
  · rw [sA_n (by omega), sA_n (by omega), sA_n (by omega), upd_ne (by omega), upd_ne (by omega), upd_ne (by omega)]; exact hC c hc
  · rw [sA_n (by omega), sA_n (by omega), sA_n (by omega), sA_s, upd_ne (by omega), upd_ne (by omega), upd_ne (by omega)]
    by_cases hqp : q = p
    · subst hqp
      rw [upd_eq, upd_eq]
      exact ⟨(hP q hq).1, (hP q hq).2.1, (hP q hq).2.2.1, rfl⟩
    · rw [upd_ne hqp, upd_ne (by omega)]
      exact hP q hq
  · rw [sA_n (by omega), sA_n (by omega), sA_n (by omega), upd_ne (by omega), upd_ne (by omega), upd_ne (by omega)]; exact hB b hb
  · rw [sA_n (by omega), upd_ne (by omega)]; exact hR k hk
  · rw [sA_n (by omega), sA_n (by omega), crN_congr (fun q hq => upd_ne (by omega)), faN_congr (fun q hq => upd_ne (by omega)) (fun q hq => upd_ne (by omega))]; exact hN c hc
theorem hurt_tab : ∀ k : Fin 9, gvA 2 k.val = nI (hurtN (nI k.val)) := by decide +kernel
theorem cS_sufferedBy (d : Nat) {o : Nat} (ho : o = 43 ∨ o = 59) {S : SS} (Z : RT) {s : Nat → Int32} {nc np nb T p c : Nat} {B : Nat → Nat} (h : RS S s np nb) (W : WF s nc np nb T B) (hp : p < np) (hc : c < nc) (hs : s (99 + 4 * p + 1) = nI c) :
    ∃ S', call PGM (d + 3) yS_sufferedBy [.ref o, .int (nI p)] (hS o S Z) = some (some (.int (nI (hv s nb p))), hS o S' Z) ∧ RS S' (hrm1 s nb p) np nb ∧ sF S S' := by
  have hnb : nb ≤ 6 := W.1.2.2.1.2
  have hnp := W.1.2.1.2
  have hnc := W.1.1.2.2
  have e2 : S.2.1 2 = nI nb := (h.1 2 (by omega)).trans W.1.2.2.1.1
  obtain ⟨p5, p6, p7, p8⟩ := h.2.2.1 p hp
  obtain ⟨k, k1, k7, hk⟩ := WF_upk W hp
  have p6' : S.1 6 p = nI c := p6.trans hs
  have p5' : S.1 5 p = nI k := p5.trans hk
  have ehv : hv s nb p = harmN s nb p := by
    unfold hv
    rw [hs, if_pos ((nI_leI (by omega) (by omega)).mpr (Nat.zero_le _))]
  have hle := harmN_le s nb p
  have ht := hurt_tab ⟨k, by omega⟩
  have tail : ∀ (v : Nat) (i2 i3 : Int32), v = harmN s nb p → ∃ S', sem PGM (d + 2) yS_sufferedBy (95, [some (.ref o), some (.int (nI p)), some (.int i2), some (.int i3), some (.int (nI v))], [], hS o (sA S 8 (upd (S.1 8) p (S.1 8 p + nI v))) Z) = some (some (.int (nI v)), hS o S' Z) ∧ RS S' (hrm1 s nb p) np nb ∧ sF S S' := by
    intro v i2 i3 hvv
    have R1 : RS (sA S 8 (upd (S.1 8) p (S.1 8 p + nI v))) (upd s (99 + 4 * p + 3) (s (99 + 4 * p + 3) + nI v)) np nb := by
      rw [p8]
      exact RS_h h hnp hp
    rw [eS_sufferedBy_95 (d + 2) o ho]
    by_cases hz : v = 0
    · subst hz
      simp (disch := omega) only [l0, l1, l2, l3, l4, l5, l6, l7, l8, l9, l10, l11, l12, l13, l14, l15, l16, l17, l18, l19, l20, l21, l22, l23, l24, l25, l26, l27, l28, l29, l30, l31, l40, l48, l52, l57, l60, l65, l97, l99, l100, l102, l119, l122, l179, l197, l200, l201, l237, l436, l437, pk_mul, nI_add, inb_nI, nclamp, dlt, dle, deq, bif_t, bif_f, bif_nt, bif_nf, aft0, aft1, decide_true, decide_false, Bool.not_true, Bool.not_false, cond_true, cond_false, Nat.add_sub_cancel, Nat.add_one_sub_one, ou9, mo1, nI_MO, OU_lt, OU_ge, Nat.not_lt_zero, Bool.or_false, Bool.or_true, Bool.true_or, Bool.false_or, Bool.and_true, Bool.and_false, Bool.true_and, Bool.false_and, bI_0n, bI_1n, Bool.not_not]
      refine ⟨_, rfl, ?_, ⟨rfl, rfl⟩⟩
      rw [hrm1, ehv, if_pos hvv.symm]
      have : upd s (99 + 4 * p + 3) (s (99 + 4 * p + 3) + nI 0) = s := by rw [add0, upd_id]
      rw [this] at R1
      exact R1
    · rw [hrm1, ehv, ← hvv, if_neg hz]
      simp (disch := omega) only [l0, l1, l2, l3, l4, l5, l6, l7, l8, l9, l10, l11, l12, l13, l14, l15, l16, l17, l18, l19, l20, l21, l22, l23, l24, l25, l26, l27, l28, l29, l30, l31, l40, l48, l52, l57, l60, l65, l97, l99, l100, l102, l119, l122, l179, l197, l200, l201, l237, l436, l437, pk_mul, nI_add, inb_nI, nclamp, dlt, dle, deq, bif_t, bif_f, bif_nt, bif_nf, aft0, aft1, decide_true, decide_false, Bool.not_true, Bool.not_false, cond_true, cond_false, Nat.add_sub_cancel, Nat.add_one_sub_one, ou9, mo1, nI_MO, OU_lt, OU_ge, Nat.not_lt_zero, Bool.or_false, Bool.or_true, Bool.true_or, Bool.false_or, Bool.and_true, Bool.and_false, Bool.true_and, Bool.false_and, bI_0n, bI_1n, Bool.not_not, sA_n, p5']
      rw [cB_isA (d + 1) (hS_1 ho _ Z) (show k < 9 by omega) (show 1 < 9 by omega), aft1, eS_sufferedBy_110 (d + 2) o ho, bI_0, hk]
      cases hu : under (nI k) (nI 1) with
      | false =>
        refine ⟨_, rfl, ?_, ⟨rfl, rfl⟩⟩
        rw [cond_false]
        have : upd (upd s (99 + 4 * p + 3) (s (99 + 4 * p + 3) + nI v)) (99 + 4 * p) (nI k) = upd s (99 + 4 * p + 3) (s (99 + 4 * p + 3) + nI v) := by
          have e1 : nI k = (upd s (99 + 4 * p + 3) (s (99 + 4 * p + 3) + nI v)) (99 + 4 * p) := by rw [upd_ne (by omega), hk]
          rw [e1, upd_id]
        rw [this]
        exact R1
      | true =>
        obtain ⟨S', b1, b2, b3⟩ := cS_become d ho Z (k' := 3) R1 hp hnp (show k < 9 by omega) (by rw [upd_ne (by omega)]; exact hk) (by rw [upd_ne (by omega), hs]; exact Or.inr ⟨c, by omega, rfl⟩) (by omega)
        refine ⟨S', ?_, b2, sF_trans ⟨rfl, rfl⟩ b3⟩
        have b1' : call PGM (d + 2) yS_become [.ref o, .int (nI p), .int 3] (hS o (sA S 8 (upd (S.1 8) p (S.1 8 p + nI v))) Z) = some (none, hS o S' Z) := b1
        rw [Bool.not_true, cond_false, b1', aft0, eS_sufferedBy_119 (d + 2) o ho]
  rw [kS_sufferedBy, eS_sufferedBy_0 (d + 2) o ho]
  have loop : ∀ m j, j + m = nb → ∃ S', sem PGM (d + 2) yS_sufferedBy (7, [some (.ref o), some (.int (nI p)), some (.int (bI (hitB s p j))), some (.int (bI (lonB s p j))), some (.int (nI j))], [], hS o S Z) = some (some (.int (nI (hv s nb p))), hS o S' Z) ∧ RS S' (hrm1 s nb p) np nb ∧ sF S S' := by
    intro m
    induction m with
    | zero =>
      intro j hj
      have ej : j = nb := by omega
      subst ej
      rw [eS_sufferedBy_7 (d + 2) o ho, e2, ehv, bI_ne0, bI_0]
      simp (disch := omega) only [l0, l1, l2, l3, l4, l5, l6, l7, l8, l9, l10, l11, l12, l13, l14, l15, l16, l17, l18, l19, l20, l21, l22, l23, l24, l25, l26, l27, l28, l29, l30, l31, l40, l48, l52, l57, l60, l65, l97, l99, l100, l102, l119, l122, l179, l197, l200, l201, l237, l436, l437, pk_mul, nI_add, inb_nI, nclamp, dlt, dle, deq, bif_t, bif_f, bif_nt, bif_nf, aft0, aft1, decide_true, decide_false, Bool.not_true, Bool.not_false, cond_true, cond_false, Nat.add_sub_cancel, Nat.add_one_sub_one, ou9, mo1, nI_MO, OU_lt, OU_ge, Nat.not_lt_zero, Bool.or_false, Bool.or_true, Bool.true_or, Bool.false_or, Bool.and_true, Bool.and_false, Bool.true_and, Bool.false_and, bI_0n, bI_1n, Bool.not_not, p5']
      rw [ht]
      have hN : harmN s j p = if hitB s p j = true then hurtN (nI k) + (if lonB s p j = true then 1 else 0) else 0 := by rw [harmN, hk]
      cases hh : hitB s p j with
      | false =>
        refine ⟨S, ?_, ?_, sF_refl S⟩
        · rw [cond_false, hN, hh]
          rfl
        · rw [hrm1, ehv, hN, hh, if_pos (by simp)]
          exact h
      | true =>
        rw [hh] at hN
        rw [cond_true]
        cases hlo : lonB s p j with
        | false =>
          rw [hlo] at hN
          simp only [if_true, Bool.false_eq_true, if_false, Nat.add_zero] at hN
          have := tail (hurtN (nI k)) (bI true) (bI false) hN.symm
          rw [hN]
          simp only [Bool.not_false, cond_true, add0]
          exact this
        | true =>
          rw [hlo] at hN
          simp only [if_true] at hN
          have := tail (hurtN (nI k) + 1) (bI true) (bI true) hN.symm
          rw [hN]
          simp only [Bool.not_true, cond_false, nI_add]
          exact this
    | succ m ih =>
      intro j hj
      have ih' := ih (j + 1) (by omega)
      obtain ⟨b9, b10, b11⟩ := h.2.2.2.1 j (by omega)
      rw [eS_sufferedBy_7 (d + 2) o ho, e2]
      rw [hitB, lonB, hs] at ih'
      simp (disch := omega) only [l0, l1, l2, l3, l4, l5, l6, l7, l8, l9, l10, l11, l12, l13, l14, l15, l16, l17, l18, l19, l20, l21, l22, l23, l24, l25, l26, l27, l28, l29, l30, l31, l40, l48, l52, l57, l60, l65, l97, l99, l100, l102, l119, l122, l179, l197, l200, l201, l237, l436, l437, pk_mul, nI_add, inb_nI, nclamp, dlt, dle, deq, bif_t, bif_f, bif_nt, bif_nf, aft0, aft1, decide_true, decide_false, Bool.not_true, Bool.not_false, cond_true, cond_false, Nat.add_sub_cancel, Nat.add_one_sub_one, ou9, mo1, nI_MO, OU_lt, OU_ge, Nat.not_lt_zero, Bool.or_false, Bool.or_true, Bool.true_or, Bool.false_or, Bool.and_true, Bool.and_false, Bool.true_and, Bool.false_and, bI_0n, bI_1n, Bool.not_not, p6', b9, b11]
      have imp : decide (s (179 + 3 * j) = nI c) = (!decide (s (179 + 3 * j) < nI 0) && decide (s (179 + 3 * j) = nI c)) := by
        by_cases e : s (179 + 3 * j) = nI c
        · rw [e, dlt (by omega) (by omega)]
          simp
        · simp [e]
      rw [← imp] at ih'
      cases h6 : decide (s (179 + 3 * j) = nI c) <;> cases h7 : decide (s (179 + 3 * j + 2) = nI 1) <;> rw [h6, h7] at ih' <;> simp only [Bool.or_false, Bool.or_true, Bool.and_self, Bool.and_false, Bool.false_and] at ih' <;> exact ih'
  exact loop nb 0 (by omega)
-- heaps
def hpQ (s : Nat → Int32) (np p : Nat) : Bool := !decide (s (99 + 4 * p + 1) < nI 0) && (under (s (99 + 4 * p)) (nI 3) && !decide (nI (faN s (s (99 + 4 * p + 1)) np) < s 7))
def hpK (s : Nat → Int32) (np : Nat) : Nat → Nat → Int32
  | 0 => s
  | p + 1 => bif hpQ s np p then upd (hpK s np p) (99 + 4 * p) (nI 6) else hpK s np p
theorem hpK_fr {s : Nat → Int32} {np k : Nat} : ∀ p, (∀ q, q < p → k ≠ 99 + 4 * q) → hpK s np p k = s k
  | 0, _ => rfl
  | p + 1, h => by
    rw [hpK]
    cases hpQ s np p with
    | true => rw [cond_true, upd_ne (h p (by omega)), hpK_fr p (fun q hq => h q (by omega))]
    | false => rw [cond_false, hpK_fr p (fun q hq => h q (by omega))]
theorem hpK_at {s : Nat → Int32} {np : Nat} {q : Nat} : ∀ p, q < p → hpK s np p (99 + 4 * q) = bif hpQ s np q then nI 6 else s (99 + 4 * q)
  | 0, h => absurd h (Nat.not_lt_zero q)
  | p + 1, h => by
    rw [hpK]
    by_cases e : q = p
    · subst e
      cases hpQ s np q with
      | true => rw [cond_true, cond_true, upd_eq]
      | false => rw [cond_false, cond_false, hpK_fr q (fun r hr => by omega)]
    · have ih := hpK_at (s := s) (np := np) p (show q < p by omega)
      cases hpQ s np p with
      | true => rw [cond_true, upd_ne (by omega), ih]
      | false => rw [cond_false, ih]
theorem hpK_un {s : Nat → Int32} {np : Nat} (p q : Nat) : under (hpK s np p (99 + 4 * q)) (nI 3) = under (s (99 + 4 * q)) (nI 3) := by
  by_cases h : q < p
  · rw [hpK_at p h]
    cases e : hpQ s np q with
    | false => rfl
    | true =>
      unfold hpQ at e
      simp only [Bool.and_eq_true] at e
      rw [cond_true, e.2.1]
      decide
  · rw [hpK_fr p (fun r hr => by omega)]
theorem hpK_fa {s : Nat → Int32} {np : Nat} (p n : Nat) (c : Int32) : faN (hpK s np p) c n = faN s c n :=
  cnt_congr (fun q hq => by
    show (decide _ && under _ (nI 3)) = (decide _ && under _ (nI 3))
    rw [hpK_un p q, hpK_fr p (fun r hr => by omega)])
theorem cS_heapUp (d : Nat) {o : Nat} (ho : o = 43 ∨ o = 59) {S : SS} (Z : RT) {s : Nat → Int32} {nc np nb T : Nat} {B : Nat → Nat} (h : RS S s np nb) (W : WF s nc np nb T B) :
    ∃ S', call PGM (d + 3) yS_heapUp [.ref o] (hS o S Z) = some (none, hS o S' Z) ∧ RS S' (hpK s np np) np nb ∧ sF S S' := by
  have hnp := W.1.2.1.2
  have hnc := W.1.1.2.2
  rw [kS_heapUp, eS_heapUp_0 (d + 2) o ho]
  have loop : ∀ m p, p + m = np → ∀ S1, RS S1 (hpK s np p) np nb → sF S S1 → ∃ S', sem PGM (d + 2) yS_heapUp (2, [some (.ref o), some (.int (nI p))], [], hS o S1 Z) = some (none, hS o S' Z) ∧ RS S' (hpK s np np) np nb ∧ sF S S' := by
    intro m
    induction m with
    | zero =>
      intro p hp S1 R1 F1
      have ep : p = np := by omega
      subst ep
      have e1 : S1.2.1 1 = nI p := (R1.1 1 (by omega)).trans ((hpK_fr p (fun q hq => by omega)).trans W.1.2.1.1)
      refine ⟨S1, ?_, R1, F1⟩
      rw [eS_heapUp_2 (d + 2) o ho, e1]
      simp (disch := omega) only [l0, l1, l2, l3, l4, l5, l6, l7, l8, l9, l10, l11, l12, l13, l14, l15, l16, l17, l18, l19, l20, l21, l22, l23, l24, l25, l26, l27, l28, l29, l30, l31, l40, l48, l52, l57, l60, l65, l97, l99, l100, l102, l119, l122, l179, l197, l200, l201, l237, l436, l437, pk_mul, nI_add, inb_nI, nclamp, dlt, dle, deq, bif_t, bif_f, bif_nt, bif_nf, aft0, aft1, decide_true, decide_false, Bool.not_true, Bool.not_false, cond_true, cond_false, Nat.add_sub_cancel, Nat.add_one_sub_one, ou9, mo1, nI_MO, OU_lt, OU_ge, Nat.not_lt_zero, Bool.or_false, Bool.or_true, Bool.true_or, Bool.false_or, Bool.and_true, Bool.and_false, Bool.true_and, Bool.false_and, bI_0n, bI_1n, Bool.not_not]
    | succ m ih =>
      intro p hp S1 R1 F1
      have e1 : S1.2.1 1 = nI np := (R1.1 1 (by omega)).trans ((hpK_fr p (fun q hq => by omega)).trans W.1.2.1.1)
      have e0 : S1.2.1 0 = nI nc := (R1.1 0 (by omega)).trans ((hpK_fr p (fun q hq => by omega)).trans W.1.1.1)
      have r7 : S1.1 12 2 = s 7 := (R1.2.2.2.2.1 2 (by omega)).trans (hpK_fr p (fun q hq => by omega))
      obtain ⟨p5, p6, _, _⟩ := R1.2.2.1 p (by omega)
      obtain ⟨k, k1, k7, hk⟩ := WF_upk W (show p < np by omega)
      have i5 : hpK s np p (99 + 4 * p) = nI k := (hpK_fr p (fun q hq => by omega)).trans hk
      have i6 : hpK s np p (99 + 4 * p + 1) = s (99 + 4 * p + 1) := hpK_fr p (fun q hq => by omega)
      have p5' : S1.1 5 p = nI k := p5.trans i5
      have p6' : S1.1 6 p = s (99 + 4 * p + 1) := p6.trans i6
      rw [eS_heapUp_2 (d + 2) o ho, e1, cS_isOut (d + 1) ho S1 Z (show p < 20 by omega), aft1, eS_heapUp_15 (d + 2) o ho, bI_ne0, p6', l0]
      rw [dle (by omega) (by omega), bif_f (show ¬ np ≤ p by omega)]
      rcases (W.2.2.1 p (by omega)).2.1 with hq | ⟨c, hc, hq⟩
      · rw [hq, OU_lt, cond_true, nI_1]
        refine ih (p + 1) (by omega) S1 ?_ F1
        rw [hpK, hpQ, hq, OU_lt]
        exact R1
      · have c4 : S1.1 4 c = nI (faN s (nI c) np) := by rw [(R1.2.2.2.2.2 c (by omega)).2, hpK_fa]
        have p6'' : S1.1 6 p = nI c := p6'.trans hq
        have Q : hpQ s np p = (under (nI k) (nI 3) && !decide (nI (faN s (nI c) np) < s 7)) := by
          rw [hpQ, hq, dlt (by omega) (by omega), hk]
          simp
        rw [hq]
        simp (disch := omega) only [l0, l1, l2, l3, l4, l5, l6, l7, l8, l9, l10, l11, l12, l13, l14, l15, l16, l17, l18, l19, l20, l21, l22, l23, l24, l25, l26, l27, l28, l29, l30, l31, l40, l48, l52, l57, l60, l65, l97, l99, l100, l102, l119, l122, l179, l197, l200, l201, l237, l436, l437, pk_mul, nI_add, inb_nI, nclamp, dlt, dle, deq, bif_t, bif_f, bif_nt, bif_nf, aft0, aft1, decide_true, decide_false, Bool.not_true, Bool.not_false, cond_true, cond_false, Nat.add_sub_cancel, Nat.add_one_sub_one, ou9, mo1, nI_MO, OU_lt, OU_ge, Nat.not_lt_zero, Bool.or_false, Bool.or_true, Bool.true_or, Bool.false_or, Bool.and_true, Bool.and_false, Bool.true_and, Bool.false_and, bI_0n, bI_1n, Bool.not_not, p5', p6'']
        rw [cB_isA (d + 1) (hS_1 ho S1 Z) (show k < 9 by omega) (show 3 < 9 by omega), aft1, eS_heapUp_28 (d + 2) o ho, bI_ne0]
        simp (disch := omega) only [l0, l1, l2, l3, l4, l5, l6, l7, l8, l9, l10, l11, l12, l13, l14, l15, l16, l17, l18, l19, l20, l21, l22, l23, l24, l25, l26, l27, l28, l29, l30, l31, l40, l48, l52, l57, l60, l65, l97, l99, l100, l102, l119, l122, l179, l197, l200, l201, l237, l436, l437, pk_mul, nI_add, inb_nI, nclamp, dlt, dle, deq, bif_t, bif_f, bif_nt, bif_nf, aft0, aft1, decide_true, decide_false, Bool.not_true, Bool.not_false, cond_true, cond_false, Nat.add_sub_cancel, Nat.add_one_sub_one, ou9, mo1, nI_MO, OU_lt, OU_ge, Nat.not_lt_zero, Bool.or_false, Bool.or_true, Bool.true_or, Bool.false_or, Bool.and_true, Bool.and_false, Bool.true_and, Bool.false_and, bI_0n, bI_1n, Bool.not_not, p5', p6'']
        rw [cS_hasCellN (d + 1) ho Z (show c < 2147483648 by omega) hnc e0, aft1, eS_heapUp_44 (d + 2) o ho, bI_0]
        simp (disch := omega) only [l0, l1, l2, l3, l4, l5, l6, l7, l8, l9, l10, l11, l12, l13, l14, l15, l16, l17, l18, l19, l20, l21, l22, l23, l24, l25, l26, l27, l28, l29, l30, l31, l40, l48, l52, l57, l60, l65, l97, l99, l100, l102, l119, l122, l179, l197, l200, l201, l237, l436, l437, pk_mul, nI_add, inb_nI, nclamp, dlt, dle, deq, bif_t, bif_f, bif_nt, bif_nf, aft0, aft1, decide_true, decide_false, Bool.not_true, Bool.not_false, cond_true, cond_false, Nat.add_sub_cancel, Nat.add_one_sub_one, ou9, mo1, nI_MO, OU_lt, OU_ge, Nat.not_lt_zero, Bool.or_false, Bool.or_true, Bool.true_or, Bool.false_or, Bool.and_true, Bool.and_false, Bool.true_and, Bool.false_and, bI_0n, bI_1n, Bool.not_not, p6'', c4, r7, hc]
        cases hu : under (nI k) (nI 3) with
        | false =>
          rw [hu] at Q
          rw [cond_false]
          refine ih (p + 1) (by omega) S1 ?_ F1
          rw [hpK, Q]
          exact R1
        | true =>
          rw [hu] at Q
          rw [cond_true]
          cases hf : decide (nI (faN s (nI c) np) < s 7) with
          | true =>
            rw [hf] at Q
            rw [cond_true]
            refine ih (p + 1) (by omega) S1 ?_ F1
            rw [hpK, Q]
            exact R1
          | false =>
            rw [hf] at Q
            rw [cond_false]
            obtain ⟨S2, b1, b2, b3⟩ := cS_become d ho Z (k' := 6) R1 (show p < np by omega) hnp (show k < 9 by omega) i5 (by rw [i6, hq]; exact Or.inr ⟨c, by omega, rfl⟩) (by omega)
            rw [b1, aft0, eS_heapUp_74 (d + 2) o ho, nI_1]
            refine ih (p + 1) (by omega) S2 ?_ (sF_trans F1 b3)
            rw [hpK, Q]
            exact b2
  exact loop np 0 (by omega) S h (sF_refl S)
-- against the model's
theorem hpR_at {s : Nat → Int32} {c : Nat} : ∀ p k, hpR s c p k = s k ∨ ∃ q, q < p ∧ k = 99 + 4 * q
  | 0, _ => Or.inl rfl
  | p + 1, k => by
    rw [hpR]
    by_cases e : k = 99 + 4 * p
    · exact Or.inr ⟨p, by omega, e⟩
    · rcases hpR_at (s := s) (c := c) p k with h | ⟨q, hq, h⟩
      · left
        cases decide (hpR s c p (99 + 4 * p + 1) = nI c) && decide (hpR s c p (99 + 4 * p) = nI 3) with
        | true => rw [cond_true, upd_ne e, h]
        | false => rw [cond_false, h]
      · exact Or.inr ⟨q, by omega, h⟩
theorem hpR_fr {s : Nat → Int32} {c k : Nat} (p : Nat) (h : ∀ q, q < p → k ≠ 99 + 4 * q) : hpR s c p k = s k := by
  rcases hpR_at (s := s) (c := c) p k with e | ⟨q, hq, e⟩
  · exact e
  · exact absurd e (h q hq)
theorem hpR_k {s : Nat → Int32} {c q : Nat} : ∀ p, q < p → hpR s c p (99 + 4 * q) = bif decide (s (99 + 4 * q + 1) = nI c) && decide (s (99 + 4 * q) = nI 3) then nI 6 else s (99 + 4 * q)
  | 0, h => absurd h (Nat.not_lt_zero q)
  | p + 1, h => by
    rw [hpR, hpR_fr (k := 99 + 4 * p + 1) p (fun r hr => by omega), hpR_fr (k := 99 + 4 * p) p (fun r hr => by omega)]
    by_cases e : q = p
    · subst e
      cases decide (s (99 + 4 * q + 1) = nI c) && decide (s (99 + 4 * q) = nI 3) with
      | true => rw [cond_true, cond_true, upd_eq]
      | false => rw [cond_false, cond_false, hpR_fr q (fun r hr => by omega)]
    · have ih := hpR_k (s := s) (c := c) p (show q < p by omega)
      cases decide (s (99 + 4 * p + 1) = nI c) && decide (s (99 + 4 * p) = nI 3) with
      | true => rw [cond_true, upd_ne (by omega), ih]
      | false => rw [cond_false, ih]
def hpD (s : Nat → Int32) (np c q : Nat) : Bool := (decide (nI 0 ≤ s (99 + 4 * q + 1)) && decide (s (99 + 4 * q + 1) < nI c)) && (decide (s (99 + 4 * q) = nI 3) && !decide (nI (faN s (s (99 + 4 * q + 1)) np) < s 7))
theorem fa_same {s s' : Nat → Int32} {np : Nat} (h1 : ∀ q, q < np → s' (99 + 4 * q + 1) = s (99 + 4 * q + 1)) (h2 : ∀ q, q < np → under (s' (99 + 4 * q)) (nI 3) = under (s (99 + 4 * q)) (nI 3)) (x : Int32) : faN s' x np = faN s x np :=
  cnt_congr (fun q hq => by
    show (decide _ && under _ (nI 3)) = (decide _ && under _ (nI 3))
    rw [h1 q hq, h2 q hq])
theorem un63 : under (nI 6) (nI 3) = true := by decide
theorem un33 : under (nI 3) (nI 3) = true := by decide
theorem OU_nle : decide (nI 0 ≤ OU) = false := by decide
theorem hpD_un {s : Nat → Int32} {np c q : Nat} : under (bif hpD s np c q then nI 6 else s (99 + 4 * q)) (nI 3) = under (s (99 + 4 * q)) (nI 3) := by
  cases e : hpD s np c q with
  | false => rfl
  | true =>
    unfold hpD at e
    simp only [Bool.and_eq_true, decide_eq_true_eq] at e
    rw [cond_true, e.2.1, un63, un33]
theorem hpD_0 {s : Nat → Int32} {nc np q : Nat} (hnc : nc ≤ 30) (h : okQ nc (s (99 + 4 * q + 1))) : hpD s np 0 q = false := by
  unfold hpD
  rcases h with e | ⟨a, ha, e⟩
  · rw [e, OU_nle, Bool.false_and, Bool.false_and]
  · have : decide (a < 0) = false := by simp
    rw [e, dlt (by omega) (by omega), this, Bool.and_false, Bool.false_and]
theorem hpD_ne {s : Nat → Int32} {nc np c q : Nat} (hnc : nc ≤ 30) (hc : c < nc) (h : okQ nc (s (99 + 4 * q + 1))) (hne : s (99 + 4 * q + 1) ≠ nI c) : hpD s np (c + 1) q = hpD s np c q := by
  unfold hpD
  rcases h with e | ⟨a, ha, e⟩
  · rw [e, OU_nle, Bool.false_and, Bool.false_and, Bool.false_and, Bool.false_and]
  · have h1 : a ≠ c := fun h => hne (by rw [e, h])
    have h2 : decide (a < c + 1) = decide (a < c) := by
      rw [decide_eq_decide]
      omega
    rw [e, dlt (by omega) (by omega), dlt (by omega) (by omega), h2]
theorem hpD_at {s : Nat → Int32} {nc np c q : Nat} (hnc : nc ≤ 30) (hc : c < nc) (he : s (99 + 4 * q + 1) = nI c) : hpD s np c q = false ∧ hpD s np (c + 1) q = (decide (s (99 + 4 * q) = nI 3) && !decide (nI (faN s (nI c) np) < s 7)) := by
  unfold hpD
  have h1 : decide (c < c) = false := by simp
  have h2 : decide (c < c + 1) = true := by simp
  have h3 : decide (0 ≤ c) = true := by simp
  rw [he, dle (by omega) (by omega), dlt (by omega) (by omega), dlt (by omega) (by omega), h1, h2, h3]
  exact ⟨rfl, rfl⟩
theorem hpC_at {s : Nat → Int32} {nc np nb T : Nat} {B : Nat → Nat} (W : WF s nc np nb T B) : ∀ c, c ≤ nc → (∀ k, (∀ q, q < np → k ≠ 99 + 4 * q) → hpC np s c k = s k) ∧ (∀ q, q < np → hpC np s c (99 + 4 * q) = bif hpD s np c q then nI 6 else s (99 + 4 * q)) := by
  have hnc := W.1.1.2.2
  intro c
  induction c with
  | zero =>
    intro _
    refine ⟨fun _ _ => rfl, fun q hq => ?_⟩
    rw [hpD_0 hnc (W.2.2.1 q hq).2.1]
    rfl
  | succ c ih =>
    intro hc
    obtain ⟨ihA, ihB⟩ := ih (by omega)
    have pl : ∀ q, q < np → hpC np s c (99 + 4 * q + 1) = s (99 + 4 * q + 1) := fun q _ => ihA _ (fun r _ => by omega)
    have fa : faN (hpC np s c) (nI c) np = faN s (nI c) np := fa_same pl (fun q hq => by rw [ihB q hq, hpD_un]) (nI c)
    have e7 : hpC np s c 7 = s 7 := ihA 7 (fun r hr => by omega)
    rw [hpC, fa, e7]
    cases hd : decide (nI (faN s (nI c) np) < s 7) with
    | true =>
      rw [cond_true]
      refine ⟨ihA, fun q hq => ?_⟩
      rw [ihB q hq]
      by_cases he : s (99 + 4 * q + 1) = nI c
      · obtain ⟨a1, a2⟩ := hpD_at (np := np) hnc (show c < nc by omega) he
        rw [a1, a2, hd, Bool.not_true, Bool.and_false]
      · rw [hpD_ne hnc (show c < nc by omega) (W.2.2.1 q hq).2.1 he]
    | false =>
      rw [cond_false]
      refine ⟨fun k hk => by rw [hpR_fr np hk, ihA k hk], fun q hq => ?_⟩
      rw [hpR_k np hq, pl q hq, ihB q hq]
      by_cases he : s (99 + 4 * q + 1) = nI c
      · obtain ⟨a1, a2⟩ := hpD_at (np := np) hnc (show c < nc by omega) he
        have y : decide (nI c = nI c) = true := by simp
        rw [a1, a2, hd, he, y, Bool.not_false, Bool.and_true, Bool.true_and, cond_false]
      · have y : decide (s (99 + 4 * q + 1) = nI c) = false := by simp [he]
        rw [hpD_ne hnc (show c < nc by omega) (W.2.2.1 q hq).2.1 he, y, Bool.false_and, cond_false]
theorem hp_eq {s : Nat → Int32} {nc np nb T : Nat} {B : Nat → Nat} (W : WF s nc np nb T B) : hpK s np np = hpC np s nc := by
  have hnc := W.1.1.2.2
  obtain ⟨hA, hB⟩ := hpC_at W nc (Nat.le_refl _)
  funext k
  by_cases h : ∃ q, q < np ∧ k = 99 + 4 * q
  · obtain ⟨q, hq, rfl⟩ := h
    rw [hpK_at np hq, hB q hq, hpQ, hpD]
    obtain ⟨j, k1, k7, hk⟩ := WF_upk W hq
    rcases (W.2.2.1 q hq).2.1 with e | ⟨a, ha, e⟩
    · rw [e]
      have z1 : decide (OU < nI 0) = true := OU_lt
      have z2 : decide (nI 0 ≤ OU) = false := by decide
      rw [z1, z2]
      rfl
    · rw [e, hk, dlt (by omega) (by omega), dle (by omega) (by omega), dlt (by omega) (by omega), deq (by omega) (by omega)]
      have hu := un3 ⟨j, by omega⟩
      rw [hu]
      simp only [ha, Nat.not_lt_zero, Nat.zero_le, decide_true, decide_false, Bool.not_false, Bool.true_and]
      by_cases j3 : j = 3
      · simp [j3]
      · by_cases j6 : j = 6
        · subst j6
          cases decide (nI (faN s (nI a) np) < s 7) <;> rfl
        · simp [j3, j6]
  · have h' : ∀ q, q < np → k ≠ 99 + 4 * q := fun q hq e => h ⟨q, hq, e⟩
    rw [hpK_fr np h', hA k h']
