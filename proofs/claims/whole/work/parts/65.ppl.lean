/-! The class's street: what one does in a turn. -/
theorem sF_refl (S : SS) : sF S S := ⟨rfl, rfl⟩
theorem sF_trans {S S' S'' : SS} (h : sF S S') (h' : sF S' S'') : sF S S'' := ⟨h'.1.trans h.1, h'.2.trans h.2⟩
theorem sF_13 (S : SS) (f : Nat → Int32) : sF S (sA S 13 f) := ⟨rfl, rfl⟩
theorem un3 : ∀ k : Fin 8, under (nI k.val) (nI 3) = (decide (k.val = 3) || decide (k.val = 6)) := by decide +kernel
theorem WF_upk {s : Nat → Int32} {nc np nb T p : Nat} {B : Nat → Nat} (W : WF s nc np nb T B) (hp : p < np) : ∃ k, 1 ≤ k ∧ k ≤ 7 ∧ s (99 + 4 * p) = nI k := (W.2.2.1 p hp).1
theorem cS_rise (d : Nat) {o : Nat} (ho : o = 43 ∨ o = 59) {S : SS} (Z : RT) {s : Nat → Int32} {nc np nb T p c : Nat} {B : Nat → Nat} (h : RS S s np nb) (W : WF s nc np nb T B) (hp : p < np) (hc : c < nc) (hs : s (99 + 4 * p + 1) = nI c) (hu : under (s (99 + 4 * p)) (nI 3) = true) :
    ∃ S', call PGM (d + 3) yS_rise [.ref o, .int (nI p)] (hS o S Z) = some (none, hS o S' Z) ∧ RS S' (runF s np nb p) np nb ∧ sF S S' := by
  have hnp := W.1.2.1.2
  have hnc := W.1.1.2.2
  have e0 : S.2.1 0 = nI nc := (h.1 0 (by omega)).trans W.1.1.1
  obtain ⟨p5, p6, p7, p8⟩ := h.2.2.1 p hp
  obtain ⟨k, k1, k7, hk⟩ := WF_upk W hp
  have p6' : S.1 6 p = nI c := p6.trans hs
  have p5' : S.1 5 p = nI k := p5.trans hk
  have r6 : S.1 12 1 = s 6 := h.2.2.2.2.1 1 (by omega)
  have r7 : S.1 12 2 = s 7 := h.2.2.2.2.1 2 (by omega)
  have c4 : S.1 4 c = nI (faN s (nI c) np) := (h.2.2.2.2.2 c (by omega)).2
  obtain ⟨S', b1, b2, b3⟩ := cS_become d ho Z (k' := 1) h hp hnp (show k < 9 by omega) hk (by rw [hs]; exact Or.inr ⟨c, by omega, rfl⟩) (by omega)
  have key : ∀ u2, ∃ S', aftK (sem PGM (d + 2) yS_rise) 1 (59, [some (.ref o), some (.int (nI p)), u2], [], hS o S Z) (call PGM (d + 2) yS_nearOf [.ref o, .int (nI p)] (hS o S Z)) = some (none, hS o S' Z) ∧ RS S' (upd s (99 + 4 * p) (bif decide (nrF s (nI c) nb ≤ s 6) then nI k else nI 1)) np nb ∧ sF S S' := by
    intro u2
    rw [cS_nearOf (d + 1) ho Z h W hp hc hs, aft1, eS_rise_59 (d + 2) o ho, r6]
    cases decide (nrF s (nI c) nb ≤ s 6) with
    | true => exact ⟨S, rfl, by rw [cond_true, ← hk, upd_id]; exact h, sF_refl S⟩
    | false =>
      refine ⟨S', ?_, b2, b3⟩
      rw [cond_false]
      have b1' : call PGM (d + 2) yS_become [.ref o, .int (nI p), .int 1] (hS o S Z) = some (none, hS o S' Z) := b1
      rw [b1', aft0, eS_rise_74 (d + 2) o ho]
  have hu' := un3 ⟨k, by omega⟩
  rw [hk] at hu
  rw [hu] at hu'
  have k36 : k = 3 ∨ k = 6 := by
    have := hu'.symm
    simp at this
    exact this
  rw [kS_rise, eS_rise_0 (d + 2) o ho, runF, hk, hu, hs]
  rcases k36 with rfl | rfl
  · simp (disch := omega) only [l0, l1, l2, l3, l4, l5, l6, l7, l8, l9, l10, l11, l12, l13, l14, l15, l16, l17, l18, l19, l20, l21, l22, l23, l24, l25, l26, l27, l28, l29, l30, l31, l40, l48, l52, l57, l60, l65, l97, l99, l100, l102, l119, l122, l179, l197, l200, l201, l237, l436, l437, pk_mul, nI_add, inb_nI, nclamp, dlt, dle, deq, bif_t, bif_f, bif_nt, bif_nf, aft0, aft1, decide_true, decide_false, Bool.not_true, Bool.not_false, cond_true, cond_false, Nat.add_sub_cancel, Nat.add_one_sub_one, ou9, mo1, nI_MO, OU_lt, OU_ge, Nat.not_lt_zero, Bool.or_false, Bool.or_true, Bool.true_or, Bool.false_or, Bool.and_true, Bool.and_false, Bool.true_and, Bool.false_and, bI_0n, bI_1n, Bool.not_not, p5']
    exact key _
  · simp (disch := omega) only [l0, l1, l2, l3, l4, l5, l6, l7, l8, l9, l10, l11, l12, l13, l14, l15, l16, l17, l18, l19, l20, l21, l22, l23, l24, l25, l26, l27, l28, l29, l30, l31, l40, l48, l52, l57, l60, l65, l97, l99, l100, l102, l119, l122, l179, l197, l200, l201, l237, l436, l437, pk_mul, nI_add, inb_nI, nclamp, dlt, dle, deq, bif_t, bif_f, bif_nt, bif_nf, aft0, aft1, decide_true, decide_false, Bool.not_true, Bool.not_false, cond_true, cond_false, Nat.add_sub_cancel, Nat.add_one_sub_one, ou9, mo1, nI_MO, OU_lt, OU_ge, Nat.not_lt_zero, Bool.or_false, Bool.or_true, Bool.true_or, Bool.false_or, Bool.and_true, Bool.and_false, Bool.true_and, Bool.false_and, bI_0n, bI_1n, Bool.not_not, p5', p6']
    rw [cS_hasCellN (d + 1) ho Z (show c < 2147483648 by omega) hnc e0, aft1, eS_rise_21 (d + 2) o ho, bI_0]
    simp (disch := omega) only [l0, l1, l2, l3, l4, l5, l6, l7, l8, l9, l10, l11, l12, l13, l14, l15, l16, l17, l18, l19, l20, l21, l22, l23, l24, l25, l26, l27, l28, l29, l30, l31, l40, l48, l52, l57, l60, l65, l97, l99, l100, l102, l119, l122, l179, l197, l200, l201, l237, l436, l437, pk_mul, nI_add, inb_nI, nclamp, dlt, dle, deq, bif_t, bif_f, bif_nt, bif_nf, aft0, aft1, decide_true, decide_false, Bool.not_true, Bool.not_false, cond_true, cond_false, Nat.add_sub_cancel, Nat.add_one_sub_one, ou9, mo1, nI_MO, OU_lt, OU_ge, Nat.not_lt_zero, Bool.or_false, Bool.or_true, Bool.true_or, Bool.false_or, Bool.and_true, Bool.and_false, Bool.true_and, Bool.false_and, bI_0n, bI_1n, Bool.not_not, p6', c4, r7, hc]
    have le := le_not_lt (s 7) (nI (faN s (nI c) np))
    rw [le]
    cases hh : decide (nI (faN s (nI c) np) < s 7) with
    | true =>
      simp only [cond_true, Bool.not_true, cond_false]
      exact key _
    | false =>
      simp only [cond_false, Bool.not_false, cond_true]
      refine ⟨S, rfl, ?_, sF_refl S⟩
      rw [bif_same, ← hk, upd_id]
      exact h
theorem cS_walk (d : Nat) {o : Nat} (ho : o = 43 ∨ o = 59) (Z : RT) {nc np nb T p t : Nat} {B : Nat → Nat} (ht : t ≤ 4) (hp : p < np) : ∀ (k : Nat) (S : SS) (s : Nat → Int32) (j c : Nat) (u4 : Option Value), j + k = t → RS S s np nb → WF s nc np nb T B → c < nc → s (99 + 4 * p + 1) = nI c →
    ∃ S', sem PGM (d + 2) yS_goAhead (40, [some (.ref o), some (.int (nI p)), some (.int (nI t)), some (.int (nI j)), u4], [], hS o S Z) = some (none, hS o S' Z) ∧ RS S' (walkF np p k s) np nb ∧ sF S S' := by
  intro k
  induction k with
  | zero =>
    intro S s j c u4 hj h W hc hs
    refine ⟨S, ?_, h, sF_refl S⟩
    rw [eS_goAhead_40 (d + 2) o ho]
    simp (disch := omega) only [l0, l1, l2, l3, l4, l5, l6, l7, l8, l9, l10, l11, l12, l13, l14, l15, l16, l17, l18, l19, l20, l21, l22, l23, l24, l25, l26, l27, l28, l29, l30, l31, l40, l48, l52, l57, l60, l65, l97, l99, l100, l102, l119, l122, l179, l197, l200, l201, l237, l436, l437, pk_mul, nI_add, inb_nI, nclamp, dlt, dle, deq, bif_t, bif_f, bif_nt, bif_nf, aft0, aft1, decide_true, decide_false, Bool.not_true, Bool.not_false, cond_true, cond_false, Nat.add_sub_cancel, Nat.add_one_sub_one, ou9, mo1, nI_MO, OU_lt, OU_ge, Nat.not_lt_zero, Bool.or_false, Bool.or_true, Bool.true_or, Bool.false_or, Bool.and_true, Bool.and_false, Bool.true_and, Bool.false_and, bI_0n, bI_1n, Bool.not_not]
  | succ k ih =>
    intro S s j c u4 hj h W hc hs
    have hnp := W.1.2.1.2
    have hnc := W.1.1.2.2
    have e0 : S.2.1 0 = nI nc := (h.1 0 (by omega)).trans W.1.1.1
    obtain ⟨p5, p6, p7, p8⟩ := h.2.2.1 p hp
    obtain ⟨kk, k1, k7, hk⟩ := WF_upk W hp
    have p6' : S.1 6 p = nI c := p6.trans hs
    have r7 : S.1 12 2 = s 7 := h.2.2.2.2.1 2 (by omega)
    have okc : okQ 30 (s (99 + 4 * p + 1)) := by rw [hs]; exact Or.inr ⟨c, by omega, rfl⟩
    rw [eS_goAhead_40 (d + 2) o ho]
    simp (disch := omega) only [l0, l1, l2, l3, l4, l5, l6, l7, l8, l9, l10, l11, l12, l13, l14, l15, l16, l17, l18, l19, l20, l21, l22, l23, l24, l25, l26, l27, l28, l29, l30, l31, l40, l48, l52, l57, l60, l65, l97, l99, l100, l102, l119, l122, l179, l197, l200, l201, l237, l436, l437, pk_mul, nI_add, inb_nI, nclamp, dlt, dle, deq, bif_t, bif_f, bif_nt, bif_nf, aft0, aft1, decide_true, decide_false, Bool.not_true, Bool.not_false, cond_true, cond_false, Nat.add_sub_cancel, Nat.add_one_sub_one, ou9, mo1, nI_MO, OU_lt, OU_ge, Nat.not_lt_zero, Bool.or_false, Bool.or_true, Bool.true_or, Bool.false_or, Bool.and_true, Bool.and_false, Bool.true_and, Bool.false_and, bI_0n, bI_1n, Bool.not_not, p6']
    rw [cS_hasCellN (d + 1) ho Z (show c + 1 < 2147483648 by omega) hnc e0, aft1, eS_goAhead_61 (d + 2) o ho, bI_ne0, walkF, hs, W.1.1.1, nI_1, deq (by omega) (by omega)]
    by_cases hcc : c + 1 = nc
    · obtain ⟨S', b1, b2, b3⟩ := cS_seat d ho Z (x := OU) h hp hnp (show kk < 9 by omega) hk okc (Or.inl rfl)
      refine ⟨S', ?_, ?_, b3⟩
      · have b1' : call PGM (d + 2) yS_seat [.ref o, .int (nI p), .int (-9)] (hS o S Z) = some (none, hS o S' Z) := b1
        simp (disch := omega) only [l0, l1, l2, l3, l4, l5, l6, l7, l8, l9, l10, l11, l12, l13, l14, l15, l16, l17, l18, l19, l20, l21, l22, l23, l24, l25, l26, l27, l28, l29, l30, l31, l40, l48, l52, l57, l60, l65, l97, l99, l100, l102, l119, l122, l179, l197, l200, l201, l237, l436, l437, pk_mul, nI_add, inb_nI, nclamp, dlt, dle, deq, bif_t, bif_f, bif_nt, bif_nf, aft0, aft1, decide_true, decide_false, Bool.not_true, Bool.not_false, cond_true, cond_false, Nat.add_sub_cancel, Nat.add_one_sub_one, ou9, mo1, nI_MO, OU_lt, OU_ge, Nat.not_lt_zero, Bool.or_false, Bool.or_true, Bool.true_or, Bool.false_or, Bool.and_true, Bool.and_false, Bool.true_and, Bool.false_and, bI_0n, bI_1n, Bool.not_not]
        rw [OU_eq] at b1'
        rw [b1', aft0, eS_goAhead_71 (d + 2) o ho]
      · rw [bif_t hcc]
        exact b2
    · have hlt : c + 1 < 30 := by omega
      obtain ⟨S', b1, b2, b3⟩ := cS_seat d ho Z (x := nI (c + 1)) h hp hnp (show kk < 9 by omega) hk okc (Or.inr ⟨c + 1, hlt, rfl⟩)
      have c3 : S.1 3 (c + 1) = nI (crN s (nI (c + 1)) np) := (h.2.2.2.2.2 (c + 1) hlt).1
      have c4 : S.1 4 (c + 1) = nI (faN s (nI (c + 1)) np) := (h.2.2.2.2.2 (c + 1) hlt).2
      have c0 : S.1 0 (c + 1) = s (9 + 3 * (c + 1)) := (h.2.1 (c + 1) hlt).1
      obtain ⟨S'', d1, d2, d3⟩ := ih S' (upd s (99 + 4 * p + 1) (nI (c + 1))) (j + 1) (c + 1) (some (.int (nI (c + 1)))) (by omega) b2 (WF_place W (by omega) (Or.inr ⟨c + 1, by omega, rfl⟩)) (by omega) (upd_eq _ _ _)
      rw [bif_f hcc, nclamp (by omega), freeB]
      simp (disch := omega) only [l0, l1, l2, l3, l4, l5, l6, l7, l8, l9, l10, l11, l12, l13, l14, l15, l16, l17, l18, l19, l20, l21, l22, l23, l24, l25, l26, l27, l28, l29, l30, l31, l40, l48, l52, l57, l60, l65, l97, l99, l100, l102, l119, l122, l179, l197, l200, l201, l237, l436, l437, pk_mul, nI_add, inb_nI, nclamp, dlt, dle, deq, bif_t, bif_f, bif_nt, bif_nf, aft0, aft1, decide_true, decide_false, Bool.not_true, Bool.not_false, cond_true, cond_false, Nat.add_sub_cancel, Nat.add_one_sub_one, ou9, mo1, nI_MO, OU_lt, OU_ge, Nat.not_lt_zero, Bool.or_false, Bool.or_true, Bool.true_or, Bool.false_or, Bool.and_true, Bool.and_false, Bool.true_and, Bool.false_and, bI_0n, bI_1n, Bool.not_not, c0, c3, c4, r7]
      rw [le_not_lt]
      cases hd1 : decide (nI (crN s (nI (c + 1)) np) < s (9 + 3 * (c + 1))) with
      | false => exact ⟨S, rfl, h, sF_refl S⟩
      | true =>
        cases hd2 : decide (nI (faN s (nI (c + 1)) np) < s 7) with
        | false => exact ⟨S, rfl, h, sF_refl S⟩
        | true =>
          simp only [Bool.not_true, cond_false, cond_true, Bool.and_self]
          rw [b1, aft0, eS_goAhead_115 (d + 2) o ho, nI_1]
          exact ⟨S'', d1, d2, sF_trans b3 d3⟩
theorem cS_goAhead (d : Nat) {o : Nat} (ho : o = 43 ∨ o = 59) {S : SS} (Z : RT) {s : Nat → Int32} {nc np nb T p c : Nat} {B : Nat → Nat} (h : RS S s np nb) (W : WF s nc np nb T B) (hp : p < np) (hc : c < nc) (hs : s (99 + 4 * p + 1) = nI c) (hu : under (s (99 + 4 * p)) (nI 3) = false) :
    ∃ S', call PGM (d + 3) yS_goAhead [.ref o, .int (nI p)] (hS o S Z) = some (none, hS o S' Z) ∧ RS S' (runF s np nb p) np nb ∧ sF S S' := by
  have hnp := W.1.2.1.2
  obtain ⟨p5, p6, p7, p8⟩ := h.2.2.1 p hp
  obtain ⟨k, k1, k7, hk⟩ := WF_upk W hp
  obtain ⟨a, a1, a3, ha⟩ := (W.2.2.1 p hp).2.2.1
  have p5' : S.1 5 p = nI k := p5.trans hk
  have p7' : S.1 7 p = nI a := p7.trans ha
  rw [kS_goAhead, eS_goAhead_0 (d + 2) o ho, runF, hu, cond_false, ha, nclamp (by omega), hk]
  have w : ∀ t, t ≤ 4 → ∃ S', sem PGM (d + 2) yS_goAhead (40, [some (.ref o), some (.int (nI p)), some (.int (nI t)), some (.int (nI 0)), none], [], hS o S Z) = some (none, hS o S' Z) ∧ RS S' (walkF np p t s) np nb ∧ sF S S' := fun t ht => cS_walk d ho Z ht hp t S s 0 c none (by omega) h W hc hs
  unfold paceN
  simp (disch := omega) only [l0, l1, l2, l3, l4, l5, l6, l7, l8, l9, l10, l11, l12, l13, l14, l15, l16, l17, l18, l19, l20, l21, l22, l23, l24, l25, l26, l27, l28, l29, l30, l31, l40, l48, l52, l57, l60, l65, l97, l99, l100, l102, l119, l122, l179, l197, l200, l201, l237, l436, l437, pk_mul, nI_add, inb_nI, nclamp, dlt, dle, deq, bif_t, bif_f, bif_nt, bif_nf, aft0, aft1, decide_true, decide_false, Bool.not_true, Bool.not_false, cond_true, cond_false, Nat.add_sub_cancel, Nat.add_one_sub_one, ou9, mo1, nI_MO, OU_lt, OU_ge, Nat.not_lt_zero, Bool.or_false, Bool.or_true, Bool.true_or, Bool.false_or, Bool.and_true, Bool.and_false, Bool.true_and, Bool.false_and, bI_0n, bI_1n, Bool.not_not, p5', p7']
  by_cases h4 : k = 4
  · subst h4
    simp (disch := omega) only [l0, l1, l2, l3, l4, l5, l6, l7, l8, l9, l10, l11, l12, l13, l14, l15, l16, l17, l18, l19, l20, l21, l22, l23, l24, l25, l26, l27, l28, l29, l30, l31, l40, l48, l52, l57, l60, l65, l97, l99, l100, l102, l119, l122, l179, l197, l200, l201, l237, l436, l437, pk_mul, nI_add, inb_nI, nclamp, dlt, dle, deq, bif_t, bif_f, bif_nt, bif_nf, aft0, aft1, decide_true, decide_false, Bool.not_true, Bool.not_false, cond_true, cond_false, Nat.add_sub_cancel, Nat.add_one_sub_one, ou9, mo1, nI_MO, OU_lt, OU_ge, Nat.not_lt_zero, Bool.or_false, Bool.or_true, Bool.true_or, Bool.false_or, Bool.and_true, Bool.and_false, Bool.true_and, Bool.false_and, bI_0n, bI_1n, Bool.not_not]
    simp only [if_true]
    exact w (a + 1) (by omega)
  · have n4 : ¬ nI k = nI 4 := fun e => h4 ((nI_eq (by omega) (by omega)).mp e)
    by_cases h5 : k = 5
    · subst h5
      have e1 : (if nI 1 < nI a - nI 1 then nI a - nI 1 else nI 1) = nI (if a ≤ 1 then a else a - 1) := by
        rw [nI_sub (by omega)]
        by_cases ha1 : a ≤ 1
        · rw [if_pos ha1, if_neg]
          · rw [show a = 1 by omega]
          · intro h
            have := (nI_ltI (by omega) (by omega)).mp h
            omega
        · rw [if_neg ha1]
          by_cases hh : nI 1 < nI (a - 1)
          · rw [if_pos hh]
          · rw [if_neg hh]
            have : ¬ 1 < a - 1 := fun x => hh ((nI_ltI (by omega) (by omega)).mpr x)
            rw [show a - 1 = 1 by omega]
      have e2 : (if nI 5 = nI 4 then a + 1 else if nI 5 = nI 5 then (if a ≤ 1 then a else a - 1) else a) = (if a ≤ 1 then a else a - 1) := by
        rw [if_neg n4, if_pos rfl]
      rw [e2]
      simp (disch := omega) only [l0, l1, l2, l3, l4, l5, l6, l7, l8, l9, l10, l11, l12, l13, l14, l15, l16, l17, l18, l19, l20, l21, l22, l23, l24, l25, l26, l27, l28, l29, l30, l31, l40, l48, l52, l57, l60, l65, l97, l99, l100, l102, l119, l122, l179, l197, l200, l201, l237, l436, l437, pk_mul, nI_add, inb_nI, nclamp, dlt, dle, deq, bif_t, bif_f, bif_nt, bif_nf, aft0, aft1, decide_true, decide_false, Bool.not_true, Bool.not_false, cond_true, cond_false, Nat.add_sub_cancel, Nat.add_one_sub_one, ou9, mo1, nI_MO, OU_lt, OU_ge, Nat.not_lt_zero, Bool.or_false, Bool.or_true, Bool.true_or, Bool.false_or, Bool.and_true, Bool.and_false, Bool.true_and, Bool.false_and, bI_0n, bI_1n, Bool.not_not]
      rw [e1]
      refine w _ ?_
      split <;> omega
    · have n5 : ¬ nI k = nI 5 := fun e => h5 ((nI_eq (by omega) (by omega)).mp e)
      rw [if_neg n4, if_neg n5]
      simp (disch := omega) only [l0, l1, l2, l3, l4, l5, l6, l7, l8, l9, l10, l11, l12, l13, l14, l15, l16, l17, l18, l19, l20, l21, l22, l23, l24, l25, l26, l27, l28, l29, l30, l31, l40, l48, l52, l57, l60, l65, l97, l99, l100, l102, l119, l122, l179, l197, l200, l201, l237, l436, l437, pk_mul, nI_add, inb_nI, nclamp, dlt, dle, deq, bif_t, bif_f, bif_nt, bif_nf, aft0, aft1, decide_true, decide_false, Bool.not_true, Bool.not_false, cond_true, cond_false, Nat.add_sub_cancel, Nat.add_one_sub_one, ou9, mo1, nI_MO, OU_lt, OU_ge, Nat.not_lt_zero, Bool.or_false, Bool.or_true, Bool.true_or, Bool.false_or, Bool.and_true, Bool.and_false, Bool.true_and, Bool.false_and, bI_0n, bI_1n, Bool.not_not, h4, h5]
      exact w a (by omega)
theorem cS_turn (d : Nat) {o : Nat} (ho : o = 43 ∨ o = 59) {S : SS} (Z : RT) {s : Nat → Int32} {nc np nb T p c : Nat} {B : Nat → Nat} (h : RS S s np nb) (W : WF s nc np nb T B) (hp : p < np) (hc : c < nc) (hs : s (99 + 4 * p + 1) = nI c) (x a : Int32) (u4 : Option Value) :
    ∃ S', aftK (sem PGM (d + 3) yS_takeTurn) 1 (54, [some (.ref o), some (.int (nI p)), some (.int x), some (.int a), u4], [], hS o S Z) (call PGM (d + 3) yS_hasCell [.ref o, .int (S.1 6 p)] (hS o S Z)) = some (none, hS o S' Z) ∧ RS S' (doA s np nb p a) np nb ∧ sF S S' := by
  have hnp := W.1.2.1.2
  have hnc := W.1.1.2.2
  have e0 : S.2.1 0 = nI nc := (h.1 0 (by omega)).trans W.1.1.1
  obtain ⟨p5, p6, p7, p8⟩ := h.2.2.1 p hp
  obtain ⟨k, k1, k7, hk⟩ := WF_upk W hp
  have p6' : S.1 6 p = nI c := p6.trans hs
  have p5' : S.1 5 p = nI k := p5.trans hk
  have c2 : S.1 2 c = s (9 + 3 * c + 2) := (h.2.1 c (by omega)).2.2
  have okc : okQ 30 (s (99 + 4 * p + 1)) := by rw [hs]; exact Or.inr ⟨c, by omega, rfl⟩
  have runL : ∀ u4, ∃ S', aftK (sem PGM (d + 3) yS_takeTurn) 1 (120, [some (.ref o), some (.int (nI p)), some (.int x), some (.int a), u4], [], hS o S Z) (call PGM (d + 3) yB_isA [.int (nI k), .int (nI 3)] (hS o S Z)) = some (none, hS o S' Z) ∧ RS S' (runF s np nb p) np nb ∧ sF S S' := by
    intro u4
    rw [cB_isA (d + 2) (hS_1 ho S Z) (show k < 9 by omega) (show 3 < 9 by omega), aft1, eS_takeTurn_120 (d + 3) o ho, bI_0]
    cases hu : under (nI k) (nI 3) with
    | false =>
      obtain ⟨S', b1, b2, b3⟩ := cS_goAhead d ho Z h W hp hc hs (by rw [hk]; exact hu)
      refine ⟨S', ?_, b2, b3⟩
      rw [Bool.not_false, cond_true, b1, aft0, eS_takeTurn_136 (d + 3) o ho]
    | true =>
      obtain ⟨S', b1, b2, b3⟩ := cS_rise d ho Z h W hp hc hs (by rw [hk]; exact hu)
      refine ⟨S', ?_, b2, b3⟩
      rw [Bool.not_true, cond_false, b1, aft0, eS_takeTurn_128 (d + 3) o ho]
  have dwnL : ∀ u4, ∃ S', aftK (sem PGM (d + 3) yS_takeTurn) 1 (154, [some (.ref o), some (.int (nI p)), some (.int x), some (.int a), u4], [], hS o S Z) (call PGM (d + 3) yB_isA [.int (nI k), .int (nI 3)] (hS o S Z)) = some (none, hS o S' Z) ∧ RS S' (bif !under (nI k) (nI 3) then upd s (99 + 4 * p) (nI 3) else s) np nb ∧ sF S S' := by
    intro u4
    rw [cB_isA (d + 2) (hS_1 ho S Z) (show k < 9 by omega) (show 3 < 9 by omega), aft1, eS_takeTurn_154 (d + 3) o ho, bI_ne0]
    cases hu : under (nI k) (nI 3) with
    | true => exact ⟨S, rfl, h, sF_refl S⟩
    | false =>
      obtain ⟨S', b1, b2, b3⟩ := cS_become (d + 1) ho Z (k' := 3) h hp hnp (show k < 9 by omega) hk okc (by omega)
      refine ⟨S', ?_, b2, b3⟩
      have b1' : call PGM (d + 3) yS_become [.ref o, .int (nI p), .int 3] (hS o S Z) = some (none, hS o S' Z) := b1
      rw [cond_false, b1', aft0, eS_takeTurn_163 (d + 3) o ho]
  rw [p6', cS_hasCellN (d + 2) ho Z (show c < 2147483648 by omega) hnc e0, aft1, eS_takeTurn_54 (d + 3) o ho, bI_0, doA, hs, hk, nclamp (by omega)]
  simp (disch := omega) only [l0, l1, l2, l3, l4, l5, l6, l7, l8, l9, l10, l11, l12, l13, l14, l15, l16, l17, l18, l19, l20, l21, l22, l23, l24, l25, l26, l27, l28, l29, l30, l31, l40, l48, l52, l57, l60, l65, l97, l99, l100, l102, l119, l122, l179, l197, l200, l201, l237, l436, l437, pk_mul, nI_add, inb_nI, nclamp, dlt, dle, deq, bif_t, bif_f, bif_nt, bif_nf, aft0, aft1, decide_true, decide_false, Bool.not_true, Bool.not_false, cond_true, cond_false, Nat.add_sub_cancel, Nat.add_one_sub_one, ou9, mo1, nI_MO, OU_lt, OU_ge, Nat.not_lt_zero, Bool.or_false, Bool.or_true, Bool.true_or, Bool.false_or, Bool.and_true, Bool.and_false, Bool.true_and, Bool.false_and, bI_0n, bI_1n, Bool.not_not, p5', p6', c2, hc]
  by_cases a2 : a = nI 2
  · subst a2
    simp (disch := omega) only [l0, l1, l2, l3, l4, l5, l6, l7, l8, l9, l10, l11, l12, l13, l14, l15, l16, l17, l18, l19, l20, l21, l22, l23, l24, l25, l26, l27, l28, l29, l30, l31, l40, l48, l52, l57, l60, l65, l97, l99, l100, l102, l119, l122, l179, l197, l200, l201, l237, l436, l437, pk_mul, nI_add, inb_nI, nclamp, dlt, dle, deq, bif_t, bif_f, bif_nt, bif_nf, aft0, aft1, decide_true, decide_false, Bool.not_true, Bool.not_false, cond_true, cond_false, Nat.add_sub_cancel, Nat.add_one_sub_one, ou9, mo1, nI_MO, OU_lt, OU_ge, Nat.not_lt_zero, Bool.or_false, Bool.or_true, Bool.true_or, Bool.false_or, Bool.and_true, Bool.and_false, Bool.true_and, Bool.false_and, bI_0n, bI_1n, Bool.not_not]
    cases hd : decide (s (9 + 3 * c + 2) = nI 1) with
    | false =>
      simp only [Bool.not_false, cond_true, cond_false]
      exact runL _
    | true =>
      simp only [Bool.not_true, cond_true, cond_false]
      obtain ⟨S', b1, b2, b3⟩ := cS_seat (d + 1) ho Z (x := OU) h hp hnp (show k < 9 by omega) hk okc (Or.inl rfl)
      exact ⟨S', by rw [b1, aft0, eS_takeTurn_98 (d + 3) o ho], b2, b3⟩
  · have n2 : decide (a = nI 2) = false := by simp [a2]
    simp only [n2, Bool.not_false, cond_true, cond_false, Bool.false_and, Bool.or_false]
    by_cases a0 : a = nI 0
    · subst a0
      simp only [decide_true, cond_true]
      cases decide (s (9 + 3 * c + 2) = nI 1) <;> exact runL _
    · have n0 : decide (a = nI 0) = false := by simp [a0]
      simp only [n0, cond_false]
      by_cases a3 : a = nI 3
      · subst a3
        simp only [decide_true, Bool.not_true, cond_false, Bool.true_and]
        cases decide (s (9 + 3 * c + 2) = nI 1) <;> exact dwnL _
      · have n3 : decide (a = nI 3) = false := by simp [a3]
        simp only [n3, Bool.not_false, cond_true, Bool.false_and, cond_false]
        cases decide (s (9 + 3 * c + 2) = nI 1) <;> exact ⟨S, rfl, h, sF_refl S⟩
theorem cS_takeTurn (d : Nat) {o : Nat} (ho : o = 43 ∨ o = 59) {S : SS} (Z : RT) {s : Nat → Int32} {nc np nb T p c n : Nat} {B : Nat → Nat} {C : Nat → CL} (h : RS S s np nb) (W : WF s nc np nb T B) (hp : p < np) (hc : c < nc) (hs : s (99 + 4 * p + 1) = nI c) (hl : lawD Z.2.2.2.2.2 S.2.2 n C) (hm : lawM s n C) {x : Int32} (hx : x = OU ∨ ∃ k, k < n ∧ x = nI k) :
    ∃ S', call PGM (d + 4) yS_takeTurn [.ref o, .int (nI p), .int x] (hS o S Z) = some (none, hS o S' Z) ∧ RS S' (doA s np nb p (actF s x p)) np nb ∧ sF S S' := by
  have hnp := W.1.2.1.2
  have hn8 := hm.1
  obtain ⟨p5, p6, p7, p8⟩ := h.2.2.1 p hp
  obtain ⟨k, k1, k7, hk⟩ := WF_upk W hp
  have p5' : S.1 5 p = nI k := p5.trans hk
  rw [kS_takeTurn, eS_takeTurn_0 (d + 3) o ho]
  simp (disch := omega) only [l0, l1, l2, l3, l4, l5, l6, l7, l8, l9, l10, l11, l12, l13, l14, l15, l16, l17, l18, l19, l20, l21, l22, l23, l24, l25, l26, l27, l28, l29, l30, l31, l40, l48, l52, l57, l60, l65, l97, l99, l100, l102, l119, l122, l179, l197, l200, l201, l237, l436, l437, pk_mul, nI_add, inb_nI, nclamp, dlt, dle, deq, bif_t, bif_f, bif_nt, bif_nf, aft0, aft1, decide_true, decide_false, Bool.not_true, Bool.not_false, cond_true, cond_false, Nat.add_sub_cancel, Nat.add_one_sub_one, ou9, mo1, nI_MO, OU_lt, OU_ge, Nat.not_lt_zero, Bool.or_false, Bool.or_true, Bool.true_or, Bool.false_or, Bool.and_true, Bool.and_false, Bool.true_and, Bool.false_and, bI_0n, bI_1n, Bool.not_not, p5']
  rw [cB_isA (d + 2) (hS_1 ho S Z) (show k < 9 by omega) (show 1 < 9 by omega), aft1, eS_takeTurn_10 (d + 3) o ho, bI_0, inb_nI (by omega), nclamp (by omega), actF, hk]
  have p20 : decide (p < 20) = true := by simp; omega
  simp only [p20, cond_true]
  rcases hx with rfl | ⟨j, hj, rfl⟩
  · rw [OU_lt', OU_lt, cond_true, cond_true, cond_true]
    cases under (nI k) (nI 1) with
    | true => exact cS_turn d ho Z h W hp hc hs _ (nI 0) _
    | false => exact cS_turn d ho Z h W hp hc hs _ (nI 1) _
  · obtain ⟨r1, r2, r3, r4, h0, hh⟩ := lawAt_hS ho S hl
    obtain ⟨fw, fa, fe, fs, nu, g1, g2, g3, g4, n8, nu2, hst, hC⟩ := hh (by omega)
    have i0 : okI (hS o S Z) S.2.2 1 0 = true := by unfold okI; rw [h0]; rfl
    have i1 : gI (hS o S Z) S.2.2 0 = nI n := by unfold gI; rw [h0]; rfl
    have i2 : okN (hS o S Z) S.2.2 1 2 = false := by unfold okN; rw [h0]; rfl
    have i3 : okR (hS o S Z) S.2.2 1 2 = true := by unfold okR; rw [h0]; rfl
    have i4 : gR (hS o S Z) S.2.2 2 = r2 := by unfold gR; rw [h0]; rfl
    have j1 : inA (hS o S Z) r2 0 (nI j) = true := by
      unfold inA
      rw [g2]
      show (true && inb (nI j) 8) = true
      rw [inb_nI (by omega), Bool.true_and, decide_eq_true (by omega)]
    have j2 : rA (hS o S Z) r2 (nI j) = nI (C j).2.1 := by
      unfold rA
      rw [g2]
      show fa (nI j).toNatClampNeg = _
      rw [nclamp (by omega)]
      exact (hC j hj).2.1
    have em : s (197 + 5 * j + 1) = nI (C j).2.1 := (hm.2.2 j hj).2.2.2.1
    rw [i0, i1, i2, i3, i4, j1, j2]
    simp (disch := omega) only [l0, l1, l2, l3, l4, l5, l6, l7, l8, l9, l10, l11, l12, l13, l14, l15, l16, l17, l18, l19, l20, l21, l22, l23, l24, l25, l26, l27, l28, l29, l30, l31, l40, l48, l52, l57, l60, l65, l97, l99, l100, l102, l119, l122, l179, l197, l200, l201, l237, l436, l437, pk_mul, nI_add, inb_nI, nclamp, dlt, dle, deq, bif_t, bif_f, bif_nt, bif_nf, aft0, aft1, decide_true, decide_false, Bool.not_true, Bool.not_false, cond_true, cond_false, Nat.add_sub_cancel, Nat.add_one_sub_one, ou9, mo1, nI_MO, OU_lt, OU_ge, Nat.not_lt_zero, Bool.or_false, Bool.or_true, Bool.true_or, Bool.false_or, Bool.and_true, Bool.and_false, Bool.true_and, Bool.false_and, bI_0n, bI_1n, Bool.not_not, em]
    have t := cS_turn d ho Z h W hp hc hs (nI j) (nI (C j).2.1) none
    cases under (nI k) (nI 1) <;> exact t
