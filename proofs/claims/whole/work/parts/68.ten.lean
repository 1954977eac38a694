/-! The class's street: the TENTH. -/
theorem tn_beasts (d : Nat) {o : Nat} (ho : o = 43 ∨ o = 59) (Z : RT)  (t : Int32) {s : Nat → Int32} {nc np nb T : Nat} {B : Nat → Nat} (W : WF s nc np nb T B) (u5 : Option Value) : ∀ m b, b + m = nb → ∀ S, RS S (bstS np s b) np nb →
    ∃ S', sem PGM (d + 3) yS_tenth (12, [some (.ref o), some (.int t), some (.null), some (.int (nI b)), none, u5], [], hS o S Z) = sem PGM (d + 3) yS_tenth (63, [some (.ref o), some (.int t), some (.null), some (.int (nI 0)), none, u5], [], hS o S' Z) ∧ RS S' (bstS np s nb) np nb ∧ sF S S' := by
  have hnb : nb ≤ 6 := W.1.2.2.1.2
  have hnp := W.1.2.1.2
  have hnc := W.1.1.2.2
  intro m
  induction m with
  | zero =>
    intro b hb S h
    have eb : b = nb := by omega
    subst eb
    have e2 : S.2.1 2 = nI b := (h.1 2 (by omega)).trans ((bstS_fr (by omega) (by omega) b hnb).trans W.1.2.2.1.1)
    refine ⟨S, ?_, h, sF_refl S⟩
    rw [eS_tenthn_12 (d + 3) o ho, e2]
    simp (disch := omega) only [l0, l1, l2, l3, l4, l5, l6, l7, l8, l9, l10, l11, l12, l13, l14, l15, l16, l17, l18, l19, l20, l21, l22, l23, l24, l25, l26, l27, l28, l29, l30, l31, l40, l48, l52, l57, l60, l65, l97, l99, l100, l102, l119, l122, l179, l197, l200, l201, l237, l436, l437, pk_mul, nI_add, inb_nI, nclamp, dlt, dle, deq, bif_t, bif_f, bif_nt, bif_nf, aft0, aft1, decide_true, decide_false, Bool.not_true, Bool.not_false, cond_true, cond_false, Nat.add_sub_cancel, Nat.add_one_sub_one, ou9, mo1, nI_MO, OU_lt, OU_ge, Nat.not_lt_zero, Bool.or_false, Bool.or_true, Bool.true_or, Bool.false_or, Bool.and_true, Bool.and_false, Bool.true_and, Bool.false_and, bI_0n, bI_1n, Bool.not_not]
  | succ m ih =>
    intro b hb S h
    have W1 := WF_bstS W b (by omega)
    have e2 : S.2.1 2 = nI nb := (h.1 2 (by omega)).trans ((bstS_fr (by omega) (by omega) b (by omega)).trans W.1.2.2.1.1)
    obtain ⟨b9, b10, b11⟩ := h.2.2.2.1 b (by omega)
    obtain ⟨hq, _, hl⟩ := W1.2.2.2 b (by omega)
    have ih' := ih (b + 1) (by omega)
    rw [bstS, bst1] at ih'
    rw [eS_tenthn_12 (d + 3) o ho, e2]
    simp (disch := omega) only [l0, l1, l2, l3, l4, l5, l6, l7, l8, l9, l10, l11, l12, l13, l14, l15, l16, l17, l18, l19, l20, l21, l22, l23, l24, l25, l26, l27, l28, l29, l30, l31, l40, l48, l52, l57, l60, l65, l97, l99, l100, l102, l119, l122, l179, l197, l200, l201, l237, l436, l437, pk_mul, nI_add, inb_nI, nclamp, dlt, dle, deq, bif_t, bif_f, bif_nt, bif_nf, aft0, aft1, decide_true, decide_false, Bool.not_true, Bool.not_false, cond_true, cond_false, Nat.add_sub_cancel, Nat.add_one_sub_one, ou9, mo1, nI_MO, OU_lt, OU_ge, Nat.not_lt_zero, Bool.or_false, Bool.or_true, Bool.true_or, Bool.false_or, Bool.and_true, Bool.and_false, Bool.true_and, Bool.false_and, bI_0n, bI_1n, Bool.not_not, b9, b11]
    rcases hq with hq | ⟨c, hc, hq⟩
    · rw [hq, OU_lt, cond_true] at ih'
      rw [hq, OU_ge, cond_false]
      exact ih' S h
    · have g0 : decide (nI 0 ≤ nI c) = true := by rw [dle (by omega) (by omega)]; simp
      have g1 : decide (nI c < nI 0) = false := by rw [dlt (by omega) (by omega)]; simp
      rw [hq, g1, cond_false] at ih'
      rw [hq, g0, cond_true]
      rcases hl with hl | hl
      · have n1 : decide (nI 0 = nI 1) = false := by decide
        rw [hl, n1, cond_false] at ih'
        rw [hl, n1, Bool.not_false, cond_true]
        obtain ⟨S1, c1, c2, c3⟩ := cS_gallop (d + 1) ho Z h W1 (by omega) hc hq hl
        rw [c1, aft0, eS_tenthn_55 (d + 3) o ho, nI_1]
        exact (ih' S1 c2).imp (fun S' hS' => ⟨hS'.1, hS'.2.1, sF_trans c3 hS'.2.2⟩)
      · have n1 : decide (nI 1 = nI 1) = true := by decide
        rw [hl, n1, cond_true] at ih'
        rw [hl, n1, Bool.not_true, cond_false]
        obtain ⟨S1, c1, c2, c3⟩ := cS_hunt d ho Z h W1 (by omega) hc hq
        rw [c1, aft0, eS_tenthn_47 (d + 3) o ho, nI_1]
        exact (ih' S1 c2).imp (fun S' hS' => ⟨hS'.1, hS'.2.1, sF_trans c3 hS'.2.2⟩)
theorem tn_people (d : Nat) {o : Nat} (ho : o = 43 ∨ o = 59) (Z : RT)  (t : Int32) {s : Nat → Int32} {nc np nb T n l : Nat} {B : Nat → Nat} {C : Nat → CL} {wo wc : Int32} (W : WF s nc np nb T B) (hl : lawD Z.2.2.2.2.2 l n C) (hm : lawM s n C) (hw : woR wc wo) (u5 : Option Value) : ∀ m p, p + m = np → ∀ S, RS S (pplS np nb n C wo s p) np nb → S.2.2 = l → S.2.1 5 = wc →
    ∃ S', sem PGM (d + 5) yS_tenth (63, [some (.ref o), some (.int t), some (.null), some (.int (nI p)), none, u5], [], hS o S Z) = sem PGM (d + 5) yS_tenth (100, [some (.ref o), some (.int t), some (.null), some (.int (nI 0)), some (.int (nI 0)), u5], [], hS o S' Z) ∧ RS S' (pplS np nb n C wo s np) np nb ∧ sF S S' := by
  have hnb : nb ≤ 6 := W.1.2.2.1.2
  have hnp := W.1.2.1.2
  have hnc := W.1.1.2.2
  intro m
  induction m with
  | zero =>
    intro p hp S h _ _
    have ep : p = np := by omega
    subst ep
    have e1 : S.2.1 1 = nI p := (h.1 1 (by omega)).trans ((pplS_fr (by omega) p hnp).trans W.1.2.1.1)
    refine ⟨S, ?_, h, sF_refl S⟩
    rw [eS_tenthn_63 (d + 5) o ho, e1]
    simp (disch := omega) only [l0, l1, l2, l3, l4, l5, l6, l7, l8, l9, l10, l11, l12, l13, l14, l15, l16, l17, l18, l19, l20, l21, l22, l23, l24, l25, l26, l27, l28, l29, l30, l31, l40, l48, l52, l57, l60, l65, l97, l99, l100, l102, l119, l122, l179, l197, l200, l201, l237, l436, l437, pk_mul, nI_add, inb_nI, nclamp, dlt, dle, deq, bif_t, bif_f, bif_nt, bif_nf, aft0, aft1, decide_true, decide_false, Bool.not_true, Bool.not_false, cond_true, cond_false, Nat.add_sub_cancel, Nat.add_one_sub_one, ou9, mo1, nI_MO, OU_lt, OU_ge, Nat.not_lt_zero, Bool.or_false, Bool.or_true, Bool.true_or, Bool.false_or, Bool.and_true, Bool.and_false, Bool.true_and, Bool.false_and, bI_0n, bI_1n, Bool.not_not]
  | succ m ih =>
    intro p hp S h hS2 hS5
    have W1 := WF_pplS (n := n) (C := C) (wo := wo) W p (by omega)
    have e1 : S.2.1 1 = nI np := (h.1 1 (by omega)).trans ((pplS_fr (by omega) p (by omega)).trans W.1.2.1.1)
    obtain ⟨p5, p6, _, _⟩ := h.2.2.1 p (by omega)
    have ih' := ih (p + 1) (by omega)
    rw [pplS, ppl1] at ih'
    rw [eS_tenthn_63 (d + 5) o ho, e1, cS_isOut (d + 4) ho S Z (show p < 20 by omega), aft1, eS_tenthn_76 (d + 5) o ho, bI_ne0, p6, l0, dle (by omega) (by omega), bif_f (show ¬ np ≤ p by omega)]
    rcases (W1.2.2.1 p (by omega)).2.1 with hq | ⟨c, hc, hq⟩
    · rw [hq, OU_lt, cond_true] at ih'
      rw [hq, OU_lt, cond_true, nI_1]
      exact ih' S h hS2 hS5
    · have g1 : decide (nI c < nI 0) = false := by rw [dlt (by omega) (by omega)]; simp
      rw [hq, g1, cond_false, doF] at ih'
      rw [hq, g1, cond_false]
      have hm1 : lawM (pplS np nb n C wo s p) n C := lawM_congr hm (pplS_fr (by omega) p (by omega)) (fun j hj => pplS_fr (by omega) p (by omega))
      obtain ⟨f, c1⟩ := cS_clauseFor d ho Z h W1 (show p < np by omega) hc hq (by rw [hS2]; exact hl) hm1 (by rw [hS5]; exact hw)
      have hx : pikC (goodC (pplS np nb n C wo s p) np nb C wo p) n 0 = OU ∨ ∃ k, k < n ∧ pikC (goodC (pplS np nb n C wo s p) np nb C wo p) n 0 = nI k := by
        rcases pik_cases (goodC (pplS np nb n C wo s p) np nb C wo p) n 0 with e | ⟨j, _, hj, e, _⟩
        · exact Or.inl e
        · exact Or.inr ⟨j, by omega, e⟩
      obtain ⟨S1, d1, d2, d3⟩ := cS_takeTurn (d + 1) ho Z (RS_13 h f) W1 (show p < np by omega) hc hq (by rw [show (sA S 13 f).2.2 = S.2.2 from rfl, hS2]; exact hl) hm1 hx
      rw [c1, aft1, eS_tenthn_86 (d + 5) o ho, d1, aft0, eS_tenthn_89 (d + 5) o ho, nI_1]
      have d3' : sF S S1 := d3
      exact (ih' S1 d2 (d3'.2.trans hS2) (d3'.1.trans hS5)).imp (fun S' hS' => ⟨hS'.1, hS'.2.1, sF_trans d3' hS'.2.2⟩)
theorem tl_beasts (d : Nat) {o : Nat} (ho : o = 43 ∨ o = 59) (Z : RT) (r : Nat) (t : Int32) {s : Nat → Int32} {nc np nb T : Nat} {B : Nat → Nat} (W : WF s nc np nb T B) (u5 : Option Value) : ∀ m b, b + m = nb → ∀ S, RS S (bstS np s b) np nb →
    ∃ S', sem PGM (d + 3) yS_tenth (12, [some (.ref o), some (.int t), some (.ref r), some (.int (nI b)), none, u5], [], hS o S Z) = sem PGM (d + 3) yS_tenth (63, [some (.ref o), some (.int t), some (.ref r), some (.int (nI 0)), none, u5], [], hS o S' Z) ∧ RS S' (bstS np s nb) np nb ∧ sF S S' := by
  have hnb : nb ≤ 6 := W.1.2.2.1.2
  have hnp := W.1.2.1.2
  have hnc := W.1.1.2.2
  intro m
  induction m with
  | zero =>
    intro b hb S h
    have eb : b = nb := by omega
    subst eb
    have e2 : S.2.1 2 = nI b := (h.1 2 (by omega)).trans ((bstS_fr (by omega) (by omega) b hnb).trans W.1.2.2.1.1)
    refine ⟨S, ?_, h, sF_refl S⟩
    rw [eS_tenthl_12 (d + 3) o ho, e2]
    simp (disch := omega) only [l0, l1, l2, l3, l4, l5, l6, l7, l8, l9, l10, l11, l12, l13, l14, l15, l16, l17, l18, l19, l20, l21, l22, l23, l24, l25, l26, l27, l28, l29, l30, l31, l40, l48, l52, l57, l60, l65, l97, l99, l100, l102, l119, l122, l179, l197, l200, l201, l237, l436, l437, pk_mul, nI_add, inb_nI, nclamp, dlt, dle, deq, bif_t, bif_f, bif_nt, bif_nf, aft0, aft1, decide_true, decide_false, Bool.not_true, Bool.not_false, cond_true, cond_false, Nat.add_sub_cancel, Nat.add_one_sub_one, ou9, mo1, nI_MO, OU_lt, OU_ge, Nat.not_lt_zero, Bool.or_false, Bool.or_true, Bool.true_or, Bool.false_or, Bool.and_true, Bool.and_false, Bool.true_and, Bool.false_and, bI_0n, bI_1n, Bool.not_not]
  | succ m ih =>
    intro b hb S h
    have W1 := WF_bstS W b (by omega)
    have e2 : S.2.1 2 = nI nb := (h.1 2 (by omega)).trans ((bstS_fr (by omega) (by omega) b (by omega)).trans W.1.2.2.1.1)
    obtain ⟨b9, b10, b11⟩ := h.2.2.2.1 b (by omega)
    obtain ⟨hq, _, hl⟩ := W1.2.2.2 b (by omega)
    have ih' := ih (b + 1) (by omega)
    rw [bstS, bst1] at ih'
    rw [eS_tenthl_12 (d + 3) o ho, e2]
    simp (disch := omega) only [l0, l1, l2, l3, l4, l5, l6, l7, l8, l9, l10, l11, l12, l13, l14, l15, l16, l17, l18, l19, l20, l21, l22, l23, l24, l25, l26, l27, l28, l29, l30, l31, l40, l48, l52, l57, l60, l65, l97, l99, l100, l102, l119, l122, l179, l197, l200, l201, l237, l436, l437, pk_mul, nI_add, inb_nI, nclamp, dlt, dle, deq, bif_t, bif_f, bif_nt, bif_nf, aft0, aft1, decide_true, decide_false, Bool.not_true, Bool.not_false, cond_true, cond_false, Nat.add_sub_cancel, Nat.add_one_sub_one, ou9, mo1, nI_MO, OU_lt, OU_ge, Nat.not_lt_zero, Bool.or_false, Bool.or_true, Bool.true_or, Bool.false_or, Bool.and_true, Bool.and_false, Bool.true_and, Bool.false_and, bI_0n, bI_1n, Bool.not_not, b9, b11]
    rcases hq with hq | ⟨c, hc, hq⟩
    · rw [hq, OU_lt, cond_true] at ih'
      rw [hq, OU_ge, cond_false]
      exact ih' S h
    · have g0 : decide (nI 0 ≤ nI c) = true := by rw [dle (by omega) (by omega)]; simp
      have g1 : decide (nI c < nI 0) = false := by rw [dlt (by omega) (by omega)]; simp
      rw [hq, g1, cond_false] at ih'
      rw [hq, g0, cond_true]
      rcases hl with hl | hl
      · have n1 : decide (nI 0 = nI 1) = false := by decide
        rw [hl, n1, cond_false] at ih'
        rw [hl, n1, Bool.not_false, cond_true]
        obtain ⟨S1, c1, c2, c3⟩ := cS_gallop (d + 1) ho Z h W1 (by omega) hc hq hl
        rw [c1, aft0, eS_tenthl_55 (d + 3) o ho, nI_1]
        exact (ih' S1 c2).imp (fun S' hS' => ⟨hS'.1, hS'.2.1, sF_trans c3 hS'.2.2⟩)
      · have n1 : decide (nI 1 = nI 1) = true := by decide
        rw [hl, n1, cond_true] at ih'
        rw [hl, n1, Bool.not_true, cond_false]
        obtain ⟨S1, c1, c2, c3⟩ := cS_hunt d ho Z h W1 (by omega) hc hq
        rw [c1, aft0, eS_tenthl_47 (d + 3) o ho, nI_1]
        exact (ih' S1 c2).imp (fun S' hS' => ⟨hS'.1, hS'.2.1, sF_trans c3 hS'.2.2⟩)
theorem tl_people (d : Nat) {o : Nat} (ho : o = 43 ∨ o = 59) (Z : RT) (r : Nat) (t : Int32) {s : Nat → Int32} {nc np nb T n l : Nat} {B : Nat → Nat} {C : Nat → CL} {wo wc : Int32} (W : WF s nc np nb T B) (hl : lawD Z.2.2.2.2.2 l n C) (hm : lawM s n C) (hw : woR wc wo) (u5 : Option Value) : ∀ m p, p + m = np → ∀ S, RS S (pplS np nb n C wo s p) np nb → S.2.2 = l → S.2.1 5 = wc →
    ∃ S', sem PGM (d + 5) yS_tenth (63, [some (.ref o), some (.int t), some (.ref r), some (.int (nI p)), none, u5], [], hS o S Z) = sem PGM (d + 5) yS_tenth (100, [some (.ref o), some (.int t), some (.ref r), some (.int (nI 0)), some (.int (nI 0)), u5], [], hS o S' Z) ∧ RS S' (pplS np nb n C wo s np) np nb ∧ sF S S' := by
  have hnb : nb ≤ 6 := W.1.2.2.1.2
  have hnp := W.1.2.1.2
  have hnc := W.1.1.2.2
  intro m
  induction m with
  | zero =>
    intro p hp S h _ _
    have ep : p = np := by omega
    subst ep
    have e1 : S.2.1 1 = nI p := (h.1 1 (by omega)).trans ((pplS_fr (by omega) p hnp).trans W.1.2.1.1)
    refine ⟨S, ?_, h, sF_refl S⟩
    rw [eS_tenthl_63 (d + 5) o ho, e1]
    simp (disch := omega) only [l0, l1, l2, l3, l4, l5, l6, l7, l8, l9, l10, l11, l12, l13, l14, l15, l16, l17, l18, l19, l20, l21, l22, l23, l24, l25, l26, l27, l28, l29, l30, l31, l40, l48, l52, l57, l60, l65, l97, l99, l100, l102, l119, l122, l179, l197, l200, l201, l237, l436, l437, pk_mul, nI_add, inb_nI, nclamp, dlt, dle, deq, bif_t, bif_f, bif_nt, bif_nf, aft0, aft1, decide_true, decide_false, Bool.not_true, Bool.not_false, cond_true, cond_false, Nat.add_sub_cancel, Nat.add_one_sub_one, ou9, mo1, nI_MO, OU_lt, OU_ge, Nat.not_lt_zero, Bool.or_false, Bool.or_true, Bool.true_or, Bool.false_or, Bool.and_true, Bool.and_false, Bool.true_and, Bool.false_and, bI_0n, bI_1n, Bool.not_not]
  | succ m ih =>
    intro p hp S h hS2 hS5
    have W1 := WF_pplS (n := n) (C := C) (wo := wo) W p (by omega)
    have e1 : S.2.1 1 = nI np := (h.1 1 (by omega)).trans ((pplS_fr (by omega) p (by omega)).trans W.1.2.1.1)
    obtain ⟨p5, p6, _, _⟩ := h.2.2.1 p (by omega)
    have ih' := ih (p + 1) (by omega)
    rw [pplS, ppl1] at ih'
    rw [eS_tenthl_63 (d + 5) o ho, e1, cS_isOut (d + 4) ho S Z (show p < 20 by omega), aft1, eS_tenthl_76 (d + 5) o ho, bI_ne0, p6, l0, dle (by omega) (by omega), bif_f (show ¬ np ≤ p by omega)]
    rcases (W1.2.2.1 p (by omega)).2.1 with hq | ⟨c, hc, hq⟩
    · rw [hq, OU_lt, cond_true] at ih'
      rw [hq, OU_lt, cond_true, nI_1]
      exact ih' S h hS2 hS5
    · have g1 : decide (nI c < nI 0) = false := by rw [dlt (by omega) (by omega)]; simp
      rw [hq, g1, cond_false, doF] at ih'
      rw [hq, g1, cond_false]
      have hm1 : lawM (pplS np nb n C wo s p) n C := lawM_congr hm (pplS_fr (by omega) p (by omega)) (fun j hj => pplS_fr (by omega) p (by omega))
      obtain ⟨f, c1⟩ := cS_clauseFor d ho Z h W1 (show p < np by omega) hc hq (by rw [hS2]; exact hl) hm1 (by rw [hS5]; exact hw)
      have hx : pikC (goodC (pplS np nb n C wo s p) np nb C wo p) n 0 = OU ∨ ∃ k, k < n ∧ pikC (goodC (pplS np nb n C wo s p) np nb C wo p) n 0 = nI k := by
        rcases pik_cases (goodC (pplS np nb n C wo s p) np nb C wo p) n 0 with e | ⟨j, _, hj, e, _⟩
        · exact Or.inl e
        · exact Or.inr ⟨j, by omega, e⟩
      obtain ⟨S1, d1, d2, d3⟩ := cS_takeTurn (d + 1) ho Z (RS_13 h f) W1 (show p < np by omega) hc hq (by rw [show (sA S 13 f).2.2 = S.2.2 from rfl, hS2]; exact hl) hm1 hx
      rw [c1, aft1, eS_tenthl_86 (d + 5) o ho, d1, aft0, eS_tenthl_89 (d + 5) o ho, nI_1]
      have d3' : sF S S1 := d3
      exact (ih' S1 d2 (d3'.2.trans hS2) (d3'.1.trans hS5)).imp (fun S' hS' => ⟨hS'.1, hS'.2.1, sF_trans d3' hS'.2.2⟩)
/-- what a log takes down -/
def lgA (r : Nat) (X : XS) (t p w : Int32) : XS :=
  if r = 22 then (bif decide (X.2.1 6 < 24) then xV (xA (xA (xA X 8 (upd (X.1 8) (X.2.1 6).toNatClampNeg t)) 9 (upd (X.1 9) (X.2.1 6).toNatClampNeg p)) 10 (upd (X.1 10) (X.2.1 6).toNatClampNeg w)) 6 (X.2.1 6 + 1) else X)
  else (bif decide (X.2.1 7 < 24) then xV (xA (xA (xA X 11 (upd (X.1 11) (X.2.1 7).toNatClampNeg t)) 12 (upd (X.1 12) (X.2.1 7).toNatClampNeg p)) 13 (upd (X.1 13) (X.2.1 7).toNatClampNeg w)) 7 (X.2.1 7 + 1) else X)
def lgN (r : Nat) : Nat := if r = 22 then 6 else 7
def lgE (r : Nat) (t : Int32) (X : XS) (E : EVT) : XS := E.foldl (fun x e => lgA r x t e.1 e.2) X
theorem lgE_snoc (r : Nat) (t : Int32) (X : XS) (E : EVT) (e : Int32 × Int32) : lgE r t X (E ++ [e]) = lgA r (lgE r t X E) t e.1 e.2 := by
  simp [lgE, List.foldl_append]
def zX (Z : RT) (X : XS) : RT := (Z.1, X, Z.2.2)
theorem zX_id (Z : RT) : zX Z Z.2.1 = Z := id rfl
theorem zX_zX (Z : RT) (X X' : XS) : zX (zX Z X) X' = zX Z X' := id rfl
theorem xA_s (X : XS) (k : Nat) (f : Nat → Int32) : (xA X k f).1 k = f := up_s _ _ _
theorem xA_n {X : XS} {k j : Nat} {f : Nat → Int32} (h : j ≠ k) : (xA X k f).1 j = X.1 j := up_n h
theorem xA_2 (X : XS) (k : Nat) (f : Nat → Int32) : (xA X k f).2 = X.2 := id rfl
theorem xV_1 (X : XS) (k : Nat) (v : Int32) : (xV X k v).1 = X.1 := id rfl
theorem xV_s (X : XS) (k : Nat) (v : Int32) : (xV X k v).2.1 k = v := up_s _ _ _
theorem xV_n {X : XS} {k j : Nat} {v : Int32} (h : j ≠ k) : (xV X k v).2.1 j = X.2.1 j := up_n h
theorem xV_2 (X : XS) (k : Nat) (v : Int32) : (xV X k v).2.2 = X.2.2 := id rfl
theorem hS_hR (S : SS) (Z : RT) : hS 59 S Z = hR (Z.1, Z.2.2.1, S, Z.2.2.2.1, Z.2.2.2.2.1, Z.2.2.2.2.2) Z.2.1 := id rfl
theorem hR_hS (S : SS) (Z : RT) (X : XS) : hR (Z.1, Z.2.2.1, S, Z.2.2.2.1, Z.2.2.2.2.1, Z.2.2.2.2.2) X = hS 59 S (zX Z X) := id rfl
theorem cW_add (d : Nat) {r : Nat} (hr : r = 22 ∨ r = 27) (S : SS) (Z : RT) (t p w : Int32) {n : Nat} (hn : n ≤ 24) (hc : Z.2.1.2.1 (lgN r) = nI n) : call PGM (d + 1) yW_add [.ref r, .int t, .int p, .int w] (hS 59 S Z) = some (none, hS 59 S (zX Z (lgA r Z.2.1 t p w))) := by
  rw [hS_hR, ← hR_hS]
  rcases hr with rfl | rfl
  · have hc' : Z.2.1.2.1 6 = nI n := hc
    rw [kW_add_22, eW_add_22_0, lgA, if_pos rfl, hc']
    by_cases h : n < 24
    · simp (disch := omega) only [l0, l1, l2, l3, l4, l5, l6, l7, l8, l9, l10, l11, l12, l13, l14, l15, l16, l17, l18, l19, l20, l21, l22, l23, l24, l25, l26, l27, l28, l29, l30, l31, l40, l48, l52, l57, l60, l65, l97, l99, l100, l102, l119, l122, l179, l197, l200, l201, l237, l436, l437, pk_mul, nI_add, inb_nI, nclamp, dlt, dle, deq, bif_t, bif_f, bif_nt, bif_nf, aft0, aft1, decide_true, decide_false, Bool.not_true, Bool.not_false, cond_true, cond_false, Nat.add_sub_cancel, Nat.add_one_sub_one, ou9, mo1, nI_MO, OU_lt, OU_ge, Nat.not_lt_zero, Bool.or_false, Bool.or_true, Bool.true_or, Bool.false_or, Bool.and_true, Bool.and_false, Bool.true_and, Bool.false_and, bI_0n, bI_1n, Bool.not_not, h]
      rw [eW_add_22_22, eW_add_22_34, eW_add_22_46]
      simp (disch := omega) only [l0, l1, l2, l3, l4, l5, l6, l7, l8, l9, l10, l11, l12, l13, l14, l15, l16, l17, l18, l19, l20, l21, l22, l23, l24, l25, l26, l27, l28, l29, l30, l31, l40, l48, l52, l57, l60, l65, l97, l99, l100, l102, l119, l122, l179, l197, l200, l201, l237, l436, l437, pk_mul, nI_add, inb_nI, nclamp, dlt, dle, deq, bif_t, bif_f, bif_nt, bif_nf, aft0, aft1, decide_true, decide_false, Bool.not_true, Bool.not_false, cond_true, cond_false, Nat.add_sub_cancel, Nat.add_one_sub_one, ou9, mo1, nI_MO, OU_lt, OU_ge, Nat.not_lt_zero, Bool.or_false, Bool.or_true, Bool.true_or, Bool.false_or, Bool.and_true, Bool.and_false, Bool.true_and, Bool.false_and, bI_0n, bI_1n, Bool.not_not, xA_2, hc', xA_n]
    · simp (disch := omega) only [l0, l1, l2, l3, l4, l5, l6, l7, l8, l9, l10, l11, l12, l13, l14, l15, l16, l17, l18, l19, l20, l21, l22, l23, l24, l25, l26, l27, l28, l29, l30, l31, l40, l48, l52, l57, l60, l65, l97, l99, l100, l102, l119, l122, l179, l197, l200, l201, l237, l436, l437, pk_mul, nI_add, inb_nI, nclamp, dlt, dle, deq, bif_t, bif_f, bif_nt, bif_nf, aft0, aft1, decide_true, decide_false, Bool.not_true, Bool.not_false, cond_true, cond_false, Nat.add_sub_cancel, Nat.add_one_sub_one, ou9, mo1, nI_MO, OU_lt, OU_ge, Nat.not_lt_zero, Bool.or_false, Bool.or_true, Bool.true_or, Bool.false_or, Bool.and_true, Bool.and_false, Bool.true_and, Bool.false_and, bI_0n, bI_1n, Bool.not_not, h]
  · have hc' : Z.2.1.2.1 7 = nI n := hc
    rw [kW_add_27, eW_add_27_0, lgA, if_neg (by omega), hc']
    by_cases h : n < 24
    · simp (disch := omega) only [l0, l1, l2, l3, l4, l5, l6, l7, l8, l9, l10, l11, l12, l13, l14, l15, l16, l17, l18, l19, l20, l21, l22, l23, l24, l25, l26, l27, l28, l29, l30, l31, l40, l48, l52, l57, l60, l65, l97, l99, l100, l102, l119, l122, l179, l197, l200, l201, l237, l436, l437, pk_mul, nI_add, inb_nI, nclamp, dlt, dle, deq, bif_t, bif_f, bif_nt, bif_nf, aft0, aft1, decide_true, decide_false, Bool.not_true, Bool.not_false, cond_true, cond_false, Nat.add_sub_cancel, Nat.add_one_sub_one, ou9, mo1, nI_MO, OU_lt, OU_ge, Nat.not_lt_zero, Bool.or_false, Bool.or_true, Bool.true_or, Bool.false_or, Bool.and_true, Bool.and_false, Bool.true_and, Bool.false_and, bI_0n, bI_1n, Bool.not_not, h]
      rw [eW_add_27_22, eW_add_27_34, eW_add_27_46]
      simp (disch := omega) only [l0, l1, l2, l3, l4, l5, l6, l7, l8, l9, l10, l11, l12, l13, l14, l15, l16, l17, l18, l19, l20, l21, l22, l23, l24, l25, l26, l27, l28, l29, l30, l31, l40, l48, l52, l57, l60, l65, l97, l99, l100, l102, l119, l122, l179, l197, l200, l201, l237, l436, l437, pk_mul, nI_add, inb_nI, nclamp, dlt, dle, deq, bif_t, bif_f, bif_nt, bif_nf, aft0, aft1, decide_true, decide_false, Bool.not_true, Bool.not_false, cond_true, cond_false, Nat.add_sub_cancel, Nat.add_one_sub_one, ou9, mo1, nI_MO, OU_lt, OU_ge, Nat.not_lt_zero, Bool.or_false, Bool.or_true, Bool.true_or, Bool.false_or, Bool.and_true, Bool.and_false, Bool.true_and, Bool.false_and, bI_0n, bI_1n, Bool.not_not, xA_2, hc', xA_n]
    · simp (disch := omega) only [l0, l1, l2, l3, l4, l5, l6, l7, l8, l9, l10, l11, l12, l13, l14, l15, l16, l17, l18, l19, l20, l21, l22, l23, l24, l25, l26, l27, l28, l29, l30, l31, l40, l48, l52, l57, l60, l65, l97, l99, l100, l102, l119, l122, l179, l197, l200, l201, l237, l436, l437, pk_mul, nI_add, inb_nI, nclamp, dlt, dle, deq, bif_t, bif_f, bif_nt, bif_nf, aft0, aft1, decide_true, decide_false, Bool.not_true, Bool.not_false, cond_true, cond_false, Nat.add_sub_cancel, Nat.add_one_sub_one, ou9, mo1, nI_MO, OU_lt, OU_ge, Nat.not_lt_zero, Bool.or_false, Bool.or_true, Bool.true_or, Bool.false_or, Bool.and_true, Bool.and_false, Bool.true_and, Bool.false_and, bI_0n, bI_1n, Bool.not_not, h]
theorem lgA_n {r : Nat} {X : XS} {t p w : Int32} {n : Nat} (hn : n ≤ 24) (h : X.2.1 (lgN r) = nI n) : (lgA r X t p w).2.1 (lgN r) = nI (if n < 24 then n + 1 else n) := by
  unfold lgA
  by_cases hr : r = 22
  · have e : lgN r = 6 := if_pos hr
    rw [e] at h ⊢
    rw [if_pos hr, h]
    by_cases hh : n < 24
    · rw [if_pos hh]
      simp (disch := omega) only [l0, l1, l2, l3, l4, l5, l6, l7, l8, l9, l10, l11, l12, l13, l14, l15, l16, l17, l18, l19, l20, l21, l22, l23, l24, l25, l26, l27, l28, l29, l30, l31, l40, l48, l52, l57, l60, l65, l97, l99, l100, l102, l119, l122, l179, l197, l200, l201, l237, l436, l437, pk_mul, nI_add, inb_nI, nclamp, dlt, dle, deq, bif_t, bif_f, bif_nt, bif_nf, aft0, aft1, decide_true, decide_false, Bool.not_true, Bool.not_false, cond_true, cond_false, Nat.add_sub_cancel, Nat.add_one_sub_one, ou9, mo1, nI_MO, OU_lt, OU_ge, Nat.not_lt_zero, Bool.or_false, Bool.or_true, Bool.true_or, Bool.false_or, Bool.and_true, Bool.and_false, Bool.true_and, Bool.false_and, bI_0n, bI_1n, Bool.not_not, hh, xV_s]
    · rw [if_neg hh]
      simp (disch := omega) only [l0, l1, l2, l3, l4, l5, l6, l7, l8, l9, l10, l11, l12, l13, l14, l15, l16, l17, l18, l19, l20, l21, l22, l23, l24, l25, l26, l27, l28, l29, l30, l31, l40, l48, l52, l57, l60, l65, l97, l99, l100, l102, l119, l122, l179, l197, l200, l201, l237, l436, l437, pk_mul, nI_add, inb_nI, nclamp, dlt, dle, deq, bif_t, bif_f, bif_nt, bif_nf, aft0, aft1, decide_true, decide_false, Bool.not_true, Bool.not_false, cond_true, cond_false, Nat.add_sub_cancel, Nat.add_one_sub_one, ou9, mo1, nI_MO, OU_lt, OU_ge, Nat.not_lt_zero, Bool.or_false, Bool.or_true, Bool.true_or, Bool.false_or, Bool.and_true, Bool.and_false, Bool.true_and, Bool.false_and, bI_0n, bI_1n, Bool.not_not, hh, h]
  · have e : lgN r = 7 := if_neg hr
    rw [e] at h ⊢
    rw [if_neg hr, h]
    by_cases hh : n < 24
    · rw [if_pos hh]
      simp (disch := omega) only [l0, l1, l2, l3, l4, l5, l6, l7, l8, l9, l10, l11, l12, l13, l14, l15, l16, l17, l18, l19, l20, l21, l22, l23, l24, l25, l26, l27, l28, l29, l30, l31, l40, l48, l52, l57, l60, l65, l97, l99, l100, l102, l119, l122, l179, l197, l200, l201, l237, l436, l437, pk_mul, nI_add, inb_nI, nclamp, dlt, dle, deq, bif_t, bif_f, bif_nt, bif_nf, aft0, aft1, decide_true, decide_false, Bool.not_true, Bool.not_false, cond_true, cond_false, Nat.add_sub_cancel, Nat.add_one_sub_one, ou9, mo1, nI_MO, OU_lt, OU_ge, Nat.not_lt_zero, Bool.or_false, Bool.or_true, Bool.true_or, Bool.false_or, Bool.and_true, Bool.and_false, Bool.true_and, Bool.false_and, bI_0n, bI_1n, Bool.not_not, hh, xV_s]
    · rw [if_neg hh]
      simp (disch := omega) only [l0, l1, l2, l3, l4, l5, l6, l7, l8, l9, l10, l11, l12, l13, l14, l15, l16, l17, l18, l19, l20, l21, l22, l23, l24, l25, l26, l27, l28, l29, l30, l31, l40, l48, l52, l57, l60, l65, l97, l99, l100, l102, l119, l122, l179, l197, l200, l201, l237, l436, l437, pk_mul, nI_add, inb_nI, nclamp, dlt, dle, deq, bif_t, bif_f, bif_nt, bif_nf, aft0, aft1, decide_true, decide_false, Bool.not_true, Bool.not_false, cond_true, cond_false, Nat.add_sub_cancel, Nat.add_one_sub_one, ou9, mo1, nI_MO, OU_lt, OU_ge, Nat.not_lt_zero, Bool.or_false, Bool.or_true, Bool.true_or, Bool.false_or, Bool.and_true, Bool.and_false, Bool.true_and, Bool.false_and, bI_0n, bI_1n, Bool.not_not, hh, h]
theorem lgE_n {r : Nat} {t : Int32} : ∀ (E : EVT) {X : XS} {n : Nat}, n ≤ 24 → X.2.1 (lgN r) = nI n → ∃ m, m ≤ 24 ∧ (lgE r t X E).2.1 (lgN r) = nI m
  | [], X, n, hn, h => ⟨n, hn, h⟩
  | e :: E, X, n, hn, h => lgE_n E (X := lgA r X t e.1 e.2) (n := if n < 24 then n + 1 else n) (by split <;> omega) (lgA_n hn h)
-- HARMS
theorem tn_harms (d : Nat) {o : Nat} (ho : o = 43 ∨ o = 59) (Z : RT) (t : Int32) {s : Nat → Int32} {nc np nb T : Nat} {B : Nat → Nat} (W : WF s nc np nb T B) : ∀ m p, p + m = np → ∀ S u5, RS S (hrmS nb s p) np nb →
    ∃ S', sem PGM (d + 3) yS_tenth (100, [some (.ref o), some (.int t), some (.null), some (.int (nI (hrmV nb s p))), some (.int (nI p)), u5], [], hS o S Z) = some (some (.int (nI (hrmV nb s np))), hS o S' Z) ∧ RS S' (hpC np (hrmS nb s np) nc) np nb ∧ sF S S' := by
  have hnb : nb ≤ 6 := W.1.2.2.1.2
  have hnp := W.1.2.1.2
  have hnc := W.1.1.2.2
  intro m
  induction m with
  | zero =>
    intro p hp S u5 h
    have ep : p = np := by omega
    subst ep
    have e1 : S.2.1 1 = nI p := (h.1 1 (by omega)).trans ((hrmS_lo (by omega) p).trans W.1.2.1.1)
    have W1 := WF_hrmS W p hnp
    obtain ⟨S', c1, c2, c3⟩ := cS_heapUp d ho Z h W1
    refine ⟨S', ?_, by rw [← hp_eq W1]; exact c2, c3⟩
    rw [eS_tenthn_100 (d + 3) o ho, e1, c1, aft0, eS_tenthn_168 (d + 3) o ho]
    simp (disch := omega) only [l0, l1, l2, l3, l4, l5, l6, l7, l8, l9, l10, l11, l12, l13, l14, l15, l16, l17, l18, l19, l20, l21, l22, l23, l24, l25, l26, l27, l28, l29, l30, l31, l40, l48, l52, l57, l60, l65, l97, l99, l100, l102, l119, l122, l179, l197, l200, l201, l237, l436, l437, pk_mul, nI_add, inb_nI, nclamp, dlt, dle, deq, bif_t, bif_f, bif_nt, bif_nf, aft0, aft1, decide_true, decide_false, Bool.not_true, Bool.not_false, cond_true, cond_false, Nat.add_sub_cancel, Nat.add_one_sub_one, ou9, mo1, nI_MO, OU_lt, OU_ge, Nat.not_lt_zero, Bool.or_false, Bool.or_true, Bool.true_or, Bool.false_or, Bool.and_true, Bool.and_false, Bool.true_and, Bool.false_and, bI_0n, bI_1n, Bool.not_not]
  | succ m ih =>
    intro p hp S u5 h
    have W1 := WF_hrmS W p (by omega)
    have e1 : S.2.1 1 = nI np := (h.1 1 (by omega)).trans ((hrmS_lo (by omega) p).trans W.1.2.1.1)
    obtain ⟨p5, p6, _, _⟩ := h.2.2.1 p (by omega)
    have ih' := ih (p + 1) (by omega)
    rw [hrmS, hrmV] at ih'
    rw [eS_tenthn_100 (d + 3) o ho, e1, cS_isOut (d + 2) ho S Z (show p < 20 by omega), aft1, eS_tenthn_115 (d + 3) o ho, bI_0, p6, l0, dle (by omega) (by omega), bif_f (show ¬ np ≤ p by omega)]
    rcases (W1.2.2.1 p (by omega)).2.1 with hq | ⟨c, hc, hq⟩
    · have hv0 : hv (hrmS nb s p) nb p = 0 := by
        unfold hv
        rw [hq, if_neg (by decide)]
      rw [hrm1, hv0, if_pos rfl] at ih'
      rw [hq, OU_lt, Bool.not_true, cond_false, nI_1, add0]
      exact ih' S _ h
    · have g1 : decide (nI c < nI 0) = false := by rw [dlt (by omega) (by omega)]; simp
      obtain ⟨S1, c1, c2, c3⟩ := cS_sufferedBy d ho Z h W1 (show p < np by omega) hc hq
      rw [hq, g1, Bool.not_false, cond_true, c1, aft1, eS_tenthn_128 (d + 3) o ho, bif_same, nI_1, nI_add]
      exact (ih' S1 _ c2).imp (fun S' hS' => ⟨hS'.1, hS'.2.1, sF_trans c3 hS'.2.2⟩)
theorem tl_harms (d : Nat) {r : Nat} (hr : r = 22 ∨ r = 27) (Z : RT) (t : Int32) {s : Nat → Int32} {nc np nb T : Nat} {B : Nat → Nat} (W : WF s nc np nb T B) {n0 : Nat} (hn0 : n0 ≤ 24) (hZ : Z.2.1.2.1 (lgN r) = nI n0) : ∀ m p, p + m = np → ∀ S u5, RS S (hrmS nb s p) np nb →
    ∃ S', sem PGM (d + 3) yS_tenth (100, [some (.ref 59), some (.int t), some (.ref r), some (.int (nI (hrmV nb s p))), some (.int (nI p)), u5], [], hS 59 S (zX Z (lgE r t Z.2.1 (hrmE nb s p)))) = some (some (.int (nI (hrmV nb s np))), hS 59 S' (zX Z (lgE r t Z.2.1 (hrmE nb s np)))) ∧ RS S' (hpC np (hrmS nb s np) nc) np nb ∧ sF S S' := by
  have hnb : nb ≤ 6 := W.1.2.2.1.2
  have hnp := W.1.2.1.2
  have hnc := W.1.1.2.2
  have ho : (59 : Nat) = 43 ∨ (59 : Nat) = 59 := Or.inr rfl
  intro m
  induction m with
  | zero =>
    intro p hp S u5 h
    have ep : p = np := by omega
    subst ep
    have e1 : S.2.1 1 = nI p := (h.1 1 (by omega)).trans ((hrmS_lo (by omega) p).trans W.1.2.1.1)
    have W1 := WF_hrmS W p hnp
    obtain ⟨S', c1, c2, c3⟩ := cS_heapUp d ho (zX Z (lgE r t Z.2.1 (hrmE nb s p))) h W1
    refine ⟨S', ?_, by rw [← hp_eq W1]; exact c2, c3⟩
    rw [eS_tenthl_100 (d + 3) 59 ho, e1, c1, aft0, eS_tenthl_168 (d + 3) 59 ho]
    simp (disch := omega) only [l0, l1, l2, l3, l4, l5, l6, l7, l8, l9, l10, l11, l12, l13, l14, l15, l16, l17, l18, l19, l20, l21, l22, l23, l24, l25, l26, l27, l28, l29, l30, l31, l40, l48, l52, l57, l60, l65, l97, l99, l100, l102, l119, l122, l179, l197, l200, l201, l237, l436, l437, pk_mul, nI_add, inb_nI, nclamp, dlt, dle, deq, bif_t, bif_f, bif_nt, bif_nf, aft0, aft1, decide_true, decide_false, Bool.not_true, Bool.not_false, cond_true, cond_false, Nat.add_sub_cancel, Nat.add_one_sub_one, ou9, mo1, nI_MO, OU_lt, OU_ge, Nat.not_lt_zero, Bool.or_false, Bool.or_true, Bool.true_or, Bool.false_or, Bool.and_true, Bool.and_false, Bool.true_and, Bool.false_and, bI_0n, bI_1n, Bool.not_not]
  | succ m ih =>
    intro p hp S u5 h
    have W1 := WF_hrmS W p (by omega)
    have e1 : S.2.1 1 = nI np := (h.1 1 (by omega)).trans ((hrmS_lo (by omega) p).trans W.1.2.1.1)
    obtain ⟨p5, p6, _, _⟩ := h.2.2.1 p (by omega)
    have ih' := ih (p + 1) (by omega)
    rw [hrmS, hrmV, hrmE] at ih'
    rw [eS_tenthl_100 (d + 3) 59 ho, e1, cS_isOut (d + 2) ho S _ (show p < 20 by omega), aft1, eS_tenthl_115 (d + 3) 59 ho, bI_0, p6, l0, dle (by omega) (by omega), bif_f (show ¬ np ≤ p by omega)]
    rcases (W1.2.2.1 p (by omega)).2.1 with hq | ⟨c, hc, hq⟩
    · have hv0 : hv (hrmS nb s p) nb p = 0 := by
        unfold hv
        rw [hq, if_neg (by decide)]
      rw [hrm1, hv0, if_pos rfl, if_pos rfl, List.append_nil] at ih'
      rw [hq, OU_lt, Bool.not_true, cond_false, nI_1, add0]
      exact ih' S _ h
    · have g1 : decide (nI c < nI 0) = false := by rw [dlt (by omega) (by omega)]; simp
      obtain ⟨S1, c1, c2, c3⟩ := cS_sufferedBy d ho (zX Z (lgE r t Z.2.1 (hrmE nb s p))) h W1 (show p < np by omega) hc hq
      have hle := hv_le (hrmS nb s p) nb p
      rw [hq, g1, Bool.not_false, cond_true, c1, aft1, eS_tenthl_128 (d + 3) 59 ho, nI_1, nI_add, l0, dle (by omega) (by omega)]
      by_cases hz : hv (hrmS nb s p) nb p = 0
      · rw [if_pos hz, List.append_nil] at ih'
        rw [bif_t (by omega)]
        exact (ih' S1 _ c2).imp (fun S' hS' => ⟨hS'.1, hS'.2.1, sF_trans c3 hS'.2.2⟩)
      · rw [if_neg hz, lgE_snoc] at ih'
        rw [bif_f (by omega)]
        have q1 : (!(Nat.beq r 9)) = true := by rcases hr with rfl | rfl <;> rfl
        have q2 : okC (hS 59 S1 (zX Z (lgE r t Z.2.1 (hrmE nb s p)))) r 3 = true := by rcases hr with rfl | rfl <;> rfl
        have s6 : S1.1 6 p = hrmS nb s p (99 + 4 * p + 1) := by
          rw [(c2.2.2.1 p (by omega)).2.1, hrm1]
          rw [if_neg hz, upd_ne (by omega), upd_ne (by omega)]
        obtain ⟨k, hk24, hk⟩ := lgE_n (r := r) (t := t) (hrmE nb s p) hn0 hZ
        rw [q1, q2, inb_nI (by omega), nclamp (by omega), s6, cW_add (d + 2) hr S1 _ t (nI p) _ hk24 hk, zX_zX]
        simp (disch := omega) only [l0, l1, l2, l3, l4, l5, l6, l7, l8, l9, l10, l11, l12, l13, l14, l15, l16, l17, l18, l19, l20, l21, l22, l23, l24, l25, l26, l27, l28, l29, l30, l31, l40, l48, l52, l57, l60, l65, l97, l99, l100, l102, l119, l122, l179, l197, l200, l201, l237, l436, l437, pk_mul, nI_add, inb_nI, nclamp, dlt, dle, deq, bif_t, bif_f, bif_nt, bif_nf, aft0, aft1, decide_true, decide_false, Bool.not_true, Bool.not_false, cond_true, cond_false, Nat.add_sub_cancel, Nat.add_one_sub_one, ou9, mo1, nI_MO, OU_lt, OU_ge, Nat.not_lt_zero, Bool.or_false, Bool.or_true, Bool.true_or, Bool.false_or, Bool.and_true, Bool.and_false, Bool.true_and, Bool.false_and, bI_0n, bI_1n, Bool.not_not]
        rw [eS_tenthl_153 (d + 3) 59 ho, nI_1, nI_add]
        exact (ih' S1 _ c2).imp (fun S' hS' => ⟨hS'.1, hS'.2.1, sF_trans c3 hS'.2.2⟩)
theorem cS_tenthn (d : Nat) {o : Nat} (ho : o = 43 ∨ o = 59) {S : SS} (Z : RT) (t : Int32) {s : Nat → Int32} {nc np nb T n : Nat} {B : Nat → Nat} {C : Nat → CL} {wo : Int32} (h : RS S s np nb) (W : WF s nc np nb T B) (hl : lawD Z.2.2.2.2.2 S.2.2 n C) (hm : lawM s n C) (hw : woR (S.2.1 5) wo) :
    ∃ S', call PGM (d + 6) yS_tenth [.ref o, .int t, .null] (hS o S Z) = some (some (.int (nI (goV np nb n C wo s))), hS o S' Z) ∧ RS S' (goF nc np nb n C wo s) np nb ∧ sF S S' := by
  have hnb : nb ≤ 6 := W.1.2.2.1.2
  have hnp := W.1.2.1.2
  have W0 := WF_tick W
  have R0 : RS (sV S 3 (S.2.1 3 + 1)) (upd s 3 (s 3 + 1)) np nb := by
    rw [h.1 3 (by omega)]
    exact RS_t h hnp
  have W2 := WF_bstS W0 nb (Nat.le_refl _)
  have hm2 : lawM (bstS np (upd s 3 (s 3 + 1)) nb) n C := lawM_congr hm (by rw [bstS_fr (by omega) (by omega) nb hnb, upd_ne (by omega)]) (fun j hj => by rw [bstS_fr (by omega) (by omega) nb hnb, upd_ne (by omega)])
  obtain ⟨S1, a1, a2, a3⟩ := tn_beasts (d + 2) ho Z t W0 none nb 0 (by omega) _ R0
  have a3' : sF S S1 := a3
  obtain ⟨S2, b1, b2, b3⟩ := tn_people d ho Z t W2 hl hm2 hw none np 0 (by omega) S1 a2 a3'.2 a3'.1
  obtain ⟨S3, c1, c2, c3⟩ := tn_harms (d + 2) ho Z t (WF_goA (n := n) (C := C) (wo := wo) W) np 0 (by omega) S2 none b2
  refine ⟨S3, ?_, c2, sF_trans (sF_trans a3' b3) c3⟩
  rw [kS_tenthn, eS_tenthn_0 (d + 5) o ho, eS_tenthn_10 (d + 5) o ho]
  exact a1.trans (b1.trans c1)
theorem cS_tenthl (d : Nat) {r : Nat} (hr : r = 22 ∨ r = 27) {S : SS} (Z : RT) (t : Int32) {s : Nat → Int32} {nc np nb T n : Nat} {B : Nat → Nat} {C : Nat → CL} {wo : Int32} (h : RS S s np nb) (W : WF s nc np nb T B) (hl : lawD Z.2.2.2.2.2 S.2.2 n C) (hm : lawM s n C) (hw : woR (S.2.1 5) wo) {n0 : Nat} (hn0 : n0 ≤ 24) (hZ : Z.2.1.2.1 (lgN r) = nI n0) :
    ∃ S', call PGM (d + 6) yS_tenth [.ref 59, .int t, .ref r] (hS 59 S Z) = some (some (.int (nI (goV np nb n C wo s))), hS 59 S' (zX Z (lgE r t Z.2.1 (goE np nb n C wo s)))) ∧ RS S' (goF nc np nb n C wo s) np nb ∧ sF S S' := by
  have hnb : nb ≤ 6 := W.1.2.2.1.2
  have hnp := W.1.2.1.2
  have ho : (59 : Nat) = 43 ∨ (59 : Nat) = 59 := Or.inr rfl
  have W0 := WF_tick W
  have R0 : RS (sV S 3 (S.2.1 3 + 1)) (upd s 3 (s 3 + 1)) np nb := by
    rw [h.1 3 (by omega)]
    exact RS_t h hnp
  have W2 := WF_bstS W0 nb (Nat.le_refl _)
  have hm2 : lawM (bstS np (upd s 3 (s 3 + 1)) nb) n C := lawM_congr hm (by rw [bstS_fr (by omega) (by omega) nb hnb, upd_ne (by omega)]) (fun j hj => by rw [bstS_fr (by omega) (by omega) nb hnb, upd_ne (by omega)])
  obtain ⟨S1, a1, a2, a3⟩ := tl_beasts (d + 2) ho Z r t W0 none nb 0 (by omega) _ R0
  have a3' : sF S S1 := a3
  obtain ⟨S2, b1, b2, b3⟩ := tl_people d ho Z r t W2 hl hm2 hw none np 0 (by omega) S1 a2 a3'.2 a3'.1
  obtain ⟨S3, c1, c2, c3⟩ := tl_harms (d + 2) hr Z t (WF_goA (n := n) (C := C) (wo := wo) W) hn0 hZ np 0 (by omega) S2 none b2
  refine ⟨S3, ?_, c2, sF_trans (sF_trans a3' b3) c3⟩
  rw [kS_tenthl, eS_tenthl_0 (d + 5) 59 ho, eS_tenthl_10 (d + 5) 59 ho]
  exact a1.trans (b1.trans c1)
theorem cS_goOnn (d : Nat) {o : Nat} (ho : o = 43 ∨ o = 59) {S : SS} (Z : RT) {s : Nat → Int32} {nc np nb T n t : Nat} {B : Nat → Nat} {C : Nat → CL} {wo : Int32} (h : RS S s np nb) (W : WF s nc np nb T B) (hl : lawD Z.2.2.2.2.2 S.2.2 n C) (hm : lawM s n C) (hw : woR (S.2.1 5) wo) (ht : t ≤ 60) :
    ∃ S', call PGM (d + 7) yS_goOn [.ref o, .int (nI t), .null] (hS o S Z) = some (some (.int (nI (trV nc np nb n C wo s t))), hS o S' Z) ∧ RS S' (trS nc np nb n C wo s t) np nb ∧ sF S S' := by
  have hnb : nb ≤ 6 := W.1.2.2.1.2
  have hnp := W.1.2.1.2
  rw [kS_goOnn, eS_goOnn_0 (d + 6) o ho]
  have loop : ∀ m j, j + m = t → ∀ S1, RS S1 (trS nc np nb n C wo s j) np nb → sF S S1 → ∃ S', sem PGM (d + 6) yS_goOn (5, [some (.ref o), some (.int (nI t)), some (.null), some (.int (nI (trV nc np nb n C wo s j))), some (.int (nI (j + 1)))], [], hS o S1 Z) = some (some (.int (nI (trV nc np nb n C wo s t))), hS o S' Z) ∧ RS S' (trS nc np nb n C wo s t) np nb ∧ sF S S' := by
    intro m
    induction m with
    | zero =>
      intro j hj S1 R1 F1
      have ej : j = t := by omega
      subst ej
      refine ⟨S1, ?_, R1, F1⟩
      rw [eS_goOnn_5 (d + 6) o ho]
      simp (disch := omega) only [l0, l1, l2, l3, l4, l5, l6, l7, l8, l9, l10, l11, l12, l13, l14, l15, l16, l17, l18, l19, l20, l21, l22, l23, l24, l25, l26, l27, l28, l29, l30, l31, l40, l48, l52, l57, l60, l65, l97, l99, l100, l102, l119, l122, l179, l197, l200, l201, l237, l436, l437, pk_mul, nI_add, inb_nI, nclamp, dlt, dle, deq, bif_t, bif_f, bif_nt, bif_nf, aft0, aft1, decide_true, decide_false, Bool.not_true, Bool.not_false, cond_true, cond_false, Nat.add_sub_cancel, Nat.add_one_sub_one, ou9, mo1, nI_MO, OU_lt, OU_ge, Nat.not_lt_zero, Bool.or_false, Bool.or_true, Bool.true_or, Bool.false_or, Bool.and_true, Bool.and_false, Bool.true_and, Bool.false_and, bI_0n, bI_1n, Bool.not_not]
    | succ m ih =>
      intro j hj S1 R1 F1
      have W1 := WF_trS (n := n) (C := C) (wo := wo) W j
      obtain ⟨S2, c1, c2, c3⟩ := cS_tenthn d ho Z (nI (j + 1)) R1 W1 (by rw [F1.2]; exact hl) (lawM_congr hm (trS_fr hnp hnb (by omega) j) (fun i hi => trS_fr hnp hnb (by omega) j)) (by rw [F1.1]; exact hw)
      rw [eS_goOnn_5 (d + 6) o ho, c1, aft1, eS_goOnn_19 (d + 6) o ho]
      simp (disch := omega) only [l0, l1, l2, l3, l4, l5, l6, l7, l8, l9, l10, l11, l12, l13, l14, l15, l16, l17, l18, l19, l20, l21, l22, l23, l24, l25, l26, l27, l28, l29, l30, l31, l40, l48, l52, l57, l60, l65, l97, l99, l100, l102, l119, l122, l179, l197, l200, l201, l237, l436, l437, pk_mul, nI_add, inb_nI, nclamp, dlt, dle, deq, bif_t, bif_f, bif_nt, bif_nf, aft0, aft1, decide_true, decide_false, Bool.not_true, Bool.not_false, cond_true, cond_false, Nat.add_sub_cancel, Nat.add_one_sub_one, ou9, mo1, nI_MO, OU_lt, OU_ge, Nat.not_lt_zero, Bool.or_false, Bool.or_true, Bool.true_or, Bool.false_or, Bool.and_true, Bool.and_false, Bool.true_and, Bool.false_and, bI_0n, bI_1n, Bool.not_not]
      exact ih (j + 1) (by omega) S2 c2 (sF_trans F1 c3)
  exact loop t 0 (by omega) S h (sF_refl S)
/-- what a log takes down in a TRIAL -/
def lgT (r nc np nb n : Nat) (C : Nat → CL) (wo : Int32) (s : Nat → Int32) (X : XS) : Nat → XS
  | 0 => X
  | j + 1 => lgE r (nI (j + 1)) (lgT r nc np nb n C wo s X j) (goE np nb n C wo (trS nc np nb n C wo s j))
theorem lgT_n {r nc np nb n : Nat} {C : Nat → CL} {wo : Int32} {s : Nat → Int32} {X : XS} {n0 : Nat} (hn0 : n0 ≤ 24) (hX : X.2.1 (lgN r) = nI n0) : ∀ j, ∃ m, m ≤ 24 ∧ (lgT r nc np nb n C wo s X j).2.1 (lgN r) = nI m
  | 0 => ⟨n0, hn0, hX⟩
  | j + 1 => by
    obtain ⟨m, hm, e⟩ := lgT_n (nc := nc) (np := np) (nb := nb) (n := n) (C := C) (wo := wo) (s := s) hn0 hX j
    exact lgE_n _ hm e
theorem cS_goOnl (d : Nat) {r : Nat} (hr : r = 22 ∨ r = 27) {S : SS} (Z : RT) {s : Nat → Int32} {nc np nb T n t : Nat} {B : Nat → Nat} {C : Nat → CL} {wo : Int32} (h : RS S s np nb) (W : WF s nc np nb T B) (hl : lawD Z.2.2.2.2.2 S.2.2 n C) (hm : lawM s n C) (hw : woR (S.2.1 5) wo) (ht : t ≤ 60) {n0 : Nat} (hn0 : n0 ≤ 24) (hZ : Z.2.1.2.1 (lgN r) = nI n0) :
    ∃ S', call PGM (d + 7) yS_goOn [.ref 59, .int (nI t), .ref r] (hS 59 S Z) = some (some (.int (nI (trV nc np nb n C wo s t))), hS 59 S' (zX Z (lgT r nc np nb n C wo s Z.2.1 t))) ∧ RS S' (trS nc np nb n C wo s t) np nb ∧ sF S S' := by
  have hnb : nb ≤ 6 := W.1.2.2.1.2
  have hnp := W.1.2.1.2
  have ho : (59 : Nat) = 43 ∨ (59 : Nat) = 59 := Or.inr rfl
  rw [kS_goOnl, eS_goOnl_0 (d + 6) 59 ho]
  have loop : ∀ m j, j + m = t → ∀ S1, RS S1 (trS nc np nb n C wo s j) np nb → sF S S1 → ∃ S', sem PGM (d + 6) yS_goOn (5, [some (.ref 59), some (.int (nI t)), some (.ref r), some (.int (nI (trV nc np nb n C wo s j))), some (.int (nI (j + 1)))], [], hS 59 S1 (zX Z (lgT r nc np nb n C wo s Z.2.1 j))) = some (some (.int (nI (trV nc np nb n C wo s t))), hS 59 S' (zX Z (lgT r nc np nb n C wo s Z.2.1 t))) ∧ RS S' (trS nc np nb n C wo s t) np nb ∧ sF S S' := by
    intro m
    induction m with
    | zero =>
      intro j hj S1 R1 F1
      have ej : j = t := by omega
      subst ej
      refine ⟨S1, ?_, R1, F1⟩
      rw [eS_goOnl_5 (d + 6) 59 ho]
      simp (disch := omega) only [l0, l1, l2, l3, l4, l5, l6, l7, l8, l9, l10, l11, l12, l13, l14, l15, l16, l17, l18, l19, l20, l21, l22, l23, l24, l25, l26, l27, l28, l29, l30, l31, l40, l48, l52, l57, l60, l65, l97, l99, l100, l102, l119, l122, l179, l197, l200, l201, l237, l436, l437, pk_mul, nI_add, inb_nI, nclamp, dlt, dle, deq, bif_t, bif_f, bif_nt, bif_nf, aft0, aft1, decide_true, decide_false, Bool.not_true, Bool.not_false, cond_true, cond_false, Nat.add_sub_cancel, Nat.add_one_sub_one, ou9, mo1, nI_MO, OU_lt, OU_ge, Nat.not_lt_zero, Bool.or_false, Bool.or_true, Bool.true_or, Bool.false_or, Bool.and_true, Bool.and_false, Bool.true_and, Bool.false_and, bI_0n, bI_1n, Bool.not_not]
    | succ m ih =>
      intro j hj S1 R1 F1
      have W1 := WF_trS (n := n) (C := C) (wo := wo) W j
      obtain ⟨k, hk, ek⟩ := lgT_n (nc := nc) (np := np) (nb := nb) (n := n) (C := C) (wo := wo) (s := s) hn0 hZ j
      obtain ⟨S2, c1, c2, c3⟩ := cS_tenthl d hr (zX Z (lgT r nc np nb n C wo s Z.2.1 j)) (nI (j + 1)) R1 W1 (by rw [F1.2]; exact hl) (lawM_congr hm (trS_fr hnp hnb (by omega) j) (fun i hi => trS_fr hnp hnb (by omega) j)) (by rw [F1.1]; exact hw) hk ek
      rw [eS_goOnl_5 (d + 6) 59 ho, c1, aft1, eS_goOnl_19 (d + 6) 59 ho, zX_zX]
      simp (disch := omega) only [l0, l1, l2, l3, l4, l5, l6, l7, l8, l9, l10, l11, l12, l13, l14, l15, l16, l17, l18, l19, l20, l21, l22, l23, l24, l25, l26, l27, l28, l29, l30, l31, l40, l48, l52, l57, l60, l65, l97, l99, l100, l102, l119, l122, l179, l197, l200, l201, l237, l436, l437, pk_mul, nI_add, inb_nI, nclamp, dlt, dle, deq, bif_t, bif_f, bif_nt, bif_nf, aft0, aft1, decide_true, decide_false, Bool.not_true, Bool.not_false, cond_true, cond_false, Nat.add_sub_cancel, Nat.add_one_sub_one, ou9, mo1, nI_MO, OU_lt, OU_ge, Nat.not_lt_zero, Bool.or_false, Bool.or_true, Bool.true_or, Bool.false_or, Bool.and_true, Bool.and_false, Bool.true_and, Bool.false_and, bI_0n, bI_1n, Bool.not_not]
      exact ih (j + 1) (by omega) S2 c2 (sF_trans F1 c3)
  exact loop t 0 (by omega) S h (sF_refl S)
