/-! Calls of both: person, beast, moves. -/
def pn1 (s : Nat → Int32) (np : Nat) (k x a : Int32) : Nat → Int32 := upd (upd (upd (upd (upd s (99 + 4 * np) k) (99 + 4 * np + 1) x) (99 + 4 * np + 2) a) (99 + 4 * np + 3) (nI 0)) 1 (nI (np + 1))
theorem pn1_fr {s : Nat → Int32} {np : Nat} {k x a : Int32} {j : Nat} (h1 : j ≠ 1) (h : j < 99 + 4 * np ∨ 99 + 4 * np + 4 ≤ j) : pn1 s np k x a j = s j := by
  rw [pn1, upd_ne h1, upd_ne (by omega), upd_ne (by omega), upd_ne (by omega), upd_ne (by omega)]
theorem pn1_0 (s : Nat → Int32) (np : Nat) (k x a : Int32) : pn1 s np k x a (99 + 4 * np) = k := by
  rw [pn1, upd_ne (by omega), upd_ne (by omega), upd_ne (by omega), upd_ne (by omega), upd_eq]
theorem pn1_1 (s : Nat → Int32) (np : Nat) (k x a : Int32) : pn1 s np k x a (99 + 4 * np + 1) = x := by
  rw [pn1, upd_ne (by omega), upd_ne (by omega), upd_ne (by omega), upd_eq]
theorem pn1_2 (s : Nat → Int32) (np : Nat) (k x a : Int32) : pn1 s np k x a (99 + 4 * np + 2) = a := by
  rw [pn1, upd_ne (by omega), upd_ne (by omega), upd_eq]
theorem pn1_3 (s : Nat → Int32) (np : Nat) (k x a : Int32) : pn1 s np k x a (99 + 4 * np + 3) = nI 0 := by
  rw [pn1, upd_ne (by omega), upd_eq]
theorem pn1_n (s : Nat → Int32) (np : Nat) (k x a : Int32) : pn1 s np k x a 1 = nI (np + 1) := by rw [pn1, upd_eq]
theorem pn1_seat (s : Nat → Int32) (np : Nat) (k x y a : Int32) : upd (pn1 s np k x a) (99 + 4 * np + 1) y = pn1 s np k y a := by
  funext j
  by_cases e : j = 99 + 4 * np + 1
  · subst e
    rw [upd_eq, pn1_1]
  · rw [upd_ne e]
    unfold pn1
    by_cases e1 : j = 1
    · subst e1; rw [upd_eq, upd_eq]
    · rw [upd_ne e1, upd_ne e1]
      by_cases e3 : j = 99 + 4 * np + 3
      · subst e3; rw [upd_eq, upd_eq]
      · rw [upd_ne e3, upd_ne e3]
        by_cases e2 : j = 99 + 4 * np + 2
        · subst e2; rw [upd_eq, upd_eq]
        · rw [upd_ne e2, upd_ne e2, upd_ne e, upd_ne e]
theorem cS_addPerson (d : Nat) {o : Nat} (ho : o = 43 ∨ o = 59) {S : SS} (Z : RT) {s : Nat → Int32} {nc np nb T : Nat} {B : Nat → Nat} (h : RS S s np nb) (W : WF s nc np nb T B) (hn : np < 20) {k c : Nat} (hk : k < 9) (hc : c < 30) (a : Int32) :
    ∃ S', call PGM (d + 3) yS_addPerson [.ref o, .int (nI k), .int (nI c), .int a] (hS o S Z) = some (some (.int (nI np)), hS o S' Z) ∧ RS S' (pn1 s np (nI k) (nI c) a) (np + 1) nb ∧ sF S S' := by
  have hnb : nb ≤ 6 := W.1.2.2.1.2
  have e1 : S.2.1 1 = nI np := (h.1 1 (by omega)).trans W.1.2.1.1
  have R2 : RS (sA (sA (sA (sA (sV S 1 (nI (np + 1))) 5 (upd (S.1 5) np (nI k))) 7 (upd (S.1 7) np a)) 8 (upd (S.1 8) np 0)) 6 (upd (S.1 6) np OU)) (pn1 s np (nI k) OU a) (np + 1) nb := by
    obtain ⟨hV, hC, hP, hB, hR, hN⟩ := h
    have fr : ∀ j, j ≠ 1 → (j < 99 + 4 * np ∨ 99 + 4 * np + 4 ≤ j) → pn1 s np (nI k) OU a j = s j := fun j h1 h => pn1_fr h1 h
    refine ⟨fun j hj => ?_, fun e he => ?_, fun q hq => ?_, fun b hb => ?_, fun j hj => ?_, fun e he => ?_⟩
    · show (sV S 1 (nI (np + 1))).2.1 j = _
      by_cases ej : j = 1
      · subst ej; rw [sV_s, pn1_n]
      · rw [sV_n ej, fr j ej (by omega)]; exact hV j hj
    · rw [sA_n (by omega), sA_n (by omega), sA_n (by omega), sA_n (by omega), sV_1, sA_n (by omega), sA_n (by omega), sA_n (by omega), sA_n (by omega), sV_1, sA_n (by omega), sA_n (by omega), sA_n (by omega), sA_n (by omega), sV_1, fr _ (by omega) (by omega), fr _ (by omega) (by omega), fr _ (by omega) (by omega)]
      exact hC e he
    · have a5 : (sA (sA (sA (sA (sV S 1 (nI (np + 1))) 5 (upd (S.1 5) np (nI k))) 7 (upd (S.1 7) np a)) 8 (upd (S.1 8) np 0)) 6 (upd (S.1 6) np OU)).1 5 = upd (S.1 5) np (nI k) := by rw [sA_n (by omega), sA_n (by omega), sA_n (by omega), sA_s]
      have a6 : (sA (sA (sA (sA (sV S 1 (nI (np + 1))) 5 (upd (S.1 5) np (nI k))) 7 (upd (S.1 7) np a)) 8 (upd (S.1 8) np 0)) 6 (upd (S.1 6) np OU)).1 6 = upd (S.1 6) np OU := by rw [sA_s]
      have a7 : (sA (sA (sA (sA (sV S 1 (nI (np + 1))) 5 (upd (S.1 5) np (nI k))) 7 (upd (S.1 7) np a)) 8 (upd (S.1 8) np 0)) 6 (upd (S.1 6) np OU)).1 7 = upd (S.1 7) np a := by rw [sA_n (by omega), sA_n (by omega), sA_s]
      have a8 : (sA (sA (sA (sA (sV S 1 (nI (np + 1))) 5 (upd (S.1 5) np (nI k))) 7 (upd (S.1 7) np a)) 8 (upd (S.1 8) np 0)) 6 (upd (S.1 6) np OU)).1 8 = upd (S.1 8) np 0 := by rw [sA_n (by omega), sA_s]
      rw [a5, a6, a7, a8]
      by_cases e : q = np
      · subst e
        rw [upd_eq, upd_eq, upd_eq, upd_eq, pn1_0, pn1_1, pn1_2, pn1_3]
        exact ⟨rfl, rfl, rfl, rfl⟩
      · rw [upd_ne e, upd_ne e, upd_ne e, upd_ne e, fr _ (by omega) (by omega), fr _ (by omega) (by omega), fr _ (by omega) (by omega), fr _ (by omega) (by omega)]
        exact hP q (by omega)
    · rw [sA_n (by omega), sA_n (by omega), sA_n (by omega), sA_n (by omega), sV_1, sA_n (by omega), sA_n (by omega), sA_n (by omega), sA_n (by omega), sV_1, sA_n (by omega), sA_n (by omega), sA_n (by omega), sA_n (by omega), sV_1, fr _ (by omega) (by omega), fr _ (by omega) (by omega), fr _ (by omega) (by omega)]
      exact hB b hb
    · rw [sA_n (by omega), sA_n (by omega), sA_n (by omega), sA_n (by omega), sV_1, fr _ (by omega) (by omega)]
      exact hR j hj
    · rw [sA_n (by omega), sA_n (by omega), sA_n (by omega), sA_n (by omega), sV_1, sA_n (by omega), sA_n (by omega), sA_n (by omega), sA_n (by omega), sV_1]
      have no : decide (OU = nI e) = false := by
        have h1 : ¬ OU = nI e := by
          intro hh
          have h2 : decide (OU < nI 0) = true := OU_lt
          rw [hh, dlt (by omega) (by omega)] at h2
          simp at h2
        simp [h1]
      have c1 : crN (pn1 s np (nI k) OU a) (nI e) (np + 1) = crN s (nI e) np := by
        show crN (pn1 s np (nI k) OU a) (nI e) np + (bif decide (pn1 s np (nI k) OU a (99 + 4 * np + 1) = nI e) then 1 else 0) = _
        rw [pn1_1, no, crN_congr (fun q hq => fr _ (by omega) (by omega))]
        rfl
      have c2 : faN (pn1 s np (nI k) OU a) (nI e) (np + 1) = faN s (nI e) np := by
        show faN (pn1 s np (nI k) OU a) (nI e) np + (bif decide (pn1 s np (nI k) OU a (99 + 4 * np + 1) = nI e) && under (pn1 s np (nI k) OU a (99 + 4 * np)) 3 then 1 else 0) = _
        rw [pn1_1, no, Bool.false_and, faN_congr (fun q hq => fr _ (by omega) (by omega)) (fun q hq => fr _ (by omega) (by omega))]
        rfl
      rw [c1, c2]
      exact hN e he
  obtain ⟨S', s1, s2, s3⟩ := cS_seat d ho Z (x := nI c) R2 (show np < np + 1 by omega) (by omega) hk (pn1_0 _ _ _ _ _) (by rw [pn1_1]; exact Or.inl rfl) (Or.inr ⟨c, hc, rfl⟩)
  rw [pn1_seat] at s2
  refine ⟨S', ?_, s2, sF_trans ⟨rfl, rfl⟩ s3⟩
  have n20 : decide (np < 20) = true := by simp [hn]
  rw [kS_addPerson, eS_addPerson_0 (d + 2) o ho, e1, nI_1, eS_addPerson_16 (d + 2) o ho, inb_nI (by omega), n20, cond_true, nclamp (by omega), eS_addPerson_24 (d + 2) o ho, inb_nI (by omega), n20, cond_true, nclamp (by omega), eS_addPerson_32 (d + 2) o ho, inb_nI (by omega), n20, cond_true, nclamp (by omega), eS_addPerson_40 (d + 2) o ho, inb_nI (by omega), n20, cond_true, nclamp (by omega)]
  have s1' : call PGM (d + 2) yS_seat [.ref o, .int (nI np), .int (nI c)] (hS o (sA (sA (sA (sA (sV S 1 (nI (np + 1))) 5 (upd ((sV S 1 (nI (np + 1))).1 5) np (nI k))) 7 (upd ((sA (sV S 1 (nI (np + 1))) 5 (upd ((sV S 1 (nI (np + 1))).1 5) np (nI k))).1 7) np a)) 8 (upd ((sA (sA (sV S 1 (nI (np + 1))) 5 (upd ((sV S 1 (nI (np + 1))).1 5) np (nI k))) 7 (upd ((sA (sV S 1 (nI (np + 1))) 5 (upd ((sV S 1 (nI (np + 1))).1 5) np (nI k))).1 7) np a)).1 8) np 0)) 6 (upd ((sA (sA (sA (sV S 1 (nI (np + 1))) 5 (upd ((sV S 1 (nI (np + 1))).1 5) np (nI k))) 7 (upd ((sA (sV S 1 (nI (np + 1))) 5 (upd ((sV S 1 (nI (np + 1))).1 5) np (nI k))).1 7) np a)) 8 (upd ((sA (sA (sV S 1 (nI (np + 1))) 5 (upd ((sV S 1 (nI (np + 1))).1 5) np (nI k))) 7 (upd ((sA (sV S 1 (nI (np + 1))) 5 (upd ((sV S 1 (nI (np + 1))).1 5) np (nI k))).1 7) np a)).1 8) np 0)).1 6) np (-9))) Z) = some (none, hS o S' Z) := s1
  rw [s1', aft0, eS_addPerson_56 (d + 2) o ho]
theorem WF_person {s : Nat → Int32} {nc np nb T : Nat} {B : Nat} {k c a : Nat} (W : WF s nc np nb T (fun _ => B)) (hn : np < 20) (hk : 1 ≤ k ∧ k ≤ 7) (hc : c < nc) (ha : 1 ≤ a ∧ a ≤ 3) : WF (pn1 s np (nI k) (nI c) (nI a)) nc (np + 1) nb T (fun _ => B) := by
  have hnb : nb ≤ 6 := W.1.2.2.1.2
  have fr : ∀ j, j ≠ 1 → (j < 99 + 4 * np ∨ 99 + 4 * np + 4 ≤ j) → pn1 s np (nI k) (nI c) (nI a) j = s j := fun j h1 h => pn1_fr h1 h
  obtain ⟨⟨x, b, c', t, f1, f2, f3⟩, g, i, j⟩ := W
  refine ⟨⟨?_, ⟨pn1_n _ _ _ _ _, by omega⟩, ?_, ?_, ?_, ?_, ?_⟩, fun e he => wfC_congr (g e he) (fun q _ hq => fr q (by omega) (by omega)) he, fun p hp => ?_, fun b hb => wfB_congr (j b hb) (fun q hq => fr _ (by omega) (by omega))⟩
  · rw [fr 0 (by omega) (by omega)]; exact x
  · rw [fr 2 (by omega) (by omega)]; exact c'
  · rw [fr 3 (by omega) (by omega)]; exact t
  · rw [fr 5 (by omega) (by omega)]; exact f1
  · rw [fr 6 (by omega) (by omega)]; exact f2
  · rw [fr 7 (by omega) (by omega)]; exact f3
  · by_cases e : p = np
    · subst e
      unfold wfP
      rw [pn1_0, pn1_1, pn1_2, pn1_3]
      exact ⟨⟨k, hk.1, hk.2, rfl⟩, Or.inr ⟨c, hc, rfl⟩, ⟨a, ha.1, ha.2, rfl⟩, ⟨0, Nat.zero_le _, rfl⟩⟩
    · exact wfP_congr (i p (by omega)) (fun q hq => fr _ (by omega) (by omega))
theorem op_person (d i : Nat) (g : GT) (X : XS) (N T K : SS) (M : MS) (dd : AH) (h : INV i X N K M dd) (x y z : Int32) : OPR d i g X N T K M dd yB_person yM_person [.int x, .int y, .int z] := by
  have h' := h
  obtain ⟨⟨⟨nc, np, nb, n, C, R, W, L, D⟩, wo5⟩, _⟩ := h'
  have hnb : nb ≤ 6 := W.1.2.2.1.2
  have hnp := W.1.2.1.2
  have hnc := W.1.1.2.2
  have e0 : N.2.1 0 = nI nc := (R.1 0 (by omega)).trans W.1.1.1
  have e1 : N.2.1 1 = nI np := (R.1 1 (by omega)).trans W.1.2.1.1
  have cB : call PGM (d + 40) yB_person [.ref 12, .int x, .int y, .int z] (heapOf g X N T K M dd) = bif rng x 1 7 && hasB y nc then sem PGM (d + 39) yB_person (15, [some (.ref 12), some (.int x), some (.int y), some (.int z)], [.int (bI true)], heapOf g X N T K M dd) else some (some (.int MO), heapOf g X N T K M dd) := by
    rw [kB_person, eB_person_0, isB_PersonKind (d + 38), aft1, eB_person_4, bI_0, cN_hasCell (d + 38) g X T K M dd y e0, aft1]
    cases rng x 1 7 with
    | false => rfl
    | true =>
      cases hasB y nc with
      | true => rfl
      | false =>
        show sem PGM (d + 39) yB_person (15, _, [.int (bI false)], _) = _
        rw [eB_person_15]
        rfl
  have cM : ∀ Z : ZT, call PGM (d + 40) yM_person [.ref 91, .int x, .int y, .int z] (hM Z M) = bif rng x 1 7 && hasB y nc then sem PGM (d + 39) yM_person (29, [some (.ref 91), some (.int x), some (.int y), some (.int z), none], [.int (bI (rng z 1 3))], hM Z M) else some (some (.int MO), hM Z M) := by
    intro Z
    rw [kM_person, eM_person_0, w1, w7, cM_rng (d + 38), aft1, eM_person_9, bI_0, cM_isCell (d + 37) Z M y hnc W.1.1.1, aft1, eM_person_17, bI_0, w1, w3, cM_rng (d + 38), aft1]
    cases rng x 1 7 <;> cases hasB y nc <;> rfl
  cases hxy : rng x 1 7 && hasB y nc with
  | false =>
    refine op_ro MO h ?_ ?_
    · rw [cB, hxy]
      rfl
    · rw [hM_eq, cM, hxy]
      rfl
  | true =>
    rw [Bool.and_eq_true] at hxy
    obtain ⟨hx, hy⟩ := hxy
    obtain ⟨k, k1, k7, rfl⟩ := rng_t (by omega) (by omega) hx
    obtain ⟨c, hc, rfl⟩ := has_t (by omega) hy
    rcases rng3 z (lo := 1) (hi := 3) (by omega) (by omega) with ⟨a, a1, a3, rfl⟩ | ⟨hr, hc1⟩ | ⟨hr, hc1, hc2, hc3⟩
    · have rt : rng (nI a) 1 3 = true := by rw [rng_n (by omega) (by omega) (by omega)]; simp; omega
      by_cases hf : np < 20
      · obtain ⟨N', c1, c2, c3⟩ := cS_addPerson (d + 36) (o := 43) (Or.inl rfl) (g, X, T, K, M, dd) R W hf (show k < 9 by omega) (show c < 30 by omega) (nI a)
        have c1' : call PGM (d + 39) yS_addPerson [.ref 43, .int (nI k), .int (nI c), .int (nI a)] (heapOf g X N T K M dd) = some (some (.int (nI np)), heapOf g X N' T K M dd) := c1
        refine op_ns (nI np) N' (pn1 (M.1 0) np (nI k) (nI c) (nI a)) h ?_ ?_ (iS_up c2 (WF_person W hf ⟨k1, k7⟩ hc ⟨a1, a3⟩) (lawM_congr L (pn1_fr (by omega) (by omega)) (fun j hj => pn1_fr (by omega) (by omega))) (by rw [c3.2]; exact D)) (c3.1.trans wo5)
        · rw [cB, hx, hy, eB_person_15, e1, c1']
          simp (disch := omega) only [l0, l1, l2, l3, l4, l5, l6, l7, l8, l9, l10, l11, l12, l13, l14, l15, l16, l17, l18, l19, l20, l21, l22, l23, l24, l25, l26, l27, l28, l29, l30, l31, l40, l48, l52, l57, l60, l65, l97, l99, l100, l102, l119, l122, l179, l197, l200, l201, l237, l436, l437, pk_mul, nI_add, inb_nI, nclamp, dlt, dle, deq, bif_t, bif_f, bif_nt, bif_nf, aft0, aft1, decide_true, decide_false, Bool.not_true, Bool.not_false, cond_true, cond_false, Nat.add_sub_cancel, Nat.add_one_sub_one, ou9, mo1, nI_MO, OU_lt, OU_ge, Nat.not_lt_zero, Bool.or_false, Bool.or_true, Bool.true_or, Bool.false_or, Bool.and_true, Bool.and_false, Bool.true_and, Bool.false_and, bI_0n, bI_1n, Bool.not_not]
          rw [eB_person_55]
        · rw [hM_eq, cM, hx, hy, rt, eM_person_29, W.1.2.1.1]
          simp (disch := omega) only [l0, l1, l2, l3, l4, l5, l6, l7, l8, l9, l10, l11, l12, l13, l14, l15, l16, l17, l18, l19, l20, l21, l22, l23, l24, l25, l26, l27, l28, l29, l30, l31, l40, l48, l52, l57, l60, l65, l97, l99, l100, l102, l119, l122, l179, l197, l200, l201, l237, l436, l437, pk_mul, nI_add, inb_nI, nclamp, dlt, dle, deq, bif_t, bif_f, bif_nt, bif_nf, aft0, aft1, decide_true, decide_false, Bool.not_true, Bool.not_false, cond_true, cond_false, Nat.add_sub_cancel, Nat.add_one_sub_one, ou9, mo1, nI_MO, OU_lt, OU_ge, Nat.not_lt_zero, Bool.or_false, Bool.or_true, Bool.true_or, Bool.false_or, Bool.and_true, Bool.and_false, Bool.true_and, Bool.false_and, bI_0n, bI_1n, Bool.not_not]
          rw [eM_person_69]
          simp (disch := omega) only [l0, l1, l2, l3, l4, l5, l6, l7, l8, l9, l10, l11, l12, l13, l14, l15, l16, l17, l18, l19, l20, l21, l22, l23, l24, l25, l26, l27, l28, l29, l30, l31, l40, l48, l52, l57, l60, l65, l97, l99, l100, l102, l119, l122, l179, l197, l200, l201, l237, l436, l437, pk_mul, nI_add, inb_nI, nclamp, dlt, dle, deq, bif_t, bif_f, bif_nt, bif_nf, aft0, aft1, decide_true, decide_false, Bool.not_true, Bool.not_false, cond_true, cond_false, Nat.add_sub_cancel, Nat.add_one_sub_one, ou9, mo1, nI_MO, OU_lt, OU_ge, Nat.not_lt_zero, Bool.or_false, Bool.or_true, Bool.true_or, Bool.false_or, Bool.and_true, Bool.and_false, Bool.true_and, Bool.false_and, bI_0n, bI_1n, Bool.not_not, mA_s, mA_mA]
          rw [eM_person_79]
          simp (disch := omega) only [l0, l1, l2, l3, l4, l5, l6, l7, l8, l9, l10, l11, l12, l13, l14, l15, l16, l17, l18, l19, l20, l21, l22, l23, l24, l25, l26, l27, l28, l29, l30, l31, l40, l48, l52, l57, l60, l65, l97, l99, l100, l102, l119, l122, l179, l197, l200, l201, l237, l436, l437, pk_mul, nI_add, inb_nI, nclamp, dlt, dle, deq, bif_t, bif_f, bif_nt, bif_nf, aft0, aft1, decide_true, decide_false, Bool.not_true, Bool.not_false, cond_true, cond_false, Nat.add_sub_cancel, Nat.add_one_sub_one, ou9, mo1, nI_MO, OU_lt, OU_ge, Nat.not_lt_zero, Bool.or_false, Bool.or_true, Bool.true_or, Bool.false_or, Bool.and_true, Bool.and_false, Bool.true_and, Bool.false_and, bI_0n, bI_1n, Bool.not_not, mA_s, mA_mA]
          rw [eM_person_89]
          simp (disch := omega) only [l0, l1, l2, l3, l4, l5, l6, l7, l8, l9, l10, l11, l12, l13, l14, l15, l16, l17, l18, l19, l20, l21, l22, l23, l24, l25, l26, l27, l28, l29, l30, l31, l40, l48, l52, l57, l60, l65, l97, l99, l100, l102, l119, l122, l179, l197, l200, l201, l237, l436, l437, pk_mul, nI_add, inb_nI, nclamp, dlt, dle, deq, bif_t, bif_f, bif_nt, bif_nf, aft0, aft1, decide_true, decide_false, Bool.not_true, Bool.not_false, cond_true, cond_false, Nat.add_sub_cancel, Nat.add_one_sub_one, ou9, mo1, nI_MO, OU_lt, OU_ge, Nat.not_lt_zero, Bool.or_false, Bool.or_true, Bool.true_or, Bool.false_or, Bool.and_true, Bool.and_false, Bool.true_and, Bool.false_and, bI_0n, bI_1n, Bool.not_not, mA_s, mA_mA]
          have e2 : (mA M 0 (upd (upd (upd (upd (M.1 0) (99 + 4 * np) (nI k)) (99 + 4 * np + 1) (nI c)) (99 + 4 * np + 2) (nI a)) (99 + 4 * np + 3) (nI 0))).1 0 1 = nI np := by
            rw [mA_s, upd_ne (by omega), upd_ne (by omega), upd_ne (by omega), upd_ne (by omega)]
            exact W.1.2.1.1
          rw [eM_person_99, e2, mA_s, mA_mA, nI_1, eM_person_109, mA_s, upd_eq, l1, nI_sub (by omega)]
          rfl
      · have en : np = 20 := by omega
        subst en
        refine op_ro (-2) h ?_ ?_
        · rw [cB, hx, hy, eB_person_15, e1]
          simp (disch := omega) only [l0, l1, l2, l3, l4, l5, l6, l7, l8, l9, l10, l11, l12, l13, l14, l15, l16, l17, l18, l19, l20, l21, l22, l23, l24, l25, l26, l27, l28, l29, l30, l31, l40, l48, l52, l57, l60, l65, l97, l99, l100, l102, l119, l122, l179, l197, l200, l201, l237, l436, l437, pk_mul, nI_add, inb_nI, nclamp, dlt, dle, deq, bif_t, bif_f, bif_nt, bif_nf, aft0, aft1, decide_true, decide_false, Bool.not_true, Bool.not_false, cond_true, cond_false, Nat.add_sub_cancel, Nat.add_one_sub_one, ou9, mo1, nI_MO, OU_lt, OU_ge, Nat.not_lt_zero, Bool.or_false, Bool.or_true, Bool.true_or, Bool.false_or, Bool.and_true, Bool.and_false, Bool.true_and, Bool.false_and, bI_0n, bI_1n, Bool.not_not]
        · rw [hM_eq, cM, hx, hy, rt, eM_person_29, W.1.2.1.1]
          simp (disch := omega) only [l0, l1, l2, l3, l4, l5, l6, l7, l8, l9, l10, l11, l12, l13, l14, l15, l16, l17, l18, l19, l20, l21, l22, l23, l24, l25, l26, l27, l28, l29, l30, l31, l40, l48, l52, l57, l60, l65, l97, l99, l100, l102, l119, l122, l179, l197, l200, l201, l237, l436, l437, pk_mul, nI_add, inb_nI, nclamp, dlt, dle, deq, bif_t, bif_f, bif_nt, bif_nf, aft0, aft1, decide_true, decide_false, Bool.not_true, Bool.not_false, cond_true, cond_false, Nat.add_sub_cancel, Nat.add_one_sub_one, ou9, mo1, nI_MO, OU_lt, OU_ge, Nat.not_lt_zero, Bool.or_false, Bool.or_true, Bool.true_or, Bool.false_or, Bool.and_true, Bool.and_false, Bool.true_and, Bool.false_and, bI_0n, bI_1n, Bool.not_not]
    · refine op_ro MO h ?_ ?_
      · rw [cB, hx, hy, eB_person_15]
        simp (disch := omega) only [l0, l1, l2, l3, l4, l5, l6, l7, l8, l9, l10, l11, l12, l13, l14, l15, l16, l17, l18, l19, l20, l21, l22, l23, l24, l25, l26, l27, l28, l29, l30, l31, l40, l48, l52, l57, l60, l65, l97, l99, l100, l102, l119, l122, l179, l197, l200, l201, l237, l436, l437, pk_mul, nI_add, inb_nI, nclamp, dlt, dle, deq, bif_t, bif_f, bif_nt, bif_nf, aft0, aft1, decide_true, decide_false, Bool.not_true, Bool.not_false, cond_true, cond_false, Nat.add_sub_cancel, Nat.add_one_sub_one, ou9, mo1, nI_MO, OU_lt, OU_ge, Nat.not_lt_zero, Bool.or_false, Bool.or_true, Bool.true_or, Bool.false_or, Bool.and_true, Bool.and_false, Bool.true_and, Bool.false_and, bI_0n, bI_1n, Bool.not_not, hc1]
      · rw [hM_eq, cM, hx, hy, hr, eM_person_29]
        rfl
    · refine op_ro MO h ?_ ?_
      · rw [cB, hx, hy, eB_person_15]
        simp (disch := omega) only [l0, l1, l2, l3, l4, l5, l6, l7, l8, l9, l10, l11, l12, l13, l14, l15, l16, l17, l18, l19, l20, l21, l22, l23, l24, l25, l26, l27, l28, l29, l30, l31, l40, l48, l52, l57, l60, l65, l97, l99, l100, l102, l119, l122, l179, l197, l200, l201, l237, l436, l437, pk_mul, nI_add, inb_nI, nclamp, dlt, dle, deq, bif_t, bif_f, bif_nt, bif_nf, aft0, aft1, decide_true, decide_false, Bool.not_true, Bool.not_false, cond_true, cond_false, Nat.add_sub_cancel, Nat.add_one_sub_one, ou9, mo1, nI_MO, OU_lt, OU_ge, Nat.not_lt_zero, Bool.or_false, Bool.or_true, Bool.true_or, Bool.false_or, Bool.and_true, Bool.and_false, Bool.true_and, Bool.false_and, bI_0n, bI_1n, Bool.not_not, hc1, hc3]
      · rw [hM_eq, cM, hx, hy, hr, eM_person_29]
        rfl
-- beasts
def bn1 (s : Nat → Int32) (nb : Nat) (x a : Int32) : Nat → Int32 := upd (upd (upd (upd s (179 + 3 * nb) x) (179 + 3 * nb + 1) a) (179 + 3 * nb + 2) (nI 0)) 2 (nI (nb + 1))
theorem bn1_fr {s : Nat → Int32} {nb : Nat} {x a : Int32} {j : Nat} (h1 : j ≠ 2) (h : j < 179 + 3 * nb ∨ 179 + 3 * nb + 3 ≤ j) : bn1 s nb x a j = s j := by
  rw [bn1, upd_ne h1, upd_ne (by omega), upd_ne (by omega), upd_ne (by omega)]
theorem bn1_0 (s : Nat → Int32) (nb : Nat) (x a : Int32) : bn1 s nb x a (179 + 3 * nb) = x := by
  rw [bn1, upd_ne (by omega), upd_ne (by omega), upd_ne (by omega), upd_eq]
theorem bn1_1 (s : Nat → Int32) (nb : Nat) (x a : Int32) : bn1 s nb x a (179 + 3 * nb + 1) = a := by
  rw [bn1, upd_ne (by omega), upd_ne (by omega), upd_eq]
theorem bn1_2 (s : Nat → Int32) (nb : Nat) (x a : Int32) : bn1 s nb x a (179 + 3 * nb + 2) = nI 0 := by
  rw [bn1, upd_ne (by omega), upd_eq]
theorem bn1_n (s : Nat → Int32) (nb : Nat) (x a : Int32) : bn1 s nb x a 2 = nI (nb + 1) := by rw [bn1, upd_eq]
theorem op_beast (d i : Nat) (g : GT) (X : XS) (N T K : SS) (M : MS) (dd : AH) (h : INV i X N K M dd) (y z : Int32) : OPR d i g X N T K M dd yB_beast yM_beast [.int y, .int z] := by
  have h' := h
  obtain ⟨⟨⟨nc, np, nb, n, C, R, W, L, D⟩, wo5⟩, _⟩ := h'
  have hnb : nb ≤ 6 := W.1.2.2.1.2
  have hnp := W.1.2.1.2
  have hnc := W.1.1.2.2
  have e0 : N.2.1 0 = nI nc := (R.1 0 (by omega)).trans W.1.1.1
  have e2 : N.2.1 2 = nI nb := (R.1 2 (by omega)).trans W.1.2.2.1.1
  have cB : call PGM (d + 40) yB_beast [.ref 12, .int y, .int z] (heapOf g X N T K M dd) = sem PGM (d + 39) yB_beast (8, [some (.ref 12), some (.int y), some (.int z)], [.int (bI (hasB y nc))], heapOf g X N T K M dd) := by
    rw [kB_beast, eB_beast_0, cN_hasCell (d + 38) g X T K M dd y e0, aft1]
  have cM : ∀ Z : ZT, call PGM (d + 40) yM_beast [.ref 91, .int y, .int z] (hM Z M) = bif hasB y nc then sem PGM (d + 39) yM_beast (17, [some (.ref 91), some (.int y), some (.int z), none], [.int (bI (rng z 1 4))], hM Z M) else some (some (.int MO), hM Z M) := by
    intro Z
    rw [kM_beast, eM_beast_0, cM_isCell (d + 37) Z M y hnc W.1.1.1, aft1, eM_beast_5, bI_0, w1, w4, cM_rng (d + 38), aft1]
    cases hasB y nc <;> rfl
  cases hy : hasB y nc with
  | false =>
    refine op_ro MO h ?_ ?_
    · rw [cB, hy, eB_beast_8]
      rfl
    · rw [hM_eq, cM, hy]
      rfl
  | true =>
    obtain ⟨c, hc, rfl⟩ := has_t (by omega) hy
    rcases rng3 z (lo := 1) (hi := 4) (by omega) (by omega) with ⟨a, a1, a4, rfl⟩ | ⟨hr, hc1⟩ | ⟨hr, hc1, hc2, hc3⟩
    · have rt : rng (nI a) 1 4 = true := by rw [rng_n (by omega) (by omega) (by omega)]; simp; omega
      by_cases hf : nb < 6
      · have fr : ∀ j, j ≠ 2 → (j < 179 + 3 * nb ∨ 179 + 3 * nb + 3 ≤ j) → bn1 (M.1 0) nb (nI c) (nI a) j = M.1 0 j := fun j h1 h => bn1_fr h1 h
        have b6 : decide (nb < 6) = true := by simp [hf]
        have c1 : call PGM (d + 39) yS_addBeast [.ref 43, .int (nI c), .int (nI a)] (heapOf g X N T K M dd) = some (some (.int (nI nb)), heapOf g X (sA (sA (sA (sV N 2 (nI (nb + 1))) 9 (upd (N.1 9) nb (nI c))) 10 (upd (N.1 10) nb (nI a))) 11 (upd (N.1 11) nb 0)) T K M dd) := by
          have ho : (43 : Nat) = 43 ∨ (43 : Nat) = 59 := Or.inl rfl
          rw [hN_eq, kS_addBeast, eS_addBeast_0 (d + 38) 43 ho, e2, nI_1, eS_addBeast_15 (d + 38) 43 ho, inb_nI (by omega), b6, cond_true, nclamp (by omega), eS_addBeast_22 (d + 38) 43 ho, inb_nI (by omega), b6, cond_true, nclamp (by omega), eS_addBeast_29 (d + 38) 43 ho, inb_nI (by omega), b6, cond_true, nclamp (by omega)]
          rfl
        have R2 : RS (sA (sA (sA (sV N 2 (nI (nb + 1))) 9 (upd (N.1 9) nb (nI c))) 10 (upd (N.1 10) nb (nI a))) 11 (upd (N.1 11) nb 0)) (bn1 (M.1 0) nb (nI c) (nI a)) np (nb + 1) := by
          obtain ⟨hV, hC, hP, hB, hR, hN⟩ := R
          refine ⟨fun j hj => ?_, fun e he => ?_, fun q hq => ?_, fun b hb => ?_, fun j hj => ?_, fun e he => ?_⟩
          · show (sV N 2 (nI (nb + 1))).2.1 j = _
            by_cases ej : j = 2
            · subst ej; rw [sV_s, bn1_n]
            · rw [sV_n ej, fr j ej (by omega)]; exact hV j hj
          · rw [sA_n (by omega), sA_n (by omega), sA_n (by omega), sV_1, sA_n (by omega), sA_n (by omega), sA_n (by omega), sV_1, sA_n (by omega), sA_n (by omega), sA_n (by omega), sV_1, fr _ (by omega) (by omega), fr _ (by omega) (by omega), fr _ (by omega) (by omega)]
            exact hC e he
          · rw [sA_n (by omega), sA_n (by omega), sA_n (by omega), sV_1, sA_n (by omega), sA_n (by omega), sA_n (by omega), sV_1, sA_n (by omega), sA_n (by omega), sA_n (by omega), sV_1, sA_n (by omega), sA_n (by omega), sA_n (by omega), sV_1, fr _ (by omega) (by omega), fr _ (by omega) (by omega), fr _ (by omega) (by omega), fr _ (by omega) (by omega)]
            exact hP q hq
          · have a9 : (sA (sA (sA (sV N 2 (nI (nb + 1))) 9 (upd (N.1 9) nb (nI c))) 10 (upd (N.1 10) nb (nI a))) 11 (upd (N.1 11) nb 0)).1 9 = upd (N.1 9) nb (nI c) := by rw [sA_n (by omega), sA_n (by omega), sA_s]
            have a10 : (sA (sA (sA (sV N 2 (nI (nb + 1))) 9 (upd (N.1 9) nb (nI c))) 10 (upd (N.1 10) nb (nI a))) 11 (upd (N.1 11) nb 0)).1 10 = upd (N.1 10) nb (nI a) := by rw [sA_n (by omega), sA_s]
            rw [a9, a10, sA_s]
            by_cases e : b = nb
            · subst e
              rw [upd_eq, upd_eq, upd_eq, bn1_0, bn1_1, bn1_2]
              exact ⟨rfl, rfl, rfl⟩
            · rw [upd_ne e, upd_ne e, upd_ne e, fr _ (by omega) (by omega), fr _ (by omega) (by omega), fr _ (by omega) (by omega)]
              exact hB b (by omega)
          · rw [sA_n (by omega), sA_n (by omega), sA_n (by omega), sV_1, fr _ (by omega) (by omega)]
            exact hR j hj
          · rw [sA_n (by omega), sA_n (by omega), sA_n (by omega), sV_1, sA_n (by omega), sA_n (by omega), sA_n (by omega), sV_1, crN_congr (fun q hq => fr _ (by omega) (by omega)), faN_congr (fun q hq => fr _ (by omega) (by omega)) (fun q hq => fr _ (by omega) (by omega))]
            exact hN e he
        have W2 : WF (bn1 (M.1 0) nb (nI c) (nI a)) nc np (nb + 1) (60 * i) (fun _ => 180 * i) := by
          obtain ⟨⟨x, b, c', t, f1, f2, f3⟩, gg, ii, j⟩ := W
          refine ⟨⟨?_, ?_, ⟨bn1_n _ _ _ _, by omega⟩, ?_, ?_, ?_, ?_⟩, fun e he => wfC_congr (gg e he) (fun q _ hq => fr q (by omega) (by omega)) he, fun p hp => wfP_congr (ii p hp) (fun q hq => fr _ (by omega) (by omega)), fun b hb => ?_⟩
          · rw [fr 0 (by omega) (by omega)]; exact x
          · rw [fr 1 (by omega) (by omega)]; exact b
          · rw [fr 3 (by omega) (by omega)]; exact t
          · rw [fr 5 (by omega) (by omega)]; exact f1
          · rw [fr 6 (by omega) (by omega)]; exact f2
          · rw [fr 7 (by omega) (by omega)]; exact f3
          · by_cases e : b = nb
            · subst e
              unfold wfB
              rw [bn1_0, bn1_1, bn1_2]
              exact ⟨Or.inr ⟨c, hc, rfl⟩, ⟨a, a1, a4, rfl⟩, Or.inl rfl⟩
            · exact wfB_congr (j b (by omega)) (fun q hq => fr _ (by omega) (by omega))
        refine op_ns (nI nb) _ (bn1 (M.1 0) nb (nI c) (nI a)) h (by
          rw [cB, hy, eB_beast_8, e2, c1]
          simp (disch := omega) only [l0, l1, l2, l3, l4, l5, l6, l7, l8, l9, l10, l11, l12, l13, l14, l15, l16, l17, l18, l19, l20, l21, l22, l23, l24, l25, l26, l27, l28, l29, l30, l31, l40, l48, l52, l57, l60, l65, l97, l99, l100, l102, l119, l122, l179, l197, l200, l201, l237, l436, l437, pk_mul, nI_add, inb_nI, nclamp, dlt, dle, deq, bif_t, bif_f, bif_nt, bif_nf, aft0, aft1, decide_true, decide_false, Bool.not_true, Bool.not_false, cond_true, cond_false, Nat.add_sub_cancel, Nat.add_one_sub_one, ou9, mo1, nI_MO, OU_lt, OU_ge, Nat.not_lt_zero, Bool.or_false, Bool.or_true, Bool.true_or, Bool.false_or, Bool.and_true, Bool.and_false, Bool.true_and, Bool.false_and, bI_0n, bI_1n, Bool.not_not]
          rw [eB_beast_47]
          ) ?_ (iS_up R2 W2 (lawM_congr L (bn1_fr (by omega) (by omega)) (fun j hj => bn1_fr (by omega) (by omega))) D) wo5
        rw [hM_eq, cM, hy, rt, cond_true, eM_beast_17, W.1.2.2.1.1]
        simp (disch := omega) only [l0, l1, l2, l3, l4, l5, l6, l7, l8, l9, l10, l11, l12, l13, l14, l15, l16, l17, l18, l19, l20, l21, l22, l23, l24, l25, l26, l27, l28, l29, l30, l31, l40, l48, l52, l57, l60, l65, l97, l99, l100, l102, l119, l122, l179, l197, l200, l201, l237, l436, l437, pk_mul, nI_add, inb_nI, nclamp, dlt, dle, deq, bif_t, bif_f, bif_nt, bif_nf, aft0, aft1, decide_true, decide_false, Bool.not_true, Bool.not_false, cond_true, cond_false, Nat.add_sub_cancel, Nat.add_one_sub_one, ou9, mo1, nI_MO, OU_lt, OU_ge, Nat.not_lt_zero, Bool.or_false, Bool.or_true, Bool.true_or, Bool.false_or, Bool.and_true, Bool.and_false, Bool.true_and, Bool.false_and, bI_0n, bI_1n, Bool.not_not]
        rw [eM_beast_56]
        simp (disch := omega) only [l0, l1, l2, l3, l4, l5, l6, l7, l8, l9, l10, l11, l12, l13, l14, l15, l16, l17, l18, l19, l20, l21, l22, l23, l24, l25, l26, l27, l28, l29, l30, l31, l40, l48, l52, l57, l60, l65, l97, l99, l100, l102, l119, l122, l179, l197, l200, l201, l237, l436, l437, pk_mul, nI_add, inb_nI, nclamp, dlt, dle, deq, bif_t, bif_f, bif_nt, bif_nf, aft0, aft1, decide_true, decide_false, Bool.not_true, Bool.not_false, cond_true, cond_false, Nat.add_sub_cancel, Nat.add_one_sub_one, ou9, mo1, nI_MO, OU_lt, OU_ge, Nat.not_lt_zero, Bool.or_false, Bool.or_true, Bool.true_or, Bool.false_or, Bool.and_true, Bool.and_false, Bool.true_and, Bool.false_and, bI_0n, bI_1n, Bool.not_not, mA_s, mA_mA]
        rw [eM_beast_65]
        simp (disch := omega) only [l0, l1, l2, l3, l4, l5, l6, l7, l8, l9, l10, l11, l12, l13, l14, l15, l16, l17, l18, l19, l20, l21, l22, l23, l24, l25, l26, l27, l28, l29, l30, l31, l40, l48, l52, l57, l60, l65, l97, l99, l100, l102, l119, l122, l179, l197, l200, l201, l237, l436, l437, pk_mul, nI_add, inb_nI, nclamp, dlt, dle, deq, bif_t, bif_f, bif_nt, bif_nf, aft0, aft1, decide_true, decide_false, Bool.not_true, Bool.not_false, cond_true, cond_false, Nat.add_sub_cancel, Nat.add_one_sub_one, ou9, mo1, nI_MO, OU_lt, OU_ge, Nat.not_lt_zero, Bool.or_false, Bool.or_true, Bool.true_or, Bool.false_or, Bool.and_true, Bool.and_false, Bool.true_and, Bool.false_and, bI_0n, bI_1n, Bool.not_not, mA_s, mA_mA]
        have e3 : (mA M 0 (upd (upd (upd (M.1 0) (179 + 3 * nb) (nI c)) (179 + 3 * nb + 1) (nI a)) (179 + 3 * nb + 2) (nI 0))).1 0 2 = nI nb := by
          rw [mA_s, upd_ne (by omega), upd_ne (by omega), upd_ne (by omega)]
          exact W.1.2.2.1.1
        rw [eM_beast_74, e3, mA_s, mA_mA, nI_1, eM_beast_84, mA_s, upd_eq, l1, nI_sub (by omega)]
        rfl
      · have en : nb = 6 := by omega
        subst en
        refine op_ro (-2) h ?_ ?_
        · rw [cB, hy, eB_beast_8, e2]
          simp (disch := omega) only [l0, l1, l2, l3, l4, l5, l6, l7, l8, l9, l10, l11, l12, l13, l14, l15, l16, l17, l18, l19, l20, l21, l22, l23, l24, l25, l26, l27, l28, l29, l30, l31, l40, l48, l52, l57, l60, l65, l97, l99, l100, l102, l119, l122, l179, l197, l200, l201, l237, l436, l437, pk_mul, nI_add, inb_nI, nclamp, dlt, dle, deq, bif_t, bif_f, bif_nt, bif_nf, aft0, aft1, decide_true, decide_false, Bool.not_true, Bool.not_false, cond_true, cond_false, Nat.add_sub_cancel, Nat.add_one_sub_one, ou9, mo1, nI_MO, OU_lt, OU_ge, Nat.not_lt_zero, Bool.or_false, Bool.or_true, Bool.true_or, Bool.false_or, Bool.and_true, Bool.and_false, Bool.true_and, Bool.false_and, bI_0n, bI_1n, Bool.not_not]
        · rw [hM_eq, cM, hy, rt, cond_true, eM_beast_17, W.1.2.2.1.1]
          simp (disch := omega) only [l0, l1, l2, l3, l4, l5, l6, l7, l8, l9, l10, l11, l12, l13, l14, l15, l16, l17, l18, l19, l20, l21, l22, l23, l24, l25, l26, l27, l28, l29, l30, l31, l40, l48, l52, l57, l60, l65, l97, l99, l100, l102, l119, l122, l179, l197, l200, l201, l237, l436, l437, pk_mul, nI_add, inb_nI, nclamp, dlt, dle, deq, bif_t, bif_f, bif_nt, bif_nf, aft0, aft1, decide_true, decide_false, Bool.not_true, Bool.not_false, cond_true, cond_false, Nat.add_sub_cancel, Nat.add_one_sub_one, ou9, mo1, nI_MO, OU_lt, OU_ge, Nat.not_lt_zero, Bool.or_false, Bool.or_true, Bool.true_or, Bool.false_or, Bool.and_true, Bool.and_false, Bool.true_and, Bool.false_and, bI_0n, bI_1n, Bool.not_not]
    · refine op_ro MO h ?_ ?_
      · rw [cB, hy, eB_beast_8]
        simp (disch := omega) only [l0, l1, l2, l3, l4, l5, l6, l7, l8, l9, l10, l11, l12, l13, l14, l15, l16, l17, l18, l19, l20, l21, l22, l23, l24, l25, l26, l27, l28, l29, l30, l31, l40, l48, l52, l57, l60, l65, l97, l99, l100, l102, l119, l122, l179, l197, l200, l201, l237, l436, l437, pk_mul, nI_add, inb_nI, nclamp, dlt, dle, deq, bif_t, bif_f, bif_nt, bif_nf, aft0, aft1, decide_true, decide_false, Bool.not_true, Bool.not_false, cond_true, cond_false, Nat.add_sub_cancel, Nat.add_one_sub_one, ou9, mo1, nI_MO, OU_lt, OU_ge, Nat.not_lt_zero, Bool.or_false, Bool.or_true, Bool.true_or, Bool.false_or, Bool.and_true, Bool.and_false, Bool.true_and, Bool.false_and, bI_0n, bI_1n, Bool.not_not, hc1]
      · rw [hM_eq, cM, hy, hr, cond_true, eM_beast_17]
        rfl
    · refine op_ro MO h ?_ ?_
      · rw [cB, hy, eB_beast_8]
        simp (disch := omega) only [l0, l1, l2, l3, l4, l5, l6, l7, l8, l9, l10, l11, l12, l13, l14, l15, l16, l17, l18, l19, l20, l21, l22, l23, l24, l25, l26, l27, l28, l29, l30, l31, l40, l48, l52, l57, l60, l65, l97, l99, l100, l102, l119, l122, l179, l197, l200, l201, l237, l436, l437, pk_mul, nI_add, inb_nI, nclamp, dlt, dle, deq, bif_t, bif_f, bif_nt, bif_nf, aft0, aft1, decide_true, decide_false, Bool.not_true, Bool.not_false, cond_true, cond_false, Nat.add_sub_cancel, Nat.add_one_sub_one, ou9, mo1, nI_MO, OU_lt, OU_ge, Nat.not_lt_zero, Bool.or_false, Bool.or_true, Bool.true_or, Bool.false_or, Bool.and_true, Bool.and_false, Bool.true_and, Bool.false_and, bI_0n, bI_1n, Bool.not_not, hc1, hc3]
      · rw [hM_eq, cM, hy, hr, cond_true, eM_beast_17]
        rfl
theorem op_moves (d i : Nat) (g : GT) (X : XS) (N T K : SS) (M : MS) (dd : AH) (h : INV i X N K M dd) (x y z : Int32) : OPR d i g X N T K M dd yB_moves yM_moves [.int x, .int y, .int z] := by
  have h' := h
  obtain ⟨⟨⟨nc, np, nb, n, C, R, W, L, D⟩, wo5⟩, _⟩ := h'
  have hnb : nb ≤ 6 := W.1.2.2.1.2
  have hnp := W.1.2.1.2
  have hnc := W.1.1.2.2
  have e0 : N.2.1 0 = nI nc := (R.1 0 (by omega)).trans W.1.1.1
  have e1 : N.2.1 1 = nI np := (R.1 1 (by omega)).trans W.1.2.1.1
  have cB : call PGM (d + 40) yB_moves [.ref 12, .int x, .int y, .int z] (heapOf g X N T K M dd) = bif hasB x np && hasB y nc then sem PGM (d + 39) yB_moves (26, [some (.ref 12), some (.int x), some (.int y), some (.int z), none], [.int (bI (rng z 1 7))], heapOf g X N T K M dd) else some (some (.int MO), heapOf g X N T K M dd) := by
    rw [kB_moves, eB_moves_0, cN_hasPerson (d + 38) g X T K M dd x e1, aft1, eB_moves_8, bI_0, cN_hasCell (d + 38) g X T K M dd y e0, aft1, eB_moves_19, bI_0, isB_PersonKind (d + 38), aft1]
    cases hasB x np <;> cases hasB y nc <;> rfl
  have cM : ∀ Z : ZT, call PGM (d + 40) yM_moves [.ref 91, .int x, .int y, .int z] (hM Z M) = bif hasB x np && hasB y nc then sem PGM (d + 39) yM_moves (25, [some (.ref 91), some (.int x), some (.int y), some (.int z), none], [.int (bI (rng z 1 7))], hM Z M) else some (some (.int MO), hM Z M) := by
    intro Z
    rw [kM_moves, eM_moves_0, cM_isPerson (d + 37) Z M x hnp W.1.2.1.1, aft1, eM_moves_5, bI_0, cM_isCell (d + 37) Z M y hnc W.1.1.1, aft1, eM_moves_13, bI_0, w1, w7, cM_rng (d + 38), aft1]
    cases hasB x np <;> cases hasB y nc <;> rfl
  cases hxy : hasB x np && hasB y nc with
  | false =>
    refine op_ro MO h ?_ ?_
    · rw [cB, hxy]
      rfl
    · rw [hM_eq, cM, hxy]
      rfl
  | true =>
    rw [Bool.and_eq_true] at hxy
    obtain ⟨hx, hy⟩ := hxy
    obtain ⟨p, hp, rfl⟩ := has_t (by omega) hx
    obtain ⟨c, hc, rfl⟩ := has_t (by omega) hy
    cases hr : rng z 1 7 with
    | false =>
      refine op_ro MO h ?_ ?_
      · rw [cB, hx, hy, hr, Bool.and_self, cond_true, eB_moves_26]
        rfl
      · rw [hM_eq, cM, hx, hy, hr, Bool.and_self, cond_true, eM_moves_25]
        rfl
    | true =>
      obtain ⟨k, k1, k7, rfl⟩ := rng_t (by omega) (by omega) hr
      obtain ⟨p5, p6, p7, p8⟩ := R.2.2.1 p hp
      obtain ⟨kk, kk1, kk7, hkk⟩ := WF_upk W hp
      obtain ⟨N1, s1, s2, s3⟩ := cS_seat (d + 37) (o := 43) (Or.inl rfl) (g, X, T, K, M, dd) (x := nI c) R hp hnp (show kk < 9 by omega) hkk (okQ_30 (W.2.2.1 p hp).2.1 hnc) (Or.inr ⟨c, by omega, rfl⟩)
      obtain ⟨N2, t1, t2, t3⟩ := cS_become (d + 37) (o := 43) (Or.inl rfl) (g, X, T, K, M, dd) (k' := k) s2 hp hnp (show kk < 9 by omega) (by rw [upd_ne (by omega)]; exact hkk) (by rw [upd_eq]; exact Or.inr ⟨c, by omega, rfl⟩) (by omega)
      have s1' : call PGM (d + 39) yS_seat [.ref 43, .int (nI p), .int (nI c)] (heapOf g X N T K M dd) = some (none, heapOf g X N1 T K M dd) := s1
      have t1' : call PGM (d + 39) yS_become [.ref 43, .int (nI p), .int (nI k)] (heapOf g X N1 T K M dd) = some (none, heapOf g X N2 T K M dd) := t1
      have cm : upd (upd (M.1 0) (99 + 4 * p + 1) (nI c)) (99 + 4 * p) (nI k) = upd (upd (M.1 0) (99 + 4 * p) (nI k)) (99 + 4 * p + 1) (nI c) := by
        funext j
        by_cases j0 : j = 99 + 4 * p
        · subst j0
          rw [upd_eq, upd_ne (by omega), upd_eq]
        · by_cases j1 : j = 99 + 4 * p + 1
          · subst j1
            rw [upd_ne (by omega), upd_eq, upd_eq]
          · rw [upd_ne j0, upd_ne j1, upd_ne j1, upd_ne j0]
      refine op_ns (N.1 5 p) N2 (upd (upd (M.1 0) (99 + 4 * p + 1) (nI c)) (99 + 4 * p) (nI k)) h ?_ ?_ (iS_up t2 (WF_kind (WF_place W (by omega) (Or.inr ⟨c, hc, rfl⟩)) (by omega) ⟨k1, k7⟩) (lawM_congr L (by rw [upd_ne (by omega), upd_ne (by omega)]) (fun j hj => by rw [upd_ne (by omega), upd_ne (by omega)])) (by rw [t3.2, s3.2]; exact D)) ((t3.1.trans s3.1).trans wo5)
      · rw [cB, hx, hy, hr, Bool.and_self, cond_true, eB_moves_26, s1', aft0, eB_moves_51, t1', aft0, eB_moves_60]
        simp (disch := omega) only [l0, l1, l2, l3, l4, l5, l6, l7, l8, l9, l10, l11, l12, l13, l14, l15, l16, l17, l18, l19, l20, l21, l22, l23, l24, l25, l26, l27, l28, l29, l30, l31, l40, l48, l52, l57, l60, l65, l97, l99, l100, l102, l119, l122, l179, l197, l200, l201, l237, l436, l437, pk_mul, nI_add, inb_nI, nclamp, dlt, dle, deq, bif_t, bif_f, bif_nt, bif_nf, aft0, aft1, decide_true, decide_false, Bool.not_true, Bool.not_false, cond_true, cond_false, Nat.add_sub_cancel, Nat.add_one_sub_one, ou9, mo1, nI_MO, OU_lt, OU_ge, Nat.not_lt_zero, Bool.or_false, Bool.or_true, Bool.true_or, Bool.false_or, Bool.and_true, Bool.and_false, Bool.true_and, Bool.false_and, bI_0n, bI_1n, Bool.not_not]
      · rw [hM_eq, cM, hx, hy, hr, Bool.and_self, cond_true, eM_moves_25, cM_kindOf (d + 38) _ M p (by omega), aft1, eM_moves_35, p5]
        simp (disch := omega) only [l0, l1, l2, l3, l4, l5, l6, l7, l8, l9, l10, l11, l12, l13, l14, l15, l16, l17, l18, l19, l20, l21, l22, l23, l24, l25, l26, l27, l28, l29, l30, l31, l40, l48, l52, l57, l60, l65, l97, l99, l100, l102, l119, l122, l179, l197, l200, l201, l237, l436, l437, pk_mul, nI_add, inb_nI, nclamp, dlt, dle, deq, bif_t, bif_f, bif_nt, bif_nf, aft0, aft1, decide_true, decide_false, Bool.not_true, Bool.not_false, cond_true, cond_false, Nat.add_sub_cancel, Nat.add_one_sub_one, ou9, mo1, nI_MO, OU_lt, OU_ge, Nat.not_lt_zero, Bool.or_false, Bool.or_true, Bool.true_or, Bool.false_or, Bool.and_true, Bool.and_false, Bool.true_and, Bool.false_and, bI_0n, bI_1n, Bool.not_not]
        rw [eM_moves_49]
        simp (disch := omega) only [l0, l1, l2, l3, l4, l5, l6, l7, l8, l9, l10, l11, l12, l13, l14, l15, l16, l17, l18, l19, l20, l21, l22, l23, l24, l25, l26, l27, l28, l29, l30, l31, l40, l48, l52, l57, l60, l65, l97, l99, l100, l102, l119, l122, l179, l197, l200, l201, l237, l436, l437, pk_mul, nI_add, inb_nI, nclamp, dlt, dle, deq, bif_t, bif_f, bif_nt, bif_nf, aft0, aft1, decide_true, decide_false, Bool.not_true, Bool.not_false, cond_true, cond_false, Nat.add_sub_cancel, Nat.add_one_sub_one, ou9, mo1, nI_MO, OU_lt, OU_ge, Nat.not_lt_zero, Bool.or_false, Bool.or_true, Bool.true_or, Bool.false_or, Bool.and_true, Bool.and_false, Bool.true_and, Bool.false_and, bI_0n, bI_1n, Bool.not_not, mA_s, mA_mA]
        rw [cm]
        rfl
