/-! PEOPLE of a TENTH; the TENTH. -/
theorem walkF_fr {np p j : Nat} (h : j ≠ 99 + 4 * p + 1) : ∀ k (s : Nat → Int32), walkF np p k s j = s j
  | 0, s => rfl
  | k + 1, s => by
    rw [walkF]
    cases decide (s (99 + 4 * p + 1) + 1 = s 0) with
    | true => rw [cond_true, upd_ne h]
    | false =>
      cases freeB s np (s (99 + 4 * p + 1) + 1).toNatClampNeg with
      | true => rw [cond_false, cond_true, walkF_fr h k, upd_ne h]
      | false => rfl
theorem runF_fr {s : Nat → Int32} {np nb p j : Nat} (h0 : j ≠ 99 + 4 * p) (h : j ≠ 99 + 4 * p + 1) : runF s np nb p j = s j := by
  unfold runF
  cases under (s (99 + 4 * p)) (nI 3) with
  | true => rw [cond_true, upd_ne h0]
  | false => exact walkF_fr h _ s
theorem doA_fr {s : Nat → Int32} {np nb p j : Nat} {act : Int32} (h0 : j ≠ 99 + 4 * p) (h : j ≠ 99 + 4 * p + 1) : doA s np nb p act j = s j := by
  unfold doA
  cases decide (act = nI 2) && decide (s (9 + 3 * (s (99 + 4 * p + 1)).toNatClampNeg + 2) = nI 1) with
  | true => rw [cond_true, upd_ne h]
  | false =>
    cases decide (act = nI 0) || decide (act = nI 2) with
    | true => exact runF_fr h0 h
    | false =>
      cases decide (act = nI 3) && !under (s (99 + 4 * p)) (nI 3) with
      | true => rw [cond_false, cond_false, cond_true, upd_ne h0]
      | false => rfl
theorem clM_congr {s s' : Nat → Int32} {k : Nat} {c : CL} (h : clM s k c) (e : ∀ j, 197 ≤ j → s' j = s j) : clM s' k c := by
  unfold clM
  rw [e _ (by omega), e _ (by omega), e _ (by omega), e _ (by omega), e _ (by omega)]
  obtain ⟨a1, a2, a3, a4, a5, a6, a7, a8, a9, a10⟩ := h
  exact ⟨a1, a2, a3, a4, a5, a6, a7, a8, fun j hj => (e _ (by omega)).trans (a9 j hj), a10⟩
theorem lawM_congr {s s' : Nat → Int32} {n : Nat} {C : Nat → CL} (h : lawM s n C) (e8 : s' 8 = s 8) (e : ∀ j, 197 ≤ j → s' j = s j) : lawM s' n C :=
  ⟨h.1, e8.trans h.2.1, fun k hk => clM_congr (h.2.2 k hk) e⟩
def ppl1 (np nb n : Nat) (C : Nat → CL) (wo : Int32) (s : Nat → Int32) (p : Nat) : Nat → Int32 := bif decide (s (99 + 4 * p + 1) < nI 0) then s else doF s np nb n C wo p
def pplS (np nb n : Nat) (C : Nat → CL) (wo : Int32) (s : Nat → Int32) : Nat → Nat → Int32
  | 0 => s
  | p + 1 => ppl1 np nb n C wo (pplS np nb n C wo s p) p
theorem ppl1_fr {np nb n : Nat} {C : Nat → CL} {wo : Int32} {s : Nat → Int32} {p j : Nat} (h0 : j ≠ 99 + 4 * p) (h : j ≠ 99 + 4 * p + 1) : ppl1 np nb n C wo s p j = s j := by
  unfold ppl1
  cases decide (s (99 + 4 * p + 1) < nI 0) with
  | true => rfl
  | false => exact doA_fr h0 h
theorem pplS_fr {np nb n : Nat} {C : Nat → CL} {wo : Int32} {s : Nat → Int32} {j : Nat} (h : j < 99 ∨ 179 ≤ j) : ∀ p, p ≤ 20 → pplS np nb n C wo s p j = s j
  | 0, _ => rfl
  | p + 1, hp => by rw [pplS, ppl1_fr (by omega) (by omega), pplS_fr h p (by omega)]
theorem WF_ppl1 {np nb n nc T : Nat} {B : Nat → Nat} {C : Nat → CL} {wo : Int32} {s : Nat → Int32} {p : Nat} (h : WF s nc np nb T B) (hp : p < np) : WF (ppl1 np nb n C wo s p) nc np nb T B := by
  have hnp := h.1.2.1.2
  have hnc := h.1.1.2.2
  unfold ppl1
  rcases (h.2.2.1 p hp).2.1 with ho | ⟨c, hc, ho⟩
  · rw [ho, OU_lt]
    exact h
  · have e : decide (s (99 + 4 * p + 1) < nI 0) = false := by rw [ho, dlt (by omega) (by omega)]; simp
    rw [e, cond_false]
    exact WF_doA h (by omega) hc ho
theorem WF_pplS {np nb n nc T : Nat} {B : Nat → Nat} {C : Nat → CL} {wo : Int32} {s : Nat → Int32} (h : WF s nc np nb T B) : ∀ p, p ≤ np → WF (pplS np nb n C wo s p) nc np nb T B
  | 0, _ => h
  | p + 1, hp => WF_ppl1 (WF_pplS h p (by omega)) (by omega)
theorem mG_people (d : Nat) (Z : ZT) (M : MS) (nc np nb T n : Nat) (B : Nat → Nat) (C : Nat → CL) (h : WF (M.1 0) nc np nb T B) (hl : lawM (M.1 0) n C) : ∀ k p, p + k = np → ∀ q, ∃ q',
    sem PGM (d + 7) yM_goes (59, [some (.ref 91), some (.int (nI p))], [], hM Z (mQ M q (pplS np nb n C (M.2 8) (M.1 0) p))) = sem PGM (d + 7) yM_goes (59, [some (.ref 91), some (.int (nI np))], [], hM Z (mQ M q' (pplS np nb n C (M.2 8) (M.1 0) np))) := by
  have hnb : nb ≤ 6 := h.1.2.2.1.2
  have h2 := h.1.2.2.1.1
  have h1 := h.1.2.1.1
  have hnp := h.1.2.1.2
  have h0 := h.1.1.1
  have hnc := h.1.1.2.2
  intro k
  induction k with
  | zero =>
    intro p hp q
    refine ⟨q, ?_⟩
    rw [show p = np by omega]
  | succ k ih =>
    intro p hp q
    have ih' := fun q => ih (p + 1) (by omega) q
    have W := WF_pplS (n := n) (C := C) (wo := M.2 8) h p (by omega)
    have fr : ∀ j, (j < 99 ∨ 179 ≤ j) → pplS np nb n C (M.2 8) (M.1 0) p j = M.1 0 j := fun j hj => pplS_fr hj p (by omega)
    rw [eM_goes_59, mQ_0, fr 1 (by omega), h1]
    simp (disch := omega) only [l0, l1, l2, l3, l4, l5, l6, l7, l8, l9, l10, l11, l12, l13, l14, l15, l16, l17, l18, l19, l20, l21, l22, l23, l24, l25, l26, l27, l28, l29, l30, l31, l40, l48, l52, l57, l60, l65, l97, l99, l100, l102, l119, l122, l179, l197, l200, l201, l237, l436, l437, pk_mul, nI_add, inb_nI, nclamp, dlt, dle, deq, bif_t, bif_f, bif_nt, bif_nf, aft0, aft1, decide_true, decide_false, Bool.not_true, Bool.not_false, cond_true, cond_false, Nat.add_sub_cancel, Nat.add_one_sub_one, ou9, mo1, nI_MO, OU_lt, OU_ge, Nat.not_lt_zero, Bool.or_false, Bool.or_true, Bool.true_or, Bool.false_or, Bool.and_true, Bool.and_false, Bool.true_and, Bool.false_and, bI_0n, bI_1n, Bool.not_not]
    rw [cM_whereIs (d + 6) Z _ p (by omega), aft1, eM_goes_74, mQ_0]
    rw [pplS, ppl1] at ih'
    obtain ⟨_, hq, ⟨a, ha1, ha2, ha⟩, _⟩ := W.2.2.1 p (by omega)
    rcases hq with ho | ⟨c, hc, ho⟩
    · rw [ho, OU_lt] at ih'
      rw [ho, OU_lt', cond_true, nI_1]
      exact ih' q
    · have e : decide (pplS np nb n C (M.2 8) (M.1 0) p (99 + 4 * p + 1) < nI 0) = false := by rw [ho, dlt (by omega) (by omega)]; simp
      have e' : decide (pplS np nb n C (M.2 8) (M.1 0) p (99 + 4 * p + 1) < 0) = false := e
      rw [e] at ih'
      rw [e', cond_false]
      obtain ⟨q1, hq1⟩ := cM_does d Z (mQ M q (pplS np nb n C (M.2 8) (M.1 0) p)) p nc np nb n a c C (by omega) hnc hnp hnb (by rw [mQ_0, fr 0 (by omega), h0]) (by rw [mQ_0, fr 1 (by omega), h1]) (by rw [mQ_0, fr 2 (by omega), h2]) (by rw [mQ_0]; exact lawM_congr hl (fr 8 (by omega)) (fun j hj => fr j (by omega))) hc (by rw [mQ_0]; exact ho) ⟨ha1, ha2⟩ (by rw [mQ_0]; exact ha)
      rw [mQ_m60, mQ_0, mQ_2] at hq1
      rw [hq1, aft0, eM_goes_82, nI_1]
      exact ih' q1
/-- one TENTH -/
def goA (np nb n : Nat) (C : Nat → CL) (wo : Int32) (s : Nat → Int32) : Nat → Int32 := pplS np nb n C wo (bstS np (upd s 3 (s 3 + 1)) nb) np
def goF (nc np nb n : Nat) (C : Nat → CL) (wo : Int32) (s : Nat → Int32) : Nat → Int32 := hpC np (hrmS nb (goA np nb n C wo s) np) nc
def goV (np nb n : Nat) (C : Nat → CL) (wo : Int32) (s : Nat → Int32) : Nat := hrmV nb (goA np nb n C wo s) np
def goE (np nb n : Nat) (C : Nat → CL) (wo : Int32) (s : Nat → Int32) : EVT := hrmE nb (goA np nb n C wo s) np
theorem WF_goA {np nb n nc T : Nat} {B : Nat → Nat} {C : Nat → CL} {wo : Int32} {s : Nat → Int32} (h : WF s nc np nb T B) : WF (goA np nb n C wo s) nc np nb (T + 1) B :=
  WF_pplS (WF_bstS (WF_tick h) nb (Nat.le_refl _)) np (Nat.le_refl _)
theorem WF_goF {np nb n nc T : Nat} {B : Nat → Nat} {C : Nat → CL} {wo : Int32} {s : Nat → Int32} (h : WF s nc np nb T B) : WF (goF nc np nb n C wo s) nc np nb (T + 1) (fun p => B p + 3) := by
  refine WF_hpC ?_ nc
  refine WF_mono (WF_hrmS (WF_goA h) np h.1.2.1.2) (Nat.le_refl _) (fun p hp => ?_)
  simp only [hp, if_true]
  omega
theorem goA_fr {np nb n : Nat} {C : Nat → CL} {wo : Int32} {s : Nat → Int32} {j : Nat} (hnp : np ≤ 20) (hnb : nb ≤ 6) (h : (j < 99 ∧ j ≠ 3 ∧ j ≠ 4) ∨ 197 ≤ j) : goA np nb n C wo s j = s j := by
  rw [goA, pplS_fr (by omega) np hnp, bstS_fr (by omega) (by omega) nb hnb, upd_ne (by omega)]
theorem cM_goes (d : Nat) (Z : ZT) (M : MS) (nc np nb T n m w r : Nat) (B : Nat → Nat) (C : Nat → CL) (h : WF (M.1 0) nc np nb T B) (hl : lawM (M.1 0) n C) (hm : m < 300000000) (h10 : M.2 10 = nI m) (hw : w ≤ 24) (h9 : M.2 9 = nI w) (hr : r ≤ 24) (h14 : M.2 14 = nI r) :
    ∃ q, call PGM (d + 8) yM_goes [.ref 91] (hM Z M) = some (some (.int (nI (goV np nb n C (M.2 8) (M.1 0)))), hM Z (mQ (recE M (goE np nb n C (M.2 8) (M.1 0))) q (goF nc np nb n C (M.2 8) (M.1 0)))) := by
  have hnb : nb ≤ 6 := h.1.2.2.1.2
  have h2 := h.1.2.2.1.1
  have h1 := h.1.2.1.1
  have hnp := h.1.2.1.2
  have h0 := h.1.1.1
  have hnc := h.1.1.2.2
  rw [kM_goes, eM_goes_0, eM_goes_10]
  have eB := mG_beasts (d + 4) Z (mA M 0 (upd (M.1 0) 3 (M.1 0 3 + 1))) nc np nb (T + 1) B (by rw [mA_s]; exact WF_tick h) nb 0 (by omega)
  rw [mA_s, mA_mA] at eB
  have eB' : sem PGM (d + 7) yM_goes (12, [some (.ref 91), some (.int 0)], [], hM Z (mA M 0 (upd (M.1 0) 3 (M.1 0 3 + 1)))) = sem PGM (d + 7) yM_goes (59, [some (.ref 91), some (.int (nI 0))], [], hM Z (mA M 0 (bstS np (upd (M.1 0) 3 (M.1 0 3 + 1)) nb))) := by
    rw [mA_mA] at eB
    exact eB
  rw [eB']
  have W2 := WF_bstS (WF_tick h) nb (Nat.le_refl _)
  obtain ⟨q, hq⟩ := mG_people d Z (mA M 0 (bstS np (upd (M.1 0) 3 (M.1 0 3 + 1)) nb)) nc np nb (T + 1) n B C (by rw [mA_s]; exact W2) (by rw [mA_s]; exact lawM_congr hl (by rw [bstS_fr (by omega) (by omega) nb hnb, upd_ne (by omega)]) (fun j hj => by rw [bstS_fr (by omega) (by omega) nb hnb, upd_ne (by omega)])) np 0 (by omega) (M.1 6)
  have em : ∀ q' s', mQ (mA M 0 (bstS np (upd (M.1 0) 3 (M.1 0 3 + 1)) nb)) q' s' = mQ M q' s' := by
    intro q' s'
    rw [mQ_of0, mQ_m60]
  rw [em, em, mA_2, mA_s] at hq
  have hq' : sem PGM (d + 7) yM_goes (59, [some (.ref 91), some (.int (nI 0))], [], hM Z (mA M 0 (bstS np (upd (M.1 0) 3 (M.1 0 3 + 1)) nb))) = sem PGM (d + 7) yM_goes (59, [some (.ref 91), some (.int (nI np))], [], hM Z (mQ M q (goA np nb n C (M.2 8) (M.1 0)))) := by
    rw [mQ_of0]
    exact hq
  rw [hq']
  refine ⟨q, ?_⟩
  have f1 : goA np nb n C (M.2 8) (M.1 0) 1 = nI np := by rw [goA_fr hnp hnb (by omega), h1]
  rw [eM_goes_59, mQ_0, f1]
  simp (disch := omega) only [l0, l1, l2, l3, l4, l5, l6, l7, l8, l9, l10, l11, l12, l13, l14, l15, l16, l17, l18, l19, l20, l21, l22, l23, l24, l25, l26, l27, l28, l29, l30, l31, l40, l48, l52, l57, l60, l65, l97, l99, l100, l102, l119, l122, l179, l197, l200, l201, l237, l436, l437, pk_mul, nI_add, inb_nI, nclamp, dlt, dle, deq, bif_t, bif_f, bif_nt, bif_nf, aft0, aft1, decide_true, decide_false, Bool.not_true, Bool.not_false, cond_true, cond_false, Nat.add_sub_cancel, Nat.add_one_sub_one, ou9, mo1, nI_MO, OU_lt, OU_ge, Nat.not_lt_zero, Bool.or_false, Bool.or_true, Bool.true_or, Bool.false_or, Bool.and_true, Bool.and_false, Bool.true_and, Bool.false_and, bI_0n, bI_1n, Bool.not_not]
  rw [cM_harms (d + 4) Z _ np nb m w r hnp hnb (by rw [mQ_0]; exact f1) (by rw [mQ_0, goA_fr hnp hnb (by omega), h2]) (by omega) (by rw [mQ_2]; exact h10) hw (by rw [mQ_2]; exact h9) hr (by rw [mQ_2]; exact h14), aft1, eM_goes_92]
  rw [mQ_0, cM_heaps (d + 4) Z _ nc np hnc hnp (by rw [mA_s, hrmS_lo (by omega), goA_fr hnp hnb (by omega), h0]) (by rw [mA_s, hrmS_lo (by omega), f1]), aft0, eM_goes_97, mA_s, mA_mA]
  rw [mQ, recE_mA (by omega) (by omega), recE_mA (by omega) (by omega), mA_mA]
  rfl
