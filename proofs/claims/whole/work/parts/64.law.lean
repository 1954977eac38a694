/-! The class's LAWS: who, ACTS, CONDS; the CLAUSE by which one goes. -/
def stt (C : Nat → CL) : Nat → Nat
  | 0 => 0
  | k + 1 => stt C k + (C k).2.2.2.2.length
theorem stt_le (C : Nat → CL) {k n : Nat} (h : k ≤ n) : stt C k ≤ stt C n := by
  induction n with
  | zero => rw [Nat.le_zero.mp h]; exact Nat.le_refl _
  | succ n ih =>
    by_cases e : k = n + 1
    · rw [e]; exact Nat.le_refl _
    · have := ih (by omega)
      rw [stt]
      omega
def lawC (n nu : Nat) (C : Nat → CL) (fw fa fe fs : Nat → Int32) : Prop :=
  n ≤ 8 ∧ nu ≤ 200 ∧ stt C n ≤ nu ∧ ∀ k, k < n → fw k = nI (C k).1 ∧ fa k = nI (C k).2.1 ∧ fe k = nI (stt C (k + 1)) ∧ ∀ i x, (C k).2.2.2.2[i]? = some x → fs (stt C k + i) = opC x
def lawAt (h : AH) (l n : Nat) (C : Nat → CL) : Prop := ∃ r1 r2 r3 r4, hat h l = some (.inr (1, [.int (nI n), .ref r1, .ref r2, .ref r3, .ref r4])) ∧ (0 < n → ∃ fw fa fe fs nu, hat h r1 = some (.inl (.int, 8, .inl fw)) ∧ hat h r2 = some (.inl (.int, 8, .inl fa)) ∧ hat h r3 = some (.inl (.int, 8, .inl fe)) ∧ hat h r4 = some (.inl (.int, nu, .inl fs)) ∧ lawC n nu C fw fa fe fs)
/-- LAWS that lie among what was made later -/
def lawD (dd : AH) (l n : Nat) (C : Nat → CL) : Prop := (l = 38 ∧ n = 0) ∨ ∃ j fw fa fe fs nu, l = j + 108 ∧ hat dd j = some (.inr (1, [.int (nI n), .ref (j + 109), .ref (j + 110), .ref (j + 111), .ref (j + 112)])) ∧ hat dd (j + 1) = some (.inl (.int, 8, .inl fw)) ∧ hat dd (j + 2) = some (.inl (.int, 8, .inl fa)) ∧ hat dd (j + 3) = some (.inl (.int, 8, .inl fe)) ∧ hat dd (j + 4) = some (.inl (.int, nu, .inl fs)) ∧ lawC n nu C fw fa fe fs
set_option maxRecDepth 100000 in
theorem heapOf_dd (g : GT) (X : XS) (N T K : SS) (M : MS) (dd : AH) (j : Nat) : hat (heapOf g X N T K M dd) (j + 108) = hat dd j := rfl
set_option maxRecDepth 100000 in
theorem hS_dd {o : Nat} (ho : o = 43 ∨ o = 59) (S : SS) (Z : RT) (j : Nat) : hat (hS o S Z) (j + 108) = hat Z.2.2.2.2.2 j := by
  rcases ho with rfl | rfl <;> rfl
set_option maxRecDepth 100000 in
theorem hS_38 {o : Nat} (ho : o = 43 ∨ o = 59) (S : SS) (Z : RT) : hat (hS o S Z) 38 = some (.inr (1, [.int (nI 0), .ref 39, .ref 40, .ref 41, .ref 42])) := by
  rcases ho with rfl | rfl <;> rfl
theorem lawAt_hS {o : Nat} (ho : o = 43 ∨ o = 59) (S : SS) {Z : RT} {l n : Nat} {C : Nat → CL} (h : lawD Z.2.2.2.2.2 l n C) : lawAt (hS o S Z) l n C := by
  rcases h with ⟨rfl, rfl⟩ | ⟨j, fw, fa, fe, fs, nu, rfl, h0, h1, h2, h3, h4, h5⟩
  · exact ⟨_, _, _, _, hS_38 ho S Z, fun h => absurd h (Nat.lt_irrefl 0)⟩
  · refine ⟨_, _, _, _, (hS_dd ho S Z j).trans h0, fun _ => ⟨fw, fa, fe, fs, nu, ?_, ?_, ?_, ?_, h5⟩⟩
    · exact (hS_dd ho S Z (j + 1)).trans h1
    · exact (hS_dd ho S Z (j + 2)).trans h2
    · exact (hS_dd ho S Z (j + 3)).trans h3
    · exact (hS_dd ho S Z (j + 4)).trans h4
theorem lawD_38 {dd : AH} {l n : Nat} {C : Nat → CL} (h : lawD dd l n C) : ¬ l = 9 := by
  rcases h with ⟨rfl, rfl⟩ | ⟨j, fw, fa, fe, fs, nu, rfl, _⟩ <;> omega
theorem hat_app {a b : AH} {j : Nat} {c : AC} (h : hat a j = some c) : hat (a ++ b) j = some c := by
  induction a generalizing j with
  | nil => cases h
  | cons x t ih =>
    cases j with
    | zero => exact h
    | succ j => exact ih h
theorem lawD_app {dd ee : AH} {l n : Nat} {C : Nat → CL} (h : lawD dd l n C) : lawD (dd ++ ee) l n C := by
  rcases h with h | ⟨j, fw, fa, fe, fs, nu, e, h0, h1, h2, h3, h4, h5⟩
  · exact Or.inl h
  · exact Or.inr ⟨j, fw, fa, fe, fs, nu, e, hat_app h0, hat_app h1, hat_app h2, hat_app h3, hat_app h4, h5⟩
theorem cL_loop (d : Nat) {o : Nat} (ho : o = 43 ∨ o = 59) (S : SS) (Z : RT) {F : Nat → Int32} (hF : ∀ w, w < 6 → S.1 13 w = F w) {l r4 nu e : Nat} {a1 a2 a3 a0 : Value} {fs : Nat → Int32} (h0 : hat (hS o S Z) l = some (.inr (1, [a0, a1, a2, a3, .ref r4]))) (h4 : hat (hS o S Z) r4 = some (.inl (.int, nu, .inl fs))) (hnu : nu ≤ 200) (he : e ≤ nu) (u1 : Option Value) :
    ∀ (ops : List Op) (st : List Bool) (b : Nat), okS ops st.length → st.length ≤ 30 → (∀ i x, ops[i]? = some x → fs (b + i) = opC x) → b + ops.length = e →
      sem PGM (d + 2) yL_holds (36, [some (.ref l), u1, some (.ref (o + 15)), some (.int (nI (encN st))), some (.int (nI e)), some (.int (nI b))], [], hS o S Z) = some (some (.int (bI ((evO F ops st).headD false))), hS o S Z) := by
  intro ops
  induction ops with
  | nil =>
    intro st b hok _ _ hbe
    have hb : b = e := by simpa using hbe
    subst hb
    match st, hok with
    | [x], _ =>
      rw [eL_holds_36 (d + 2) o ho, en_low]
      simp (disch := omega) only [l0, l1, l2, l3, l4, l5, l6, l7, l8, l9, l10, l11, l12, l13, l14, l15, l16, l17, l18, l19, l20, l21, l22, l23, l24, l25, l26, l27, l28, l29, l30, l31, l40, l48, l52, l57, l60, l65, l97, l99, l100, l102, l119, l122, l179, l197, l200, l201, l237, l436, l437, pk_mul, nI_add, inb_nI, nclamp, dlt, dle, deq, bif_t, bif_f, bif_nt, bif_nf, aft0, aft1, decide_true, decide_false, Bool.not_true, Bool.not_false, cond_true, cond_false, Nat.add_sub_cancel, Nat.add_one_sub_one, ou9, mo1, nI_MO, OU_lt, OU_ge, Nat.not_lt_zero, Bool.or_false, Bool.or_true, Bool.true_or, Bool.false_or, Bool.and_true, Bool.and_false, Bool.true_and, Bool.false_and, bI_0n, bI_1n, Bool.not_not]
      cases x <;> rfl
  | cons x ops ih =>
    intro st b hok hst hc hbe
    rw [List.length_cons] at hbe
    obtain ⟨hx, hok⟩ := hok
    have hd : if x.1 < 3 then st.length < 30 else if x.1 = 5 then 1 ≤ st.length else 2 ≤ st.length := by
      by_cases h3 : x.1 < 3
      · rw [if_pos h3] at hok ⊢; exact hok.1
      · rw [if_neg h3] at hok ⊢
        by_cases h5 : x.1 = 5
        · rw [if_pos h5] at hok ⊢; exact hok.1
        · rw [if_neg h5] at hok ⊢; exact hok.1
    have hl : (stO F x st).length = (if x.1 < 3 then st.length + 1 else if x.1 = 5 then st.length else st.length - 1) := by
      rw [stO.eq_def]
      by_cases h3 : x.1 < 3
      · rw [if_pos h3, if_pos h3]; rfl
      · rw [if_neg h3] at hd ⊢
        rw [if_neg h3]
        by_cases h5 : x.1 = 5
        · rw [if_pos h5] at hd ⊢
          match st, hd with
          | y :: r, _ => simp [h5]
        · rw [if_neg h5] at hd ⊢
          match st, hd with
          | y :: z :: r, _ => simp [h5]
    have hok' : okS ops (stO F x st).length := by
      rw [hl]
      by_cases h3 : x.1 < 3
      · rw [if_pos h3] at hok ⊢; exact hok.2
      · rw [if_neg h3] at hok ⊢
        by_cases h5 : x.1 = 5
        · rw [if_pos h5] at hok ⊢; exact hok.2
        · rw [if_neg h5] at hok ⊢; exact hok.2
    have hl30 : (stO F x st).length ≤ 30 := by
      rw [hl]
      by_cases h3 : x.1 < 3
      · rw [if_pos h3] at hd ⊢; omega
      · rw [if_neg h3]
        by_cases h5 : x.1 = 5
        · rw [if_pos h5]; omega
        · rw [if_neg h5]; omega
    have f0 : fs b = opC x := hc 0 x rfl
    have i1 : okN (hS o S Z) l 1 4 = false := by unfold okN; rw [h0]; rfl
    have i2 : okR (hS o S Z) l 1 4 = true := by unfold okR; rw [h0]; rfl
    have i3 : gR (hS o S Z) l 4 = r4 := by unfold gR; rw [h0]; rfl
    have i4 : inA (hS o S Z) r4 0 (nI b) = true := by
      unfold inA
      rw [h4]
      show (true && inb (nI b) nu) = true
      rw [inb_nI (by omega), Bool.true_and, decide_eq_true (by omega)]
    have i5 : rA (hS o S Z) r4 (nI b) = opC x := by
      unfold rA
      rw [h4]
      show fs (nI b).toNatClampNeg = _
      rw [nclamp (by omega), f0]
    rw [eL_holds_36 (d + 2) o ho, i1, i2, i3, i4, i5, cL_after d ho S Z hx hd hst hF]
    simp (disch := omega) only [l0, l1, l2, l3, l4, l5, l6, l7, l8, l9, l10, l11, l12, l13, l14, l15, l16, l17, l18, l19, l20, l21, l22, l23, l24, l25, l26, l27, l28, l29, l30, l31, l40, l48, l52, l57, l60, l65, l97, l99, l100, l102, l119, l122, l179, l197, l200, l201, l237, l436, l437, pk_mul, nI_add, inb_nI, nclamp, dlt, dle, deq, bif_t, bif_f, bif_nt, bif_nf, aft0, aft1, decide_true, decide_false, Bool.not_true, Bool.not_false, cond_true, cond_false, Nat.add_sub_cancel, Nat.add_one_sub_one, ou9, mo1, nI_MO, OU_lt, OU_ge, Nat.not_lt_zero, Bool.or_false, Bool.or_true, Bool.true_or, Bool.false_or, Bool.and_true, Bool.and_false, Bool.true_and, Bool.false_and, bI_0n, bI_1n, Bool.not_not]
    rw [eL_holds_55 (d + 2) o ho, nI_1]
    rw [evO]
    refine ih _ (b + 1) hok' hl30 (fun i y hy => ?_) (by omega)
    rw [show b + 1 + i = b + (i + 1) by omega]
    exact hc (i + 1) y (by rw [List.getElem?_cons_succ]; exact hy)
theorem cL_holds (d : Nat) {o : Nat} (ho : o = 43 ∨ o = 59) (S : SS) (Z : RT) {F : Nat → Int32} (hF : ∀ w, w < 6 → S.1 13 w = F w) {l n k : Nat} {C : Nat → CL} (hl : lawAt (hS o S Z) l n C) (hk : k < n) (hy : (C k).2.2.1 = true → okS (C k).2.2.2.2 0) (hn : (C k).2.2.1 = false → (C k).2.2.2.2 = []) :
    call PGM (d + 3) yL_holds [.ref l, .int (nI k), .ref (o + 15)] (hS o S Z) = some (some (.int (bI (saysO F (C k)))), hS o S Z) := by
  obtain ⟨r1, r2, r3, r4, h0, hh⟩ := hl
  obtain ⟨fw, fa, fe, fs, nu, h1, h2, h3, h4, n8, nu2, hst, hC⟩ := hh (by omega)
  obtain ⟨_, _, hfe, hfs⟩ := hC k hk
  have m0 : okN (hS o S Z) l 1 3 = false := by unfold okN; rw [h0]; rfl
  have m1 : okN (hS o S Z) l 1 4 = false := by unfold okN; rw [h0]; rfl
  have m2 : okR (hS o S Z) l 1 3 = true := by unfold okR; rw [h0]; rfl
  have m3 : okR (hS o S Z) l 1 4 = true := by unfold okR; rw [h0]; rfl
  have m4 : gR (hS o S Z) l 3 = r3 := by unfold gR; rw [h0]; rfl
  have m5 : gR (hS o S Z) l 4 = r4 := by unfold gR; rw [h0]; rfl
  have ia : ∀ j, j < 8 → inA (hS o S Z) r3 0 (nI j) = true := by
    intro j hj
    unfold inA
    rw [h3]
    show (true && inb (nI j) 8) = true
    rw [inb_nI (by omega), Bool.true_and, decide_eq_true (by omega)]
  have ra : ∀ j, j < 8 → rA (hS o S Z) r3 (nI j) = fe j := by
    intro j hj
    unfold rA
    rw [h3]
    show fe (nI j).toNatClampNeg = _
    rw [nclamp (by omega)]
  have m6 : okL (hS o S Z) r4 = true := by unfold okL; rw [h4]
  have m7 : lenA (hS o S Z) r4 = nu := by unfold lenA; rw [h4]
  have le1 : stt C (k + 1) ≤ nu := Nat.le_trans (stt_le C (by omega)) hst
  have le2 : stt C k ≤ nu := Nat.le_trans (stt_le C (by omega)) hst
  have emin : (if nI nu < nI (stt C (k + 1)) then nI nu else nI (stt C (k + 1))) = nI (stt C (k + 1)) := by
    rw [if_neg]
    intro h
    have := (nI_ltI (by omega) (by omega)).mp h
    omega
  have fin : ∀ u1, sem PGM (d + 2) yL_holds (36, [some (.ref l), u1, some (.ref (o + 15)), some (.int 1), some (.int (nI (stt C (k + 1)))), some (.int (nI (stt C k)))], [], hS o S Z) = some (some (.int (bI (saysO F (C k)))), hS o S Z) := by
    intro u1
    cases hh : (C k).2.2.1 with
    | true =>
      have := cL_loop d ho S Z hF h0 h4 nu2 le1 u1 (C k).2.2.2.2 [] (stt C k) (hy hh) (by simp) hfs rfl
      refine this.trans ?_
      simp only [saysO, hh, Bool.not_true, Bool.false_or]
    | false =>
      have e := hn hh
      have es : stt C (k + 1) = stt C k := by rw [stt, e]; rfl
      rw [es, eL_holds_36 (d + 2) o ho]
      simp (disch := omega) only [l0, l1, l2, l3, l4, l5, l6, l7, l8, l9, l10, l11, l12, l13, l14, l15, l16, l17, l18, l19, l20, l21, l22, l23, l24, l25, l26, l27, l28, l29, l30, l31, l40, l48, l52, l57, l60, l65, l97, l99, l100, l102, l119, l122, l179, l197, l200, l201, l237, l436, l437, pk_mul, nI_add, inb_nI, nclamp, dlt, dle, deq, bif_t, bif_f, bif_nt, bif_nf, aft0, aft1, decide_true, decide_false, Bool.not_true, Bool.not_false, cond_true, cond_false, Nat.add_sub_cancel, Nat.add_one_sub_one, ou9, mo1, nI_MO, OU_lt, OU_ge, Nat.not_lt_zero, Bool.or_false, Bool.or_true, Bool.true_or, Bool.false_or, Bool.and_true, Bool.and_false, Bool.true_and, Bool.false_and, bI_0n, bI_1n, Bool.not_not]
      simp only [saysO, hh, Bool.not_false, Bool.true_or]
      rfl
  rw [kL_holds, eL_holds_0 (d + 2) o ho, m0, m1, m2, m3, m4, m5, m6, m7, ia k (by omega), ra k (by omega), hfe, emin]
  cases k with
  | zero =>
    simp (disch := omega) only [l0, l1, l2, l3, l4, l5, l6, l7, l8, l9, l10, l11, l12, l13, l14, l15, l16, l17, l18, l19, l20, l21, l22, l23, l24, l25, l26, l27, l28, l29, l30, l31, l40, l48, l52, l57, l60, l65, l97, l99, l100, l102, l119, l122, l179, l197, l200, l201, l237, l436, l437, pk_mul, nI_add, inb_nI, nclamp, dlt, dle, deq, bif_t, bif_f, bif_nt, bif_nf, aft0, aft1, decide_true, decide_false, Bool.not_true, Bool.not_false, cond_true, cond_false, Nat.add_sub_cancel, Nat.add_one_sub_one, ou9, mo1, nI_MO, OU_lt, OU_ge, Nat.not_lt_zero, Bool.or_false, Bool.or_true, Bool.true_or, Bool.false_or, Bool.and_true, Bool.and_false, Bool.true_and, Bool.false_and, bI_0n, bI_1n, Bool.not_not]
    exact fin _
  | succ k =>
    obtain ⟨_, _, hfe', _⟩ := hC k (by omega)
    have e1 : nI (k + 1) - 1 = nI k := by rw [l1, nI_sub (by omega)]; rfl
    rw [e1, ia k (by omega), ra k (by omega), hfe']
    simp (disch := omega) only [l0, l1, l2, l3, l4, l5, l6, l7, l8, l9, l10, l11, l12, l13, l14, l15, l16, l17, l18, l19, l20, l21, l22, l23, l24, l25, l26, l27, l28, l29, l30, l31, l40, l48, l52, l57, l60, l65, l97, l99, l100, l102, l119, l122, l179, l197, l200, l201, l237, l436, l437, pk_mul, nI_add, inb_nI, nclamp, dlt, dle, deq, bif_t, bif_f, bif_nt, bif_nf, aft0, aft1, decide_true, decide_false, Bool.not_true, Bool.not_false, cond_true, cond_false, Nat.add_sub_cancel, Nat.add_one_sub_one, ou9, mo1, nI_MO, OU_lt, OU_ge, Nat.not_lt_zero, Bool.or_false, Bool.or_true, Bool.true_or, Bool.false_or, Bool.and_true, Bool.and_false, Bool.true_and, Bool.false_and, bI_0n, bI_1n, Bool.not_not]
    exact fin _
theorem sA_id (S : SS) (k : Nat) : sA S k (S.1 k) = S := by
  have : up S.1 k (S.1 k) = S.1 := up_same _ _
  unfold sA
  rw [this]
/-- the CLAUSE left out, told to the class and to the model -/
def woR (a b : Int32) : Prop := ∀ k, k < 8 → decide (nI k = a) = decide (nI k = b)
theorem cS_clauseFor (d : Nat) {o : Nat} (ho : o = 43 ∨ o = 59) {S : SS} (Z : RT) {s : Nat → Int32} {nc np nb T p c n : Nat} {B : Nat → Nat} {C : Nat → CL} {wo : Int32} (h : RS S s np nb) (W : WF s nc np nb T B) (hp : p < np) (hc : c < nc) (hs : s (99 + 4 * p + 1) = nI c) (hl : lawD Z.2.2.2.2.2 S.2.2 n C) (hm : lawM s n C) (hw : woR (S.2.1 5) wo) :
    ∃ f, call PGM (d + 5) yS_clauseFor [.ref o, .int (nI p)] (hS o S Z) = some (some (.int (pikC (goodC s np nb C wo p) n 0)), hS o (sA S 13 f) Z) := by
  have hnp := W.1.2.1.2
  have hn8 := hm.1
  have L : ∀ S' : SS, S'.2.2 = S.2.2 → lawAt (hS o S' Z) S.2.2 n C := fun S' e => lawAt_hS ho S' hl
  obtain ⟨kk, k1, k7, hkk⟩ := (W.2.2.1 p hp).1
  have p5 : S.1 5 p = nI kk := (h.2.2.1 p hp).1.trans hkk
  obtain ⟨r1, r2, r3, r4, h0, _⟩ := L S rfl
  have m0 : okI (hS o S Z) S.2.2 1 0 = true := by unfold okI; rw [h0]; rfl
  have m1 : gI (hS o S Z) S.2.2 0 = nI n := by unfold gI; rw [h0]; rfl
  rw [kS_clauseFor, eS_clauseFor_0 (d + 4) o ho, m0, m1]
  obtain ⟨f, hf, hF⟩ := cS_lookAround (d + 1) ho Z h W hp hc hs
  by_cases hn : n = 0
  · subst hn
    refine ⟨S.1 13, ?_⟩
    rw [sA_id]
    simp (disch := omega) only [l0, l1, l2, l3, l4, l5, l6, l7, l8, l9, l10, l11, l12, l13, l14, l15, l16, l17, l18, l19, l20, l21, l22, l23, l24, l25, l26, l27, l28, l29, l30, l31, l40, l48, l52, l57, l60, l65, l97, l99, l100, l102, l119, l122, l179, l197, l200, l201, l237, l436, l437, pk_mul, nI_add, inb_nI, nclamp, dlt, dle, deq, bif_t, bif_f, bif_nt, bif_nf, aft0, aft1, decide_true, decide_false, Bool.not_true, Bool.not_false, cond_true, cond_false, Nat.add_sub_cancel, Nat.add_one_sub_one, ou9, mo1, nI_MO, OU_lt, OU_ge, Nat.not_lt_zero, Bool.or_false, Bool.or_true, Bool.true_or, Bool.false_or, Bool.and_true, Bool.and_false, Bool.true_and, Bool.false_and, bI_0n, bI_1n, Bool.not_not]
    rfl
  · refine ⟨f, ?_⟩
    rw [hf]
    simp (disch := omega) only [l0, l1, l2, l3, l4, l5, l6, l7, l8, l9, l10, l11, l12, l13, l14, l15, l16, l17, l18, l19, l20, l21, l22, l23, l24, l25, l26, l27, l28, l29, l30, l31, l40, l48, l52, l57, l60, l65, l97, l99, l100, l102, l119, l122, l179, l197, l200, l201, l237, l436, l437, pk_mul, nI_add, inb_nI, nclamp, dlt, dle, deq, bif_t, bif_f, bif_nt, bif_nf, aft0, aft1, decide_true, decide_false, Bool.not_true, Bool.not_false, cond_true, cond_false, Nat.add_sub_cancel, Nat.add_one_sub_one, ou9, mo1, nI_MO, OU_lt, OU_ge, Nat.not_lt_zero, Bool.or_false, Bool.or_true, Bool.true_or, Bool.false_or, Bool.and_true, Bool.and_false, Bool.true_and, Bool.false_and, bI_0n, bI_1n, Bool.not_not]
    rw [eS_clauseFor_18 (d + 4) o ho]
    have hF' : ∀ w, w < 6 → (sA S 13 f).1 13 w = factN s np nb (s (99 + 4 * p + 1)) w := fun w hw => by rw [sA_s, hF w hw, hs]
    have L' := L (sA S 13 f) rfl
    obtain ⟨q1, q2, q3, q4, g0, gg⟩ := L'
    have i0 : okI (hS o (sA S 13 f) Z) S.2.2 1 0 = true := by unfold okI; rw [g0]; rfl
    have i1 : gI (hS o (sA S 13 f) Z) S.2.2 0 = nI n := by unfold gI; rw [g0]; rfl
    have i2 : okN (hS o (sA S 13 f) Z) S.2.2 1 1 = false := by unfold okN; rw [g0]; rfl
    have i3 : okR (hS o (sA S 13 f) Z) S.2.2 1 1 = true := by unfold okR; rw [g0]; rfl
    have i4 : gR (hS o (sA S 13 f) Z) S.2.2 1 = q1 := by unfold gR; rw [g0]; rfl
    have i5 : okC (hS o (sA S 13 f) Z) S.2.2 1 = true := by unfold okC; rw [g0]; rfl
    obtain ⟨fw, fa, fe, fs, nu, g1, g2, g3, g4, n8, nu2, hst, hC⟩ := gg (by omega)
    have loop : ∀ m k, k + m = n → sem PGM (d + 4) yS_clauseFor (20, [some (.ref o), some (.int (nI p)), some (.int (nI k))], [], hS o (sA S 13 f) Z) = some (some (.int (pikC (goodC s np nb C wo p) m k)), hS o (sA S 13 f) Z) := by
      intro m
      induction m with
      | zero =>
        intro k hk
        rw [eS_clauseFor_20 (d + 4) o ho, sA_2, i0, i1]
        simp (disch := omega) only [l0, l1, l2, l3, l4, l5, l6, l7, l8, l9, l10, l11, l12, l13, l14, l15, l16, l17, l18, l19, l20, l21, l22, l23, l24, l25, l26, l27, l28, l29, l30, l31, l40, l48, l52, l57, l60, l65, l97, l99, l100, l102, l119, l122, l179, l197, l200, l201, l237, l436, l437, pk_mul, nI_add, inb_nI, nclamp, dlt, dle, deq, bif_t, bif_f, bif_nt, bif_nf, aft0, aft1, decide_true, decide_false, Bool.not_true, Bool.not_false, cond_true, cond_false, Nat.add_sub_cancel, Nat.add_one_sub_one, ou9, mo1, nI_MO, OU_lt, OU_ge, Nat.not_lt_zero, Bool.or_false, Bool.or_true, Bool.true_or, Bool.false_or, Bool.and_true, Bool.and_false, Bool.true_and, Bool.false_and, bI_0n, bI_1n, Bool.not_not]
        rfl
      | succ m ih =>
        intro k hk
        have ih' := ih (k + 1) (by omega)
        have hk8 : k < 8 := by omega
        have hck := hm.2.2 k (by omega)
        have w0 := hw k hk8
        have j1 : inA (hS o (sA S 13 f) Z) q1 0 (nI k) = true := by
          unfold inA
          rw [g1]
          show (true && inb (nI k) 8) = true
          rw [inb_nI (by omega), Bool.true_and, decide_eq_true (by omega)]
        have j2 : rA (hS o (sA S 13 f) Z) q1 (nI k) = nI (C k).1 := by
          unfold rA
          rw [g1]
          show fw (nI k).toNatClampNeg = _
          rw [nclamp (by omega)]
          exact (hC k (by omega)).1
        rw [eS_clauseFor_20 (d + 4) o ho, sA_2, i0, i1, i2, i3, i4, j1, j2]
        rw [w0, sA_n (show (5 : Nat) ≠ 13 by omega)]
        rw [pikC, goodC, hkk]
        simp (disch := omega) only [l0, l1, l2, l3, l4, l5, l6, l7, l8, l9, l10, l11, l12, l13, l14, l15, l16, l17, l18, l19, l20, l21, l22, l23, l24, l25, l26, l27, l28, l29, l30, l31, l40, l48, l52, l57, l60, l65, l97, l99, l100, l102, l119, l122, l179, l197, l200, l201, l237, l436, l437, pk_mul, nI_add, inb_nI, nclamp, dlt, dle, deq, bif_t, bif_f, bif_nt, bif_nf, aft0, aft1, decide_true, decide_false, Bool.not_true, Bool.not_false, cond_true, cond_false, Nat.add_sub_cancel, Nat.add_one_sub_one, ou9, mo1, nI_MO, OU_lt, OU_ge, Nat.not_lt_zero, Bool.or_false, Bool.or_true, Bool.true_or, Bool.false_or, Bool.and_true, Bool.and_false, Bool.true_and, Bool.false_and, bI_0n, bI_1n, Bool.not_not, p5]
        cases decide (nI k = wo) with
        | true =>
          simp only [cond_true, Bool.not_true, Bool.false_and, cond_false]
          exact ih'
        | false =>
          simp only [cond_false, Bool.not_false, Bool.true_and]
          rw [cB_isA (d + 3) (hS_1 ho _ Z) (show kk < 9 by omega) (show (C k).1 < 9 by have := hck.1; omega), aft1, eS_clauseFor_57 (d + 4) o ho, bI_0, sA_2, i5]
          cases under (nI kk) (nI (C k).1) with
          | false =>
            simp only [Bool.not_false, cond_true, Bool.false_and, cond_false]
            rw [nI_1]
            exact ih'
          | true =>
            simp only [Bool.not_true, cond_false, Bool.true_and, Bool.and_self, cond_true]
            rw [cL_holds (d + 1) ho (sA S 13 f) Z hF' (L (sA S 13 f) rfl) (by omega) hck.2.2.2.2.2.2.2.2.2.1 hck.2.2.2.2.2.2.2.2.2.2, aft1, eS_clauseFor_72 (d + 4) o ho, bI_0]
            cases saysO (factN s np nb (s (99 + 4 * p + 1))) (C k) with
            | false =>
              simp only [Bool.not_false, cond_true, cond_false]
              rw [nI_1]
              exact ih'
            | true => rfl
    exact loop n 0 (by omega)
