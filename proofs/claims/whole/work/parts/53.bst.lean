/-! BEASTS of a TENTH. -/
/-- the CELL next to c on the way to e -/
def towards (c e : Nat) : Nat := if e = c then c else if e < c then c - 1 else c + 1
theorem stalk_val {s : Nat → Int32} {nc np c a b : Nat} (hc : c < nc) (hnc : nc ≤ 30) (ha : a ≤ 9) (h5 : s 5 = nI a) (hq : ∀ p, p < np → okQ nc (s (99 + 4 * p + 1))) (hb : s (179 + 3 * b) = nI c) :
    ((∀ q e, q < np → e < nc → s (99 + 4 * q + 1) = nI e → a < dst e c) ∧ stalkF s b np = s) ∨
    (∃ q e, q < np ∧ e < nc ∧ s (99 + 4 * q + 1) = nI e ∧ dst e c ≤ a ∧ (∀ q' e', q' < np → e' < nc → s (99 + 4 * q' + 1) = nI e' → dst e c < dst e' c ∨ (dst e c = dst e' c ∧ e' ≤ e)) ∧ stalkF s b np = upd s (179 + 3 * b) (nI (towards c e))) := by
  unfold stalkF
  rw [hb]
  rcases stalk_spec (c := c) (by omega) hnc ha h5 hq np (Nat.le_refl _) with ⟨h1, h2⟩ | ⟨q, e, h1, h2, h3, h4, h5', h6⟩
  · refine Or.inl ⟨h2, ?_⟩
    rw [h1, bif_t rfl, nI_add, Nat.add_zero, ← hb, upd_id]
  · refine Or.inr ⟨q, e, h1, h2, h3, h5', h6, ?_⟩
    rw [h4]
    have n99 : ¬ nI e - nI c = nI 99 := by
      intro h
      have := congrArg Int32.toInt h
      rw [iv_sub (by omega) (by omega), nI_toInt (by omega)] at this
      omega
    rw [bif_f n99]
    congr 1
    by_cases he : e = c
    · subst he
      have z : nI e - nI e = nI 0 := by rw [nI_sub (Nat.le_refl _), Nat.sub_self]
      rw [bif_nf z, nI_add]
      simp [towards]
    · have nz : ¬ nI e - nI c = nI 0 := by
        intro h
        have := congrArg Int32.toInt h
        rw [iv_sub (by omega) (by omega), nI_toInt (by omega)] at this
        omega
      rw [bif_nt nz]
      by_cases hl : e < c
      · have : nI e - nI c ≤ nI 0 := by
          rw [Int32.le_iff_toInt_le, iv_sub (by omega) (by omega), nI_toInt (by omega)]
          omega
        rw [bif_t this]
        simp only [towards, he, hl, if_true, if_false]
        rw [show c = c - 1 + 1 by omega, nI_MO]
        simp
      · have : ¬ nI e - nI c ≤ nI 0 := by
          rw [Int32.le_iff_toInt_le, iv_sub (by omega) (by omega), nI_toInt (by omega)]
          omega
        rw [bif_f this, nI_add]
        simp only [towards, he, hl, if_false]
theorem WF_bplace {s : Nat → Int32} {nc np nb T : Nat} {B : Nat → Nat} {b : Nat} {x : Int32} (h : WF s nc np nb T B) (hb : b < 6) (hx : okQ nc x) : WF (upd s (179 + 3 * b) x) nc np nb T B := by
  refine WF_b (b := b) h hb (fun k _ hk => upd_ne (by omega)) (fun hbn => ?_)
  obtain ⟨_, a, l⟩ := h.2.2.2 b hbn
  unfold wfB
  rw [upd_eq, upd_ne (by omega), upd_ne (by omega)]
  exact ⟨hx, a, l⟩
theorem WF_stalkF {s : Nat → Int32} {nc np nb T : Nat} {B : Nat → Nat} {b c : Nat} (h : WF s nc np nb T B) (hb : b < nb) (hc : c < nc) (hs : s (179 + 3 * b) = nI c) : WF (stalkF s b np) nc np nb T B := by
  have hnc := h.1.1.2.2
  have hnb : nb ≤ 6 := h.1.2.2.1.2
  obtain ⟨a, _, ha, h5⟩ := h.1.2.2.2.2.1
  rcases stalk_val hc hnc ha h5 (fun p hp => (h.2.2.1 p hp).2.1) hs with ⟨_, e⟩ | ⟨q, e, _, he, _, _, _, ee⟩
  · rw [e]
    exact h
  · rw [ee]
    refine WF_bplace h (by omega) (Or.inr ⟨towards c e, ?_, rfl⟩)
    unfold towards
    split
    · omega
    · split <;> omega
def bst1 (np : Nat) (s : Nat → Int32) (b : Nat) : Nat → Int32 :=
  bif decide (s (179 + 3 * b) < nI 0) then s else bif decide (s (179 + 3 * b + 2) = nI 1) then stalkF s b np else herdF b (s (179 + 3 * b + 1)).toNatClampNeg s
def bstS (np : Nat) (s : Nat → Int32) : Nat → Nat → Int32
  | 0 => s
  | b + 1 => bst1 np (bstS np s b) b
theorem WF_bst1 {s : Nat → Int32} {nc np nb T : Nat} {B : Nat → Nat} {b : Nat} (h : WF s nc np nb T B) (hb : b < nb) : WF (bst1 np s b) nc np nb T B := by
  unfold bst1
  rcases (h.2.2.2 b hb).1 with ho | ⟨c, hc, ho⟩
  · rw [ho, OU_lt]
    exact h
  · have hnc := h.1.1.2.2
    have e : decide (s (179 + 3 * b) < nI 0) = false := by rw [ho, dlt (by omega) (by omega)]; simp
    rw [e, cond_false]
    cases decide (s (179 + 3 * b + 2) = nI 1) with
    | true => exact WF_stalkF h hb hc ho
    | false => exact WF_herdF hb _ s h
theorem WF_bstS {s : Nat → Int32} {nc np nb T : Nat} {B : Nat → Nat} (h : WF s nc np nb T B) : ∀ b, b ≤ nb → WF (bstS np s b) nc np nb T B
  | 0, _ => h
  | b + 1, hb => WF_bst1 (WF_bstS h b (by omega)) (by omega)
theorem bst1_fr {np : Nat} {s : Nat → Int32} {b k : Nat} (h4 : k ≠ 4) (hk : k < 179 ∨ 197 ≤ k) (hb : b < 6) : bst1 np s b k = s k := by
  unfold bst1
  cases decide (s (179 + 3 * b) < nI 0) with
  | true => rfl
  | false =>
    cases decide (s (179 + 3 * b + 2) = nI 1) with
    | true =>
      rw [cond_false, cond_true, stalkF, upd_ne (by omega)]
    | false => exact herdF_fr h4 (by omega) (by omega) _ s
theorem bstS_fr {np : Nat} {s : Nat → Int32} {k : Nat} (h4 : k ≠ 4) (hk : k < 179 ∨ 197 ≤ k) : ∀ b, b ≤ 6 → bstS np s b k = s k
  | 0, _ => rfl
  | b + 1, hb => by rw [bstS, bst1_fr h4 hk (by omega), bstS_fr h4 hk b (by omega)]
theorem mG_beasts (d : Nat) (Z : ZT) (M : MS) (nc np nb T : Nat) (B : Nat → Nat) (h : WF (M.1 0) nc np nb T B) : ∀ k b, b + k = nb →
    sem PGM (d + 3) yM_goes (12, [some (.ref 91), some (.int (nI b))], [], hM Z (mA M 0 (bstS np (M.1 0) b))) = sem PGM (d + 3) yM_goes (59, [some (.ref 91), some (.int (nI 0))], [], hM Z (mA M 0 (bstS np (M.1 0) nb))) := by
  have hnb : nb ≤ 6 := h.1.2.2.1.2
  have h2 := h.1.2.2.1.1
  have h1 := h.1.2.1.1
  have hnp := h.1.2.1.2
  have h0 := h.1.1.1
  have hnc := h.1.1.2.2
  intro k
  induction k with
  | zero =>
    intro b hb
    rw [eM_goes_12, mA_s, bstS_fr (by omega) (by omega) b (by omega), h2]
    simp (disch := omega) only [l0, l1, l2, l3, l4, l5, l6, l7, l8, l9, l10, l11, l12, l13, l14, l15, l16, l17, l18, l19, l20, l21, l22, l23, l24, l25, l26, l27, l28, l29, l30, l31, l40, l48, l52, l57, l60, l65, l97, l99, l100, l102, l119, l122, l179, l197, l200, l201, l237, l436, l437, pk_mul, nI_add, inb_nI, nclamp, dlt, dle, deq, bif_t, bif_f, bif_nt, bif_nf, aft0, aft1, decide_true, decide_false, Bool.not_true, Bool.not_false, cond_true, cond_false, Nat.add_sub_cancel, Nat.add_one_sub_one, ou9, mo1, nI_MO, OU_lt, OU_ge, Nat.not_lt_zero, Bool.or_false, Bool.or_true, Bool.true_or, Bool.false_or, Bool.and_true, Bool.and_false, Bool.true_and, Bool.false_and, bI_0n, bI_1n, Bool.not_not]
    rw [show b = nb by omega]
  | succ k ih =>
    intro b hb
    have ih' := ih (b + 1) (by omega)
    rw [eM_goes_12, mA_s, bstS_fr (by omega) (by omega) b (by omega), h2]
    simp (disch := omega) only [l0, l1, l2, l3, l4, l5, l6, l7, l8, l9, l10, l11, l12, l13, l14, l15, l16, l17, l18, l19, l20, l21, l22, l23, l24, l25, l26, l27, l28, l29, l30, l31, l40, l48, l52, l57, l60, l65, l97, l99, l100, l102, l119, l122, l179, l197, l200, l201, l237, l436, l437, pk_mul, nI_add, inb_nI, nclamp, dlt, dle, deq, bif_t, bif_f, bif_nt, bif_nf, aft0, aft1, decide_true, decide_false, Bool.not_true, Bool.not_false, cond_true, cond_false, Nat.add_sub_cancel, Nat.add_one_sub_one, ou9, mo1, nI_MO, OU_lt, OU_ge, Nat.not_lt_zero, Bool.or_false, Bool.or_true, Bool.true_or, Bool.false_or, Bool.and_true, Bool.and_false, Bool.true_and, Bool.false_and, bI_0n, bI_1n, Bool.not_not]
    have W := WF_bstS h b (by omega)
    rw [cM_whereBeast (d + 2) Z _ b (by omega), aft1, eM_goes_27, cM_isAlone (d + 2) Z _ b (by omega), aft1, eM_goes_35]
    have e1 : bstS np (M.1 0) b 1 = nI np := by rw [bstS_fr (by omega) (by omega) b (by omega), h1]
    have e0 : bstS np (M.1 0) b 0 = nI nc := by rw [bstS_fr (by omega) (by omega) b (by omega), h0]
    obtain ⟨hq, ⟨a, ha1, ha2, ha⟩, hl⟩ := W.2.2.2 b (by omega)
    rw [cM_stalks (d + 1) Z _ b np (by omega) (by rw [mA_s]; exact e1) hnp, cM_herds (d + 2) Z _ b a nc (by omega) hnc ha2 (by rw [mA_s]; exact e0) (by rw [mA_s]; exact ha) (by rw [mA_s]; exact hq)]
    simp (disch := omega) only [l0, l1, l2, l3, l4, l5, l6, l7, l8, l9, l10, l11, l12, l13, l14, l15, l16, l17, l18, l19, l20, l21, l22, l23, l24, l25, l26, l27, l28, l29, l30, l31, l40, l48, l52, l57, l60, l65, l97, l99, l100, l102, l119, l122, l179, l197, l200, l201, l237, l436, l437, pk_mul, nI_add, inb_nI, nclamp, dlt, dle, deq, bif_t, bif_f, bif_nt, bif_nf, aft0, aft1, decide_true, decide_false, Bool.not_true, Bool.not_false, cond_true, cond_false, Nat.add_sub_cancel, Nat.add_one_sub_one, ou9, mo1, nI_MO, OU_lt, OU_ge, Nat.not_lt_zero, Bool.or_false, Bool.or_true, Bool.true_or, Bool.false_or, Bool.and_true, Bool.and_false, Bool.true_and, Bool.false_and, bI_0n, bI_1n, Bool.not_not, mA_s, mA_mA, eM_goes_51, eM_goes_43]
    rw [bstS, bst1, ha, nclamp (by omega)] at ih'
    cases e3 : decide (bstS np (M.1 0) b (179 + 3 * b) < nI 0) <;> cases e4 : decide (bstS np (M.1 0) b (179 + 3 * b + 2) = nI 1) <;> rw [e3, e4] at ih' <;> exact ih'
