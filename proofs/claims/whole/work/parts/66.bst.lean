/-! The class's street: BEASTS' moves. -/
theorem crN_congr {s s' : Nat → Int32} {c : Int32} {np : Nat} (e : ∀ q, q < np → s' (99 + 4 * q + 1) = s (99 + 4 * q + 1)) : crN s' c np = crN s c np :=
  cnt_congr (fun q hq => by show decide _ = decide _; rw [e q hq])
theorem faN_congr {s s' : Nat → Int32} {c : Int32} {np : Nat} (e : ∀ q, q < np → s' (99 + 4 * q + 1) = s (99 + 4 * q + 1)) (e' : ∀ q, q < np → s' (99 + 4 * q) = s (99 + 4 * q)) : faN s' c np = faN s c np :=
  cnt_congr (fun q hq => by show (decide _ && _) = (decide _ && _); rw [e q hq, e' q hq])
theorem RS_congr {S : SS} {s s' : Nat → Int32} {np nb : Nat} (h : RS S s np nb) (hnp : np ≤ 20) (hnb : nb ≤ 6) (e : ∀ k, k < 197 → s' k = s k) : RS S s' np nb := by
  obtain ⟨hV, hC, hP, hB, hR, hN⟩ := h
  refine ⟨fun k hk => ?_, fun c hc => ?_, fun p hp => ?_, fun b hb => ?_, fun k hk => ?_, fun c hc => ?_⟩
  · rw [e k (by omega)]; exact hV k hk
  · rw [e _ (by omega), e _ (by omega), e _ (by omega)]; exact hC c hc
  · rw [e _ (by omega), e _ (by omega), e _ (by omega), e _ (by omega)]; exact hP p hp
  · rw [e _ (by omega), e _ (by omega), e _ (by omega)]; exact hB b hb
  · rw [e _ (by omega)]; exact hR k hk
  · rw [crN_congr (fun q hq => e _ (by omega)), faN_congr (fun q hq => e _ (by omega)) (fun q hq => e _ (by omega))]; exact hN c hc
theorem RS_b {S S' : SS} {s s' : Nat → Int32} {np nb b : Nat} (h : RS S s np nb) (hnp : np ≤ 20) (hnb : nb ≤ 6) (hs : ∀ k, k ≠ 4 → k ≠ 179 + 3 * b → k ≠ 179 + 3 * b + 2 → s' k = s k) (hv : ∀ k, k < 5 → k ≠ 4 → S'.2.1 k = S.2.1 k) (h4 : S'.2.1 4 = s' 4) (eo : ∀ j, j ≠ 9 → j ≠ 11 → S'.1 j = S.1 j) (e9 : S'.1 9 = upd (S.1 9) b (s' (179 + 3 * b))) (e11 : S'.1 11 = upd (S.1 11) b (s' (179 + 3 * b + 2))) : RS S' s' np nb := by
  obtain ⟨hV, hC, hP, hB, hR, hN⟩ := h
  refine ⟨fun k hk => ?_, fun c hc => ?_, fun p hp => ?_, fun q hq => ?_, fun k hk => ?_, fun c hc => ?_⟩
  · by_cases hk4 : k = 4
    · subst hk4; exact h4
    · rw [hv k hk hk4, hs k hk4 (by omega) (by omega)]; exact hV k hk
  · rw [eo 0 (by omega) (by omega), eo 1 (by omega) (by omega), eo 2 (by omega) (by omega), hs _ (by omega) (by omega) (by omega), hs _ (by omega) (by omega) (by omega), hs _ (by omega) (by omega) (by omega)]; exact hC c hc
  · rw [eo 5 (by omega) (by omega), eo 6 (by omega) (by omega), eo 7 (by omega) (by omega), eo 8 (by omega) (by omega), hs _ (by omega) (by omega) (by omega), hs _ (by omega) (by omega) (by omega), hs _ (by omega) (by omega) (by omega), hs _ (by omega) (by omega) (by omega)]; exact hP p hp
  · rw [e9, e11, eo 10 (by omega) (by omega), hs (179 + 3 * q + 1) (by omega) (by omega) (by omega)]
    by_cases hqb : q = b
    · subst hqb
      rw [upd_eq, upd_eq]
      exact ⟨rfl, (hB q hq).2.1, rfl⟩
    · rw [upd_ne hqb, upd_ne hqb, hs _ (by omega) (by omega) (by omega), hs _ (by omega) (by omega) (by omega)]
      exact hB q hq
  · rw [eo 12 (by omega) (by omega), hs _ (by omega) (by omega) (by omega)]; exact hR k hk
  · rw [eo 3 (by omega) (by omega), eo 4 (by omega) (by omega), crN_congr (fun q hq => hs _ (by omega) (by omega) (by omega)), faN_congr (fun q hq => hs _ (by omega) (by omega) (by omega)) (fun q hq => hs _ (by omega) (by omega) (by omega))]; exact hN c hc
theorem RS_bp {S : SS} {s : Nat → Int32} {np nb b : Nat} {x : Int32} (h : RS S s np nb) (hnp : np ≤ 20) (hnb : nb ≤ 6) (hb : b < nb) : RS (sA S 9 (upd (S.1 9) b x)) (upd s (179 + 3 * b) x) np nb := by
  refine RS_b (b := b) h hnp hnb (fun k _ h9 _ => upd_ne h9) (fun _ _ _ => rfl) (by rw [upd_ne (by omega)]; exact h.1 4 (by omega)) (fun j h9 _ => sA_n h9) (by rw [sA_s, upd_eq]) ?_
  rw [sA_n (by omega), upd_ne (by omega), ← (h.2.2.2.1 b hb).2.2, upd_id]
theorem RS_ba {S : SS} {s : Nat → Int32} {np nb b : Nat} {x : Int32} (h : RS S s np nb) (hnp : np ≤ 20) (hnb : nb ≤ 6) (hb : b < nb) : RS (sA S 11 (upd (S.1 11) b x)) (upd s (179 + 3 * b + 2) x) np nb := by
  refine RS_b (b := b) h hnp hnb (fun k _ _ h9 => upd_ne h9) (fun _ _ _ => rfl) (by rw [upd_ne (by omega)]; exact h.1 4 (by omega)) (fun j _ h9 => sA_n h9) ?_ (by rw [sA_s, upd_eq])
  rw [sA_n (by omega), upd_ne (by omega), ← (h.2.2.2.1 b hb).1, upd_id]
theorem RS_z {S : SS} {s : Nat → Int32} {np nb : Nat} {z : Int32} (h : RS S s np nb) (hnp : np ≤ 20) : RS (sV S 4 z) (upd s 4 z) np nb := by
  obtain ⟨hV, hC, hP, hB, hR, hN⟩ := h
  refine ⟨fun k hk => ?_, fun c hc => ?_, fun p hp => ?_, fun b hb => ?_, fun k hk => ?_, fun c hc => ?_⟩
  · by_cases hk4 : k = 4
    · subst hk4; rw [sV_s, upd_eq]
    · rw [sV_n hk4, upd_ne hk4]; exact hV k hk
  · rw [sV_1, upd_ne (by omega), upd_ne (by omega), upd_ne (by omega)]; exact hC c hc
  · rw [sV_1, upd_ne (by omega), upd_ne (by omega), upd_ne (by omega), upd_ne (by omega)]; exact hP p hp
  · rw [sV_1, upd_ne (by omega), upd_ne (by omega), upd_ne (by omega)]; exact hB b hb
  · rw [sV_1, upd_ne (by omega)]; exact hR k hk
  · rw [sV_1, crN_congr (fun q hq => upd_ne (by omega)), faN_congr (fun q hq => upd_ne (by omega)) (fun q hq => upd_ne (by omega))]; exact hN c hc
theorem RS_t {S : SS} {s : Nat → Int32} {np nb : Nat} {z : Int32} (h : RS S s np nb) (hnp : np ≤ 20) : RS (sV S 3 z) (upd s 3 z) np nb := by
  obtain ⟨hV, hC, hP, hB, hR, hN⟩ := h
  refine ⟨fun k hk => ?_, fun c hc => ?_, fun p hp => ?_, fun b hb => ?_, fun k hk => ?_, fun c hc => ?_⟩
  · by_cases hk4 : k = 3
    · subst hk4; rw [sV_s, upd_eq]
    · rw [sV_n hk4, upd_ne hk4]; exact hV k hk
  · rw [sV_1, upd_ne (by omega), upd_ne (by omega), upd_ne (by omega)]; exact hC c hc
  · rw [sV_1, upd_ne (by omega), upd_ne (by omega), upd_ne (by omega), upd_ne (by omega)]; exact hP p hp
  · rw [sV_1, upd_ne (by omega), upd_ne (by omega), upd_ne (by omega)]; exact hB b hb
  · rw [sV_1, upd_ne (by omega)]; exact hR k hk
  · rw [sV_1, crN_congr (fun q hq => upd_ne (by omega)), faN_congr (fun q hq => upd_ne (by omega)) (fun q hq => upd_ne (by omega))]; exact hN c hc
theorem cS_slips (d : Nat) {o : Nat} (ho : o = 43 ∨ o = 59) (S : SS) (Z : RT) (x : Int32) : call PGM (d + 1) yS_slips [.ref o, .int x] (hS o S Z) = bif decide (x ≤ 0) then some (some (.int 0), hS o S Z) else some (some (.int (bI (decide (rnd (nxt (S.2.1 4)) < x)))), hS o (sV S 4 (nxt (S.2.1 4))) Z) := by
  rw [kS_slips, eS_slips_0 d o ho, eS_slips_21 d o ho, le_not_lt x 0]
  cases decide (0 < x) with
  | false => rfl
  | true =>
    rw [cond_true, Bool.not_true, cond_false, sV_s]
    have : decide (rnd (nxt (S.2.1 4)) < x) = !decide (x ≤ rnd (nxt (S.2.1 4))) := by rw [le_not_lt, Bool.not_not]
    rw [this]
    show (bif decide (x ≤ rnd (nxt (S.2.1 4))) then _ else _) = _
    cases decide (x ≤ rnd (nxt (S.2.1 4))) <;> rfl
theorem herdF_out {b : Nat} {s : Nat → Int32} (h : s (179 + 3 * b) = OU ∨ s (179 + 3 * b + 2) = nI 1) : ∀ k, herdF b k s = s
  | 0 => rfl
  | k + 1 => by
    rw [herdF]
    rcases h with h | h
    · rw [h, OU_lt', Bool.true_or, cond_true]
    · rw [h]
      have : decide (nI 1 = 0) = false := by decide
      rw [this, Bool.not_false, Bool.or_true, cond_true]
theorem cS_gallopL (d : Nat) {o : Nat} (ho : o = 43 ∨ o = 59) (Z : RT) {nc np nb T b a : Nat} {B : Nat → Nat} (hb : b < nb) (ha : a ≤ 4) : ∀ (k : Nat) (S : SS) (s : Nat → Int32) (j c : Nat) (u3 : Option Value), j + k = a → RS S s np nb → WF s nc np nb T B → s (179 + 3 * b + 1) = nI a → c < nc → s (179 + 3 * b) = nI c → s (179 + 3 * b + 2) = nI 0 →
    ∃ S', sem PGM (d + 1) yS_gallop (2, [some (.ref o), some (.int (nI b)), some (.int (nI j)), u3], [], hS o S Z) = some (none, hS o S' Z) ∧ RS S' (herdF b k s) np nb ∧ sF S S' := by
  intro k
  induction k with
  | zero =>
    intro S s j c u3 hj h W hpa hc hs hal
    have hnb : nb ≤ 6 := W.1.2.2.1.2
    have b10 : S.1 10 b = nI a := (h.2.2.2.1 b hb).2.1.trans hpa
    refine ⟨S, ?_, h, sF_refl S⟩
    rw [eS_gallop_2 (d + 1) o ho]
    simp (disch := omega) only [l0, l1, l2, l3, l4, l5, l6, l7, l8, l9, l10, l11, l12, l13, l14, l15, l16, l17, l18, l19, l20, l21, l22, l23, l24, l25, l26, l27, l28, l29, l30, l31, l40, l48, l52, l57, l60, l65, l97, l99, l100, l102, l119, l122, l179, l197, l200, l201, l237, l436, l437, pk_mul, nI_add, inb_nI, nclamp, dlt, dle, deq, bif_t, bif_f, bif_nt, bif_nf, aft0, aft1, decide_true, decide_false, Bool.not_true, Bool.not_false, cond_true, cond_false, Nat.add_sub_cancel, Nat.add_one_sub_one, ou9, mo1, nI_MO, OU_lt, OU_ge, Nat.not_lt_zero, Bool.or_false, Bool.or_true, Bool.true_or, Bool.false_or, Bool.and_true, Bool.and_false, Bool.true_and, Bool.false_and, bI_0n, bI_1n, Bool.not_not, b10]
  | succ k ih =>
    intro S s j c u3 hj h W hpa hc hs hal
    have hnb : nb ≤ 6 := W.1.2.2.1.2
    have hnp := W.1.2.1.2
    have hnc := W.1.1.2.2
    have e0 : S.2.1 0 = nI nc := (h.1 0 (by omega)).trans W.1.1.1
    have b9 : S.1 9 b = nI c := (h.2.2.2.1 b hb).1.trans hs
    have b10 : S.1 10 b = nI a := (h.2.2.2.1 b hb).2.1.trans hpa
    have cz : decide (nI c < 0) = false := by rw [l0, dlt (by omega) (by omega)]; simp
    have az : decide (nI 0 = 0) = true := by decide
    rw [eS_gallop_2 (d + 1) o ho, herdF, hs, hal, cz, az]
    simp (disch := omega) only [l0, l1, l2, l3, l4, l5, l6, l7, l8, l9, l10, l11, l12, l13, l14, l15, l16, l17, l18, l19, l20, l21, l22, l23, l24, l25, l26, l27, l28, l29, l30, l31, l40, l48, l52, l57, l60, l65, l97, l99, l100, l102, l119, l122, l179, l197, l200, l201, l237, l436, l437, pk_mul, nI_add, inb_nI, nclamp, dlt, dle, deq, bif_t, bif_f, bif_nt, bif_nf, aft0, aft1, decide_true, decide_false, Bool.not_true, Bool.not_false, cond_true, cond_false, Nat.add_sub_cancel, Nat.add_one_sub_one, ou9, mo1, nI_MO, OU_lt, OU_ge, Nat.not_lt_zero, Bool.or_false, Bool.or_true, Bool.true_or, Bool.false_or, Bool.and_true, Bool.and_false, Bool.true_and, Bool.false_and, bI_0n, bI_1n, Bool.not_not, b9, b10]
    rw [cS_hasCellN d ho Z (show c + 1 < 2147483648 by omega) hnc e0, aft1, eS_gallop_26 (d + 1) o ho, bI_ne0]
    by_cases hcc : c + 1 < nc
    · have hlt : c + 1 < 30 := by omega
      obtain ⟨w, hw, hsl⟩ := (W.2.1 (c + 1) hlt).2.1
      have b1 : S.1 1 (c + 1) = nI w := (h.2.1 (c + 1) hlt).2.1.trans hsl
      have h1 : herd1 s b = bif decide (nI w ≤ nI 0) then upd s (179 + 3 * b) (nI (c + 1)) else upd (upd (upd s (179 + 3 * b) (nI (c + 1))) 4 (nxt (s 4))) (179 + 3 * b + 2) (bI (decide (rnd (nxt (s 4)) < nI w))) := by
        rw [herd1, hs, W.1.1.1, nI_1, dlt (by omega) (by omega), bif_t hcc, nclamp (by omega), hsl]
        rfl
      rw [h1]
      have R1 : RS (sA S 9 (upd (S.1 9) b (nI (c + 1)))) (upd s (179 + 3 * b) (nI (c + 1))) np nb := RS_bp h hnp hnb hb
      have W1 : WF (upd s (179 + 3 * b) (nI (c + 1))) nc np nb T B := WF_bplace W (by omega) (Or.inr ⟨c + 1, hcc, rfl⟩)
      have z4 : (sA S 9 (upd (S.1 9) b (nI (c + 1)))).2.1 4 = s 4 := h.1 4 (by omega)
      simp (disch := omega) only [l0, l1, l2, l3, l4, l5, l6, l7, l8, l9, l10, l11, l12, l13, l14, l15, l16, l17, l18, l19, l20, l21, l22, l23, l24, l25, l26, l27, l28, l29, l30, l31, l40, l48, l52, l57, l60, l65, l97, l99, l100, l102, l119, l122, l179, l197, l200, l201, l237, l436, l437, pk_mul, nI_add, inb_nI, nclamp, dlt, dle, deq, bif_t, bif_f, bif_nt, bif_nf, aft0, aft1, decide_true, decide_false, Bool.not_true, Bool.not_false, cond_true, cond_false, Nat.add_sub_cancel, Nat.add_one_sub_one, ou9, mo1, nI_MO, OU_lt, OU_ge, Nat.not_lt_zero, Bool.or_false, Bool.or_true, Bool.true_or, Bool.false_or, Bool.and_true, Bool.and_false, Bool.true_and, Bool.false_and, bI_0n, bI_1n, Bool.not_not, hcc]
      rw [eS_gallop_45 (d + 1) o ho]
      simp (disch := omega) only [l0, l1, l2, l3, l4, l5, l6, l7, l8, l9, l10, l11, l12, l13, l14, l15, l16, l17, l18, l19, l20, l21, l22, l23, l24, l25, l26, l27, l28, l29, l30, l31, l40, l48, l52, l57, l60, l65, l97, l99, l100, l102, l119, l122, l179, l197, l200, l201, l237, l436, l437, pk_mul, nI_add, inb_nI, nclamp, dlt, dle, deq, bif_t, bif_f, bif_nt, bif_nf, aft0, aft1, decide_true, decide_false, Bool.not_true, Bool.not_false, cond_true, cond_false, Nat.add_sub_cancel, Nat.add_one_sub_one, ou9, mo1, nI_MO, OU_lt, OU_ge, Nat.not_lt_zero, Bool.or_false, Bool.or_true, Bool.true_or, Bool.false_or, Bool.and_true, Bool.and_false, Bool.true_and, Bool.false_and, bI_0n, bI_1n, Bool.not_not, sA_n, b1]
      rw [cS_slips d ho, z4]
      simp (disch := omega) only [l0, l1, l2, l3, l4, l5, l6, l7, l8, l9, l10, l11, l12, l13, l14, l15, l16, l17, l18, l19, l20, l21, l22, l23, l24, l25, l26, l27, l28, l29, l30, l31, l40, l48, l52, l57, l60, l65, l97, l99, l100, l102, l119, l122, l179, l197, l200, l201, l237, l436, l437, pk_mul, nI_add, inb_nI, nclamp, dlt, dle, deq, bif_t, bif_f, bif_nt, bif_nf, aft0, aft1, decide_true, decide_false, Bool.not_true, Bool.not_false, cond_true, cond_false, Nat.add_sub_cancel, Nat.add_one_sub_one, ou9, mo1, nI_MO, OU_lt, OU_ge, Nat.not_lt_zero, Bool.or_false, Bool.or_true, Bool.true_or, Bool.false_or, Bool.and_true, Bool.and_false, Bool.true_and, Bool.false_and, bI_0n, bI_1n, Bool.not_not]
      by_cases hw0 : w ≤ 0
      · simp (disch := omega) only [l0, l1, l2, l3, l4, l5, l6, l7, l8, l9, l10, l11, l12, l13, l14, l15, l16, l17, l18, l19, l20, l21, l22, l23, l24, l25, l26, l27, l28, l29, l30, l31, l40, l48, l52, l57, l60, l65, l97, l99, l100, l102, l119, l122, l179, l197, l200, l201, l237, l436, l437, pk_mul, nI_add, inb_nI, nclamp, dlt, dle, deq, bif_t, bif_f, bif_nt, bif_nf, aft0, aft1, decide_true, decide_false, Bool.not_true, Bool.not_false, cond_true, cond_false, Nat.add_sub_cancel, Nat.add_one_sub_one, ou9, mo1, nI_MO, OU_lt, OU_ge, Nat.not_lt_zero, Bool.or_false, Bool.or_true, Bool.true_or, Bool.false_or, Bool.and_true, Bool.and_false, Bool.true_and, Bool.false_and, bI_0n, bI_1n, Bool.not_not, hw0]
        rw [eS_gallop_57 (d + 1) o ho]
        simp (disch := omega) only [l0, l1, l2, l3, l4, l5, l6, l7, l8, l9, l10, l11, l12, l13, l14, l15, l16, l17, l18, l19, l20, l21, l22, l23, l24, l25, l26, l27, l28, l29, l30, l31, l40, l48, l52, l57, l60, l65, l97, l99, l100, l102, l119, l122, l179, l197, l200, l201, l237, l436, l437, pk_mul, nI_add, inb_nI, nclamp, dlt, dle, deq, bif_t, bif_f, bif_nt, bif_nf, aft0, aft1, decide_true, decide_false, Bool.not_true, Bool.not_false, cond_true, cond_false, Nat.add_sub_cancel, Nat.add_one_sub_one, ou9, mo1, nI_MO, OU_lt, OU_ge, Nat.not_lt_zero, Bool.or_false, Bool.or_true, Bool.true_or, Bool.false_or, Bool.and_true, Bool.and_false, Bool.true_and, Bool.false_and, bI_0n, bI_1n, Bool.not_not]
        exact (ih _ _ (j + 1) (c + 1) _ (by omega) R1 W1 (by rw [upd_ne (by omega)]; exact hpa) hcc (upd_eq _ _ _) (by rw [upd_ne (by omega)]; exact hal)).imp (fun S' hS' => ⟨hS'.1, hS'.2.1, sF_trans ⟨rfl, rfl⟩ hS'.2.2⟩)
      · simp (disch := omega) only [l0, l1, l2, l3, l4, l5, l6, l7, l8, l9, l10, l11, l12, l13, l14, l15, l16, l17, l18, l19, l20, l21, l22, l23, l24, l25, l26, l27, l28, l29, l30, l31, l40, l48, l52, l57, l60, l65, l97, l99, l100, l102, l119, l122, l179, l197, l200, l201, l237, l436, l437, pk_mul, nI_add, inb_nI, nclamp, dlt, dle, deq, bif_t, bif_f, bif_nt, bif_nf, aft0, aft1, decide_true, decide_false, Bool.not_true, Bool.not_false, cond_true, cond_false, Nat.add_sub_cancel, Nat.add_one_sub_one, ou9, mo1, nI_MO, OU_lt, OU_ge, Nat.not_lt_zero, Bool.or_false, Bool.or_true, Bool.true_or, Bool.false_or, Bool.and_true, Bool.and_false, Bool.true_and, Bool.false_and, bI_0n, bI_1n, Bool.not_not, hw0]
        rw [eS_gallop_57 (d + 1) o ho]
        have R2 : RS (sV (sA S 9 (upd (S.1 9) b (nI (c + 1)))) 4 (nxt (s 4))) (upd (upd s (179 + 3 * b) (nI (c + 1))) 4 (nxt (s 4))) np nb := RS_z R1 hnp
        simp (disch := omega) only [l0, l1, l2, l3, l4, l5, l6, l7, l8, l9, l10, l11, l12, l13, l14, l15, l16, l17, l18, l19, l20, l21, l22, l23, l24, l25, l26, l27, l28, l29, l30, l31, l40, l48, l52, l57, l60, l65, l97, l99, l100, l102, l119, l122, l179, l197, l200, l201, l237, l436, l437, pk_mul, nI_add, inb_nI, nclamp, dlt, dle, deq, bif_t, bif_f, bif_nt, bif_nf, aft0, aft1, decide_true, decide_false, Bool.not_true, Bool.not_false, cond_true, cond_false, Nat.add_sub_cancel, Nat.add_one_sub_one, ou9, mo1, nI_MO, OU_lt, OU_ge, Nat.not_lt_zero, Bool.or_false, Bool.or_true, Bool.true_or, Bool.false_or, Bool.and_true, Bool.and_false, Bool.true_and, Bool.false_and, bI_0n, bI_1n, Bool.not_not]
        cases decide (rnd (nxt (s 4)) < nI w) with
        | false =>
          have eq0 : upd (upd (upd s (179 + 3 * b) (nI (c + 1))) 4 (nxt (s 4))) (179 + 3 * b + 2) (bI false) = upd (upd s (179 + 3 * b) (nI (c + 1))) 4 (nxt (s 4)) := by
            have : bI false = (upd (upd s (179 + 3 * b) (nI (c + 1))) 4 (nxt (s 4))) (179 + 3 * b + 2) := by
              rw [upd_ne (by omega), upd_ne (by omega), hal]
              rfl
            rw [this, upd_id]
          rw [eq0]
          exact (ih _ _ (j + 1) (c + 1) _ (by omega) R2 (WF_seed W1) (by rw [upd_ne (by omega), upd_ne (by omega)]; exact hpa) hcc (by rw [upd_ne (by omega), upd_eq]) (by rw [upd_ne (by omega), upd_ne (by omega)]; exact hal)).imp (fun S' hS' => ⟨hS'.1, hS'.2.1, sF_trans ⟨rfl, rfl⟩ hS'.2.2⟩)
        | true =>
          refine ⟨_, rfl, ?_, ⟨rfl, rfl⟩⟩
          have e1 : bI true = nI 1 := rfl
          rw [e1, herdF_out (Or.inr (upd_eq _ _ _))]
          exact RS_ba R2 hnp hnb hb
    · have hge : ¬ (s (179 + 3 * b) + 1 < s 0) := by
        rw [hs, W.1.1.1, nI_1, nI_ltI (by omega) (by omega)]
        exact hcc
      have h1 : herd1 s b = upd s (179 + 3 * b) OU := by
        rw [herd1, bif_f hge]
      rw [h1, herdF_out (Or.inl (upd_eq _ _ _))]
      simp (disch := omega) only [l0, l1, l2, l3, l4, l5, l6, l7, l8, l9, l10, l11, l12, l13, l14, l15, l16, l17, l18, l19, l20, l21, l22, l23, l24, l25, l26, l27, l28, l29, l30, l31, l40, l48, l52, l57, l60, l65, l97, l99, l100, l102, l119, l122, l179, l197, l200, l201, l237, l436, l437, pk_mul, nI_add, inb_nI, nclamp, dlt, dle, deq, bif_t, bif_f, bif_nt, bif_nf, aft0, aft1, decide_true, decide_false, Bool.not_true, Bool.not_false, cond_true, cond_false, Nat.add_sub_cancel, Nat.add_one_sub_one, ou9, mo1, nI_MO, OU_lt, OU_ge, Nat.not_lt_zero, Bool.or_false, Bool.or_true, Bool.true_or, Bool.false_or, Bool.and_true, Bool.and_false, Bool.true_and, Bool.false_and, bI_0n, bI_1n, Bool.not_not, hcc]
      exact ⟨_, rfl, RS_bp h hnp hnb hb, ⟨rfl, rfl⟩⟩
theorem cS_gallop (d : Nat) {o : Nat} (ho : o = 43 ∨ o = 59) {S : SS} (Z : RT) {s : Nat → Int32} {nc np nb T b c : Nat} {B : Nat → Nat} (h : RS S s np nb) (W : WF s nc np nb T B) (hb : b < nb) (hc : c < nc) (hs : s (179 + 3 * b) = nI c) (hal : s (179 + 3 * b + 2) = nI 0) :
    ∃ S', call PGM (d + 2) yS_gallop [.ref o, .int (nI b)] (hS o S Z) = some (none, hS o S' Z) ∧ RS S' (herdF b (s (179 + 3 * b + 1)).toNatClampNeg s) np nb ∧ sF S S' := by
  obtain ⟨a, a1, a4, ha⟩ := (W.2.2.2 b hb).2.1
  rw [kS_gallop, eS_gallop_0 (d + 1) o ho, ha, nclamp (by omega)]
  exact cS_gallopL d ho Z hb a4 a S s 0 c none (by omega) h W ha hc hs hal
-- a lone one
theorem cS_occ (d : Nat) {o : Nat} (ho : o = 43 ∨ o = 59) {S : SS} (Z : RT) {s : Nat → Int32} {nc np nb T : Nat} {B : Nat → Nat} (h : RS S s np nb) (W : WF s nc np nb T B) (e : Nat) (he : e < 1000) :
    ∃ v, call PGM (d + 2) yS_crowdIn [.ref o, .int (nI e)] (hS o S Z) = some (some (.int v), hS o S Z) ∧ decide (v ≤ nI 0) = !(decide (e < nc) && decide (0 < crN s (nI e) np)) := by
  have hnc := W.1.1.2.2
  have hnp := W.1.2.1.2
  have e0 : S.2.1 0 = nI nc := (h.1 0 (by omega)).trans W.1.1.1
  refine ⟨_, cS_crowdIn d ho Z (by omega) hnc e0, ?_⟩
  by_cases hlt : e < nc
  · have c3 : S.1 3 e = nI (crN s (nI e) np) := (h.2.2.2.2.2 e (by omega)).1
    have hle : crN s (nI e) np ≤ np := cnt_le _ _
    rw [bif_t hlt, c3, dle (by omega) (by omega)]
    simp only [hlt, decide_true, Bool.true_and]
    by_cases hz : crN s (nI e) np = 0
    · simp [hz]
    · have : ¬ crN s (nI e) np ≤ 0 := by omega
      simp [this, show 0 < crN s (nI e) np by omega]
  · rw [bif_f hlt]
    simp [hlt]
theorem cS_occm (d : Nat) {o : Nat} (ho : o = 43 ∨ o = 59) {S : SS} (Z : RT) {s : Nat → Int32} {nc np nb T : Nat} {B : Nat → Nat} (h : RS S s np nb) (W : WF s nc np nb T B) (c f : Nat) (hc : c < nc) (hf : f < 1000) :
    ∃ v, call PGM (d + 2) yS_crowdIn [.ref o, .int (nI c - nI f)] (hS o S Z) = some (some (.int v), hS o S Z) ∧ decide (v ≤ nI 0) = !(decide (f ≤ c) && decide (0 < crN s (nI (c - f)) np)) := by
  have hnc := W.1.1.2.2
  by_cases hle : f ≤ c
  · obtain ⟨v, h1, h2⟩ := cS_occ d ho Z h W (c - f) (by omega)
    refine ⟨v, ?_, ?_⟩
    · rw [nI_sub hle]; exact h1
    · rw [h2]
      simp [hle, show c - f < nc by omega]
  · have hneg : nI c - nI f < 0 := by
      have := sub_ltz (c := c) (b := f) (by omega) (by omega)
      have h2 : decide (c < f) = true := by simp; omega
      rw [h2] at this
      exact of_decide_eq_true this
    refine ⟨_, cS_crowdInNeg d ho Z hneg, ?_⟩
    simp [hle]
theorem cS_hunt (d : Nat) {o : Nat} (ho : o = 43 ∨ o = 59) {S : SS} (Z : RT) {s : Nat → Int32} {nc np nb T b c : Nat} {B : Nat → Nat} (h : RS S s np nb) (W : WF s nc np nb T B) (hb : b < nb) (hc : c < nc) (hs : s (179 + 3 * b) = nI c) :
    ∃ S', call PGM (d + 3) yS_hunt [.ref o, .int (nI b)] (hS o S Z) = some (none, hS o S' Z) ∧ RS S' (stalkF s b np) np nb ∧ sF S S' := by
  have hnb : nb ≤ 6 := W.1.2.2.1.2
  have hnp := W.1.2.1.2
  have hnc := W.1.1.2.2
  obtain ⟨a, a1, a9, ha⟩ := W.1.2.2.2.2.1
  have r5 : S.1 12 0 = nI a := (h.2.2.2.2.1 0 (by omega)).trans ha
  have b9 : S.1 9 b = nI c := (h.2.2.2.1 b hb).1.trans hs
  have occ : ∀ e, 0 < crN s (nI e) np ↔ ∃ q, q < np ∧ s (99 + 4 * q + 1) = nI e := by
    intro e
    rw [crN, cnt_pos]
    simp
  have stp : ∀ f, 1 ≤ f → f ≤ a → sem PGM (d + 2) yS_hunt (18, [some (.ref o), some (.int (nI b)), some (.int (nI c)), some (.int (nI f))], [], hS o S Z) = bif (decide (c + f < nc) && decide (0 < crN s (nI (c + f)) np)) then some (none, hS o (sA S 9 (upd (S.1 9) b (nI (c + 1)))) Z) else bif (decide (f ≤ c) && decide (0 < crN s (nI (c - f)) np)) then some (none, hS o (sA S 9 (upd (S.1 9) b (nI c - nI 1))) Z) else sem PGM (d + 2) yS_hunt (18, [some (.ref o), some (.int (nI b)), some (.int (nI c)), some (.int (nI (f + 1)))], [], hS o S Z) := by
    intro f f1 fa
    obtain ⟨v1, q1, q2⟩ := cS_occ d ho Z h W (c + f) (by omega)
    obtain ⟨v2, q3, q4⟩ := cS_occm d ho Z h W c f hc (by omega)
    rw [eS_hunt_18 (d + 2) o ho, r5]
    simp (disch := omega) only [l0, l1, l2, l3, l4, l5, l6, l7, l8, l9, l10, l11, l12, l13, l14, l15, l16, l17, l18, l19, l20, l21, l22, l23, l24, l25, l26, l27, l28, l29, l30, l31, l40, l48, l52, l57, l60, l65, l97, l99, l100, l102, l119, l122, l179, l197, l200, l201, l237, l436, l437, pk_mul, nI_add, inb_nI, nclamp, dlt, dle, deq, bif_t, bif_f, bif_nt, bif_nf, aft0, aft1, decide_true, decide_false, Bool.not_true, Bool.not_false, cond_true, cond_false, Nat.add_sub_cancel, Nat.add_one_sub_one, ou9, mo1, nI_MO, OU_lt, OU_ge, Nat.not_lt_zero, Bool.or_false, Bool.or_true, Bool.true_or, Bool.false_or, Bool.and_true, Bool.and_false, Bool.true_and, Bool.false_and, bI_0n, bI_1n, Bool.not_not]
    rw [q1, aft1, eS_hunt_35 (d + 2) o ho, q3, aft1, eS_hunt_55 (d + 2) o ho]
    simp (disch := omega) only [l0, l1, l2, l3, l4, l5, l6, l7, l8, l9, l10, l11, l12, l13, l14, l15, l16, l17, l18, l19, l20, l21, l22, l23, l24, l25, l26, l27, l28, l29, l30, l31, l40, l48, l52, l57, l60, l65, l97, l99, l100, l102, l119, l122, l179, l197, l200, l201, l237, l436, l437, pk_mul, nI_add, inb_nI, nclamp, dlt, dle, deq, bif_t, bif_f, bif_nt, bif_nf, aft0, aft1, decide_true, decide_false, Bool.not_true, Bool.not_false, cond_true, cond_false, Nat.add_sub_cancel, Nat.add_one_sub_one, ou9, mo1, nI_MO, OU_lt, OU_ge, Nat.not_lt_zero, Bool.or_false, Bool.or_true, Bool.true_or, Bool.false_or, Bool.and_true, Bool.and_false, Bool.true_and, Bool.false_and, bI_0n, bI_1n, Bool.not_not, q2, q4]
    cases (decide (c + f < nc) && decide (0 < crN s (nI (c + f)) np)) <;> cases (decide (f ≤ c) && decide (0 < crN s (nI (c - f)) np)) <;> rfl
  have fin : sem PGM (d + 2) yS_hunt (18, [some (.ref o), some (.int (nI b)), some (.int (nI c)), some (.int (nI (a + 1)))], [], hS o S Z) = some (none, hS o S Z) := by
    rw [eS_hunt_18 (d + 2) o ho, r5]
    simp (disch := omega) only [l0, l1, l2, l3, l4, l5, l6, l7, l8, l9, l10, l11, l12, l13, l14, l15, l16, l17, l18, l19, l20, l21, l22, l23, l24, l25, l26, l27, l28, l29, l30, l31, l40, l48, l52, l57, l60, l65, l97, l99, l100, l102, l119, l122, l179, l197, l200, l201, l237, l436, l437, pk_mul, nI_add, inb_nI, nclamp, dlt, dle, deq, bif_t, bif_f, bif_nt, bif_nf, aft0, aft1, decide_true, decide_false, Bool.not_true, Bool.not_false, cond_true, cond_false, Nat.add_sub_cancel, Nat.add_one_sub_one, ou9, mo1, nI_MO, OU_lt, OU_ge, Nat.not_lt_zero, Bool.or_false, Bool.or_true, Bool.true_or, Bool.false_or, Bool.and_true, Bool.and_false, Bool.true_and, Bool.false_and, bI_0n, bI_1n, Bool.not_not]
  obtain ⟨v0, q0, q0'⟩ := cS_occ d ho Z h W c (by omega)
  have ent : call PGM (d + 3) yS_hunt [.ref o, .int (nI b)] (hS o S Z) = bif decide (0 < crN s (nI c) np) then some (none, hS o S Z) else sem PGM (d + 2) yS_hunt (18, [some (.ref o), some (.int (nI b)), some (.int (nI c)), some (.int (nI 1))], [], hS o S Z) := by
    rw [kS_hunt, eS_hunt_0 (d + 2) o ho]
    simp (disch := omega) only [l0, l1, l2, l3, l4, l5, l6, l7, l8, l9, l10, l11, l12, l13, l14, l15, l16, l17, l18, l19, l20, l21, l22, l23, l24, l25, l26, l27, l28, l29, l30, l31, l40, l48, l52, l57, l60, l65, l97, l99, l100, l102, l119, l122, l179, l197, l200, l201, l237, l436, l437, pk_mul, nI_add, inb_nI, nclamp, dlt, dle, deq, bif_t, bif_f, bif_nt, bif_nf, aft0, aft1, decide_true, decide_false, Bool.not_true, Bool.not_false, cond_true, cond_false, Nat.add_sub_cancel, Nat.add_one_sub_one, ou9, mo1, nI_MO, OU_lt, OU_ge, Nat.not_lt_zero, Bool.or_false, Bool.or_true, Bool.true_or, Bool.false_or, Bool.and_true, Bool.and_false, Bool.true_and, Bool.false_and, bI_0n, bI_1n, Bool.not_not, b9]
    rw [q0, aft1, eS_hunt_12 (d + 2) o ho]
    simp (disch := omega) only [l0, l1, l2, l3, l4, l5, l6, l7, l8, l9, l10, l11, l12, l13, l14, l15, l16, l17, l18, l19, l20, l21, l22, l23, l24, l25, l26, l27, l28, l29, l30, l31, l40, l48, l52, l57, l60, l65, l97, l99, l100, l102, l119, l122, l179, l197, l200, l201, l237, l436, l437, pk_mul, nI_add, inb_nI, nclamp, dlt, dle, deq, bif_t, bif_f, bif_nt, bif_nf, aft0, aft1, decide_true, decide_false, Bool.not_true, Bool.not_false, cond_true, cond_false, Nat.add_sub_cancel, Nat.add_one_sub_one, ou9, mo1, nI_MO, OU_lt, OU_ge, Nat.not_lt_zero, Bool.or_false, Bool.or_true, Bool.true_or, Bool.false_or, Bool.and_true, Bool.and_false, Bool.true_and, Bool.false_and, bI_0n, bI_1n, Bool.not_not, q0', hc]
    cases decide (0 < crN s (nI c) np) <;> rfl
  rw [ent]
  rcases stalk_val hc hnc a9 ha (fun p hp => (W.2.2.1 p hp).2.1) hs with ⟨hn, e⟩ | ⟨q, e, hq, he, hqe, hd, hmin, ee⟩
  · rw [e]
    refine ⟨S, ?_, h, sF_refl S⟩
    have no : ∀ e, e < nc → dst e c ≤ a → decide (0 < crN s (nI e) np) = false := by
      intro e he hde
      have : ¬ 0 < crN s (nI e) np := by
        intro hh
        obtain ⟨q, hq, hqe⟩ := (occ e).mp hh
        have := hn q e hq he hqe
        omega
      simp [this]
    rw [no c hc (by unfold dst; omega), cond_false]
    have all : ∀ m f, 1 ≤ f → f + m = a + 1 → sem PGM (d + 2) yS_hunt (18, [some (.ref o), some (.int (nI b)), some (.int (nI c)), some (.int (nI f))], [], hS o S Z) = some (none, hS o S Z) := by
      intro m
      induction m with
      | zero => intro f _ hf; rw [show f = a + 1 by omega]; exact fin
      | succ m ih =>
        intro f f1 hf
        rw [stp f f1 (by omega)]
        have u1 : (decide (c + f < nc) && decide (0 < crN s (nI (c + f)) np)) = false := by
          by_cases hh : c + f < nc
          · rw [no (c + f) hh (by unfold dst; omega), Bool.and_false]
          · simp [hh]
        have u2 : (decide (f ≤ c) && decide (0 < crN s (nI (c - f)) np)) = false := by
          by_cases hh : f ≤ c
          · rw [no (c - f) (by omega) (by unfold dst; omega), Bool.and_false]
          · simp [hh]
        rw [u1, u2, cond_false, cond_false]
        exact ih (f + 1) (by omega) (by omega)
    exact all a 1 (by omega) (by omega)
  · rw [ee]
    have yes : decide (0 < crN s (nI e) np) = true := by
      simp only [decide_eq_true_eq]
      exact (occ e).mpr ⟨q, hq, hqe⟩
    have no : ∀ e', e' < nc → (dst e' c < dst e c ∨ (dst e' c = dst e c ∧ e < e')) → decide (0 < crN s (nI e') np) = false := by
      intro e' he' hde
      have : ¬ 0 < crN s (nI e') np := by
        intro hh
        obtain ⟨q', hq', hqe'⟩ := (occ e').mp hh
        have := hmin q' e' hq' he' hqe'
        omega
      simp [this]
    by_cases hec : e = c
    · subst hec
      rw [yes, cond_true]
      refine ⟨S, rfl, ?_, sF_refl S⟩
      have : upd s (179 + 3 * b) (nI (towards e e)) = s := by
        have e1 : nI (towards e e) = s (179 + 3 * b) := by rw [hs]; simp [towards]
        rw [e1, upd_id]
      rw [this]
      exact h
    · have hD : 1 ≤ dst e c := by unfold dst; omega
      rw [no c hc (Or.inl (by unfold dst; omega)), cond_false]
      have res : sem PGM (d + 2) yS_hunt (18, [some (.ref o), some (.int (nI b)), some (.int (nI c)), some (.int (nI (dst e c)))], [], hS o S Z) = some (none, hS o (sA S 9 (upd (S.1 9) b (nI (towards c e)))) Z) := by
        rw [stp (dst e c) hD hd]
        by_cases hl : c < e
        · have e1 : c + dst e c = e := by unfold dst; omega
          have e2 : towards c e = c + 1 := by unfold towards; rw [if_neg hec, if_neg (by omega)]
          rw [e1, yes, e2]
          simp only [he, decide_true, Bool.and_self, cond_true]
        · have e1 : c - dst e c = e := by unfold dst; omega
          have e2 : towards c e = c - 1 := by unfold towards; rw [if_neg hec, if_pos (by omega)]
          have u1 : (decide (c + dst e c < nc) && decide (0 < crN s (nI (c + dst e c)) np)) = false := by
            by_cases hh : c + dst e c < nc
            · rw [no (c + dst e c) hh (Or.inr ⟨by unfold dst; omega, by omega⟩), Bool.and_false]
            · simp [hh]
          have u2 : decide (dst e c ≤ c) = true := by
            simp only [decide_eq_true_eq]
            unfold dst
            omega
          rw [u1, cond_false, e1, yes, u2, e2, nI_sub (by omega)]
          rfl
      have all : ∀ m f, 1 ≤ f → f + m = dst e c → sem PGM (d + 2) yS_hunt (18, [some (.ref o), some (.int (nI b)), some (.int (nI c)), some (.int (nI f))], [], hS o S Z) = some (none, hS o (sA S 9 (upd (S.1 9) b (nI (towards c e)))) Z) := by
        intro m
        induction m with
        | zero => intro f _ hf; rw [show f = dst e c by omega]; exact res
        | succ m ih =>
          intro f f1 hf
          rw [stp f f1 (by omega)]
          have u1 : (decide (c + f < nc) && decide (0 < crN s (nI (c + f)) np)) = false := by
            by_cases hh : c + f < nc
            · rw [no (c + f) hh (Or.inl (by unfold dst at hf ⊢; omega)), Bool.and_false]
            · simp [hh]
          have u2 : (decide (f ≤ c) && decide (0 < crN s (nI (c - f)) np)) = false := by
            by_cases hh : f ≤ c
            · rw [no (c - f) (by omega) (Or.inl (by unfold dst at hf ⊢; omega)), Bool.and_false]
            · simp [hh]
          rw [u1, u2, cond_false, cond_false]
          exact ih (f + 1) (by omega) (by omega)
      exact ⟨_, all (dst e c - 1) 1 (by omega) (by omega), RS_bp h hnp hnb hb, ⟨rfl, rfl⟩⟩
