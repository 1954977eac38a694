/-! Calls of both: seed, rule, cell, cellOf, personOf, beastOf, many, trace, says, fact. -/
theorem o0 : Int32.ofInt 0 = nI 0 := id rfl
theorem o1 : Int32.ofInt 1 = nI 1 := id rfl
theorem o2 : Int32.ofInt 2 = nI 2 := id rfl
theorem o3 : Int32.ofInt 3 = nI 3 := id rfl
theorem o4 : Int32.ofInt 4 = nI 4 := id rfl
theorem o5 : Int32.ofInt 5 = nI 5 := id rfl
theorem o6 : Int32.ofInt 6 = nI 6 := id rfl
theorem rng_ne {i : Int32} {lo hi n : Nat} (h : rng i lo hi = false) (hl : lo ≤ n) (hh : n ≤ hi) (hb : hi < 2147483648) : decide (i = nI n) = false := by
  cases e : decide (i = nI n) with
  | false => rfl
  | true =>
    have := of_decide_eq_true e
    rw [this, rng_n (by omega) (by omega) hb] at h
    simp at h
    omega
theorem iS_up {i : Nat} {S : SS} {s : Nat → Int32} {dd : AH} {nc np nb n : Nat} {C : Nat → CL} (R : RS S s np nb) (W : WF s nc np nb (60 * i) (fun _ => 180 * i)) (L : lawM s n C) (D : lawD dd S.2.2 n C) : iS (180 * (i + 1)) (60 * (i + 1)) S s dd := ⟨nc, np, nb, n, C, R, WF_mono W (by omega) (fun _ _ => by omega), L, D⟩
theorem op_seed (d i : Nat) (g : GT) (X : XS) (N T K : SS) (M : MS) (dd : AH) (h : INV i X N K M dd) (v : Int32) : OPR d i g X N T K M dd yB_seed yM_seed [.int v] := by
  have h' := h
  obtain ⟨⟨⟨nc, np, nb, n, C, R, W, L, D⟩, w5⟩, _⟩ := h'
  refine op_ns (N.2.1 4) (sV N 4 v) (upd (M.1 0) 4 v) h ?_ ?_ (iS_up (RS_z R W.1.2.1.2) (WF_seed W) (lawM_congr L (upd_ne (by omega)) (fun j hj => upd_ne (by omega))) D) w5
  · rw [kB_seed, eB_seed_0]
  · rw [hM_eq, kM_seed, eM_seed_0, R.1 4 (by omega)]
    rfl
theorem RS_r {S : SS} {s : Nat → Int32} {np nb k : Nat} {x : Int32} (h : RS S s np nb) (hnp : np ≤ 20) (hk : k < 3) : RS (sA S 12 (upd (S.1 12) k x)) (upd s (5 + k) x) np nb := by
  obtain ⟨hV, hC, hP, hB, hR, hN⟩ := h
  refine ⟨fun j hj => ?_, fun c hc => ?_, fun q hq => ?_, fun b hb => ?_, fun j hj => ?_, fun c hc => ?_⟩
  · rw [upd_ne (by omega)]; exact hV j hj
  · rw [sA_n (by omega), sA_n (by omega), sA_n (by omega), upd_ne (by omega), upd_ne (by omega), upd_ne (by omega)]; exact hC c hc
  · rw [sA_n (by omega), sA_n (by omega), sA_n (by omega), sA_n (by omega), upd_ne (by omega), upd_ne (by omega), upd_ne (by omega), upd_ne (by omega)]; exact hP q hq
  · rw [sA_n (by omega), sA_n (by omega), sA_n (by omega), upd_ne (by omega), upd_ne (by omega), upd_ne (by omega)]; exact hB b hb
  · rw [sA_s]
    by_cases e : j = k
    · subst e; rw [upd_eq, upd_eq]
    · rw [upd_ne e, upd_ne (by omega)]; exact hR j hj
  · rw [sA_n (by omega), sA_n (by omega), crN_congr (fun q hq => upd_ne (by omega)), faN_congr (fun q hq => upd_ne (by omega)) (fun q hq => upd_ne (by omega))]; exact hN c hc
theorem RS_c {S : SS} {s : Nat → Int32} {np nb c w : Nat} {x : Int32} (h : RS S s np nb) (hnp : np ≤ 20) (hc : c < 30) (hw : w < 3) : RS (sA S w (upd (S.1 w) c x)) (upd s (9 + 3 * c + w) x) np nb := by
  obtain ⟨hV, hC, hP, hB, hR, hN⟩ := h
  refine ⟨fun j hj => ?_, fun e he => ?_, fun q hq => ?_, fun b hb => ?_, fun j hj => ?_, fun e he => ?_⟩
  · rw [upd_ne (by omega)]; exact hV j hj
  · have key : ∀ v, v < 3 → S.1 v e = s (9 + 3 * e + v) → (sA S w (upd (S.1 w) c x)).1 v e = upd s (9 + 3 * c + w) x (9 + 3 * e + v) := by
      intro v hv hs
      by_cases ev : v = w
      · subst ev
        rw [sA_s]
        by_cases ee : e = c
        · subst ee; rw [upd_eq, upd_eq]
        · rw [upd_ne ee, upd_ne (by omega)]; exact hs
      · rw [sA_n ev, upd_ne (by omega)]; exact hs
    exact ⟨key 0 (by omega) (hC e he).1, key 1 (by omega) (hC e he).2.1, key 2 (by omega) (hC e he).2.2⟩
  · rw [sA_n (by omega), sA_n (by omega), sA_n (by omega), sA_n (by omega), upd_ne (by omega), upd_ne (by omega), upd_ne (by omega), upd_ne (by omega)]; exact hP q hq
  · rw [sA_n (by omega), sA_n (by omega), sA_n (by omega), upd_ne (by omega), upd_ne (by omega), upd_ne (by omega)]; exact hB b hb
  · rw [sA_n (by omega), upd_ne (by omega)]; exact hR j hj
  · rw [sA_n (by omega), sA_n (by omega), crN_congr (fun q hq => upd_ne (by omega)), faN_congr (fun q hq => upd_ne (by omega)) (fun q hq => upd_ne (by omega))]; exact hN e he
theorem WF_rule {s : Nat → Int32} {nc np nb T k v : Nat} {B : Nat → Nat} (W : WF s nc np nb T B) (hk : k < 3) (h0 : k = 0 → 1 ≤ v) (h2 : k = 2 → 2 ≤ v) (hv : v ≤ 9) : WF (upd s (5 + k) (nI v)) nc np nb T B := by
  obtain ⟨⟨a, b, c, t, f1, f2, f3⟩, g, i, j⟩ := W
  refine ⟨⟨?_, ?_, ?_, ?_, ?_, ?_, ?_⟩, fun c hc => wfC_congr (g c hc) (fun _ _ _ => upd_ne (by omega)) hc, fun p hp => wfP_congr (i p hp) (fun _ _ => upd_ne (by omega)), fun b hb => wfB_congr (j b hb) (fun _ _ => upd_ne (by omega))⟩
  · rw [upd_ne (by omega)]; exact a
  · rw [upd_ne (by omega)]; exact b
  · rw [upd_ne (by omega)]; exact c
  · rw [upd_ne (by omega)]; exact t
  · by_cases e : k = 0
    · subst e; exact ⟨v, h0 rfl, hv, upd_eq _ _ _⟩
    · rw [upd_ne (by omega)]; exact f1
  · by_cases e : k = 1
    · subst e; exact ⟨v, hv, upd_eq _ _ _⟩
    · rw [upd_ne (by omega)]; exact f2
  · by_cases e : k = 2
    · subst e; exact ⟨v, h2 rfl, hv, upd_eq _ _ _⟩
    · rw [upd_ne (by omega)]; exact f3
theorem WF_cell {s : Nat → Int32} {nc np nb T c w v : Nat} {B : Nat → Nat} (W : WF s nc np nb T B) (hc : c < 30) (hw : w < 3) (h0 : w = 0 → 1 ≤ v ∧ v ≤ 9) (h1 : w = 1 → v ≤ 4) (h2 : w = 2 → v ≤ 1) : WF (upd s (9 + 3 * c + w) (nI v)) nc np nb T B := by
  obtain ⟨a, g, i, j⟩ := W
  refine ⟨wfH_congr a (fun _ _ _ => upd_ne (by omega)), fun e he => ?_, fun p hp => wfP_congr (i p hp) (fun _ _ => upd_ne (by omega)), fun b hb => wfB_congr (j b hb) (fun _ _ => upd_ne (by omega))⟩
  obtain ⟨g0, g1, g2⟩ := g e he
  by_cases ee : e = c
  · subst ee
    refine ⟨?_, ?_, ?_⟩
    · by_cases e0 : w = 0
      · subst e0; exact ⟨v, (h0 rfl).1, (h0 rfl).2, upd_eq _ _ _⟩
      · rw [upd_ne (by omega)]; exact g0
    · by_cases e0 : w = 1
      · subst e0; exact ⟨v, h1 rfl, upd_eq _ _ _⟩
      · rw [upd_ne (by omega)]; exact g1
    · by_cases e0 : w = 2
      · subst e0; exact ⟨v, h2 rfl, upd_eq _ _ _⟩
      · rw [upd_ne (by omega)]; exact g2
  · unfold wfC
    rw [upd_ne (by omega), upd_ne (by omega), upd_ne (by omega)]
    exact ⟨g0, g1, g2⟩
theorem g40 : gvA 4 0 = nI 1 := id rfl
theorem g41 : gvA 4 1 = nI 0 := id rfl
theorem g42 : gvA 4 2 = nI 0 := id rfl
theorem g50 : gvA 5 0 = nI 9 := id rfl
theorem g51 : gvA 5 1 = nI 4 := id rfl
theorem g52 : gvA 5 2 = nI 1 := id rfl
theorem g70 : gvA 7 0 = nI 1 := id rfl
theorem g71 : gvA 7 1 = nI 0 := id rfl
theorem g72 : gvA 7 2 = nI 2 := id rfl
theorem g80 : gvA 8 0 = nI 9 := id rfl
theorem g81 : gvA 8 1 = nI 9 := id rfl
theorem g82 : gvA 8 2 = nI 9 := id rfl
theorem op_rule (d i : Nat) (g : GT) (X : XS) (N T K : SS) (M : MS) (dd : AH) (h : INV i X N K M dd) (a b : Int32) : OPR d i g X N T K M dd yB_rule yM_rule [.int a, .int b] := by
  have h' := h
  obtain ⟨⟨⟨nc, np, nb, n, C, R, W, L, D⟩, w5⟩, _⟩ := h'
  have hnp := W.1.2.1.2
  have bad : rng a 0 2 = false → (decide (a < nI 0) = true ∨ decide (a < nI 0) = false ∧ decide (nI 2 < a) = true) → OPR d i g X N T K M dd yB_rule yM_rule [.int a, .int b] := by
    intro hr hc
    refine op_ro MO h ?_ ?_
    · rw [kB_rule, eB_rule_0]
      rcases hc with hc | ⟨hc1, hc2⟩
      · simp (disch := omega) only [l0, l1, l2, l3, l4, l5, l6, l7, l8, l9, l10, l11, l12, l13, l14, l15, l16, l17, l18, l19, l20, l21, l22, l23, l24, l25, l26, l27, l28, l29, l30, l31, l40, l48, l52, l57, l60, l65, l97, l99, l100, l102, l119, l122, l179, l197, l200, l201, l237, l436, l437, pk_mul, nI_add, inb_nI, nclamp, dlt, dle, deq, bif_t, bif_f, bif_nt, bif_nf, aft0, aft1, decide_true, decide_false, Bool.not_true, Bool.not_false, cond_true, cond_false, Nat.add_sub_cancel, Nat.add_one_sub_one, ou9, mo1, nI_MO, OU_lt, OU_ge, Nat.not_lt_zero, Bool.or_false, Bool.or_true, Bool.true_or, Bool.false_or, Bool.and_true, Bool.and_false, Bool.true_and, Bool.false_and, bI_0n, bI_1n, Bool.not_not, hc]
      · simp (disch := omega) only [l0, l1, l2, l3, l4, l5, l6, l7, l8, l9, l10, l11, l12, l13, l14, l15, l16, l17, l18, l19, l20, l21, l22, l23, l24, l25, l26, l27, l28, l29, l30, l31, l40, l48, l52, l57, l60, l65, l97, l99, l100, l102, l119, l122, l179, l197, l200, l201, l237, l436, l437, pk_mul, nI_add, inb_nI, nclamp, dlt, dle, deq, bif_t, bif_f, bif_nt, bif_nf, aft0, aft1, decide_true, decide_false, Bool.not_true, Bool.not_false, cond_true, cond_false, Nat.add_sub_cancel, Nat.add_one_sub_one, ou9, mo1, nI_MO, OU_lt, OU_ge, Nat.not_lt_zero, Bool.or_false, Bool.or_true, Bool.true_or, Bool.false_or, Bool.and_true, Bool.and_false, Bool.true_and, Bool.false_and, bI_0n, bI_1n, Bool.not_not, hc1, hc2]
    · rw [hM_eq, kM_rule, eM_rule_0]
      simp (disch := omega) only [l0, l1, l2, l3, l4, l5, l6, l7, l8, l9, l10, l11, l12, l13, l14, l15, l16, l17, l18, l19, l20, l21, l22, l23, l24, l25, l26, l27, l28, l29, l30, l31, l40, l48, l52, l57, l60, l65, l97, l99, l100, l102, l119, l122, l179, l197, l200, l201, l237, l436, l437, pk_mul, nI_add, inb_nI, nclamp, dlt, dle, deq, bif_t, bif_f, bif_nt, bif_nf, aft0, aft1, decide_true, decide_false, Bool.not_true, Bool.not_false, cond_true, cond_false, Nat.add_sub_cancel, Nat.add_one_sub_one, ou9, mo1, nI_MO, OU_lt, OU_ge, Nat.not_lt_zero, Bool.or_false, Bool.or_true, Bool.true_or, Bool.false_or, Bool.and_true, Bool.and_false, Bool.true_and, Bool.false_and, bI_0n, bI_1n, Bool.not_not, rng_ne hr (show 0 ≤ 0 by omega) (show 0 ≤ 2 by omega) (by omega), rng_ne hr (show 0 ≤ 1 by omega) (show 1 ≤ 2 by omega) (by omega), rng_ne hr (show 0 ≤ 2 by omega) (show 2 ≤ 2 by omega) (by omega)]
  have good : ∀ k v, k < 3 → a = nI k → b = nI v → (k = 0 → 1 ≤ v) → (k = 2 → 2 ≤ v) → v ≤ 9 → OPR d i g X N T K M dd yB_rule yM_rule [.int a, .int b] := by
    intro k v hk ea eb v0 v2 v9
    subst ea eb
    refine op_ns (N.1 12 k) (sA N 12 (upd (N.1 12) k (nI v))) (upd (M.1 0) (5 + k) (nI v)) h ?_ ?_ (iS_up (RS_r R hnp hk) (WF_rule W hk v0 v2 v9) (lawM_congr L (upd_ne (by omega)) (fun j hj => upd_ne (by omega))) D) w5
    · rw [kB_rule, eB_rule_0]
      have e : k = 0 ∨ k = 1 ∨ k = 2 := by omega
      rcases e with e | e | e <;> subst e
      · have := v0 rfl
        simp (disch := omega) only [l0, l1, l2, l3, l4, l5, l6, l7, l8, l9, l10, l11, l12, l13, l14, l15, l16, l17, l18, l19, l20, l21, l22, l23, l24, l25, l26, l27, l28, l29, l30, l31, l40, l48, l52, l57, l60, l65, l97, l99, l100, l102, l119, l122, l179, l197, l200, l201, l237, l436, l437, pk_mul, nI_add, inb_nI, nclamp, dlt, dle, deq, bif_t, bif_f, bif_nt, bif_nf, aft0, aft1, decide_true, decide_false, Bool.not_true, Bool.not_false, cond_true, cond_false, Nat.add_sub_cancel, Nat.add_one_sub_one, ou9, mo1, nI_MO, OU_lt, OU_ge, Nat.not_lt_zero, Bool.or_false, Bool.or_true, Bool.true_or, Bool.false_or, Bool.and_true, Bool.and_false, Bool.true_and, Bool.false_and, bI_0n, bI_1n, Bool.not_not, g70, g80]
      · simp (disch := omega) only [l0, l1, l2, l3, l4, l5, l6, l7, l8, l9, l10, l11, l12, l13, l14, l15, l16, l17, l18, l19, l20, l21, l22, l23, l24, l25, l26, l27, l28, l29, l30, l31, l40, l48, l52, l57, l60, l65, l97, l99, l100, l102, l119, l122, l179, l197, l200, l201, l237, l436, l437, pk_mul, nI_add, inb_nI, nclamp, dlt, dle, deq, bif_t, bif_f, bif_nt, bif_nf, aft0, aft1, decide_true, decide_false, Bool.not_true, Bool.not_false, cond_true, cond_false, Nat.add_sub_cancel, Nat.add_one_sub_one, ou9, mo1, nI_MO, OU_lt, OU_ge, Nat.not_lt_zero, Bool.or_false, Bool.or_true, Bool.true_or, Bool.false_or, Bool.and_true, Bool.and_false, Bool.true_and, Bool.false_and, bI_0n, bI_1n, Bool.not_not, g71, g81]
      · have := v2 rfl
        simp (disch := omega) only [l0, l1, l2, l3, l4, l5, l6, l7, l8, l9, l10, l11, l12, l13, l14, l15, l16, l17, l18, l19, l20, l21, l22, l23, l24, l25, l26, l27, l28, l29, l30, l31, l40, l48, l52, l57, l60, l65, l97, l99, l100, l102, l119, l122, l179, l197, l200, l201, l237, l436, l437, pk_mul, nI_add, inb_nI, nclamp, dlt, dle, deq, bif_t, bif_f, bif_nt, bif_nf, aft0, aft1, decide_true, decide_false, Bool.not_true, Bool.not_false, cond_true, cond_false, Nat.add_sub_cancel, Nat.add_one_sub_one, ou9, mo1, nI_MO, OU_lt, OU_ge, Nat.not_lt_zero, Bool.or_false, Bool.or_true, Bool.true_or, Bool.false_or, Bool.and_true, Bool.and_false, Bool.true_and, Bool.false_and, bI_0n, bI_1n, Bool.not_not, g72, g82]
    · rw [hM_eq, kM_rule, eM_rule_0, w1, w0, w2, w9, cM_rng (d + 38), cM_rng (d + 38), cM_rng (d + 38), aft1, aft1, aft1, eM_rule_13, eM_rule_33, eM_rule_55, rng_n (by omega) (by omega) (by omega), rng_n (by omega) (by omega) (by omega), rng_n (by omega) (by omega) (by omega), R.2.2.2.2.1 k hk]
      have e : k = 0 ∨ k = 1 ∨ k = 2 := by omega
      have t9 : decide (v ≤ 9) = true := by simp; omega
      rcases e with e | e | e <;> subst e
      · have t1 : decide (1 ≤ v) = true := by simp; exact v0 rfl
        simp (disch := omega) only [l0, l1, l2, l3, l4, l5, l6, l7, l8, l9, l10, l11, l12, l13, l14, l15, l16, l17, l18, l19, l20, l21, l22, l23, l24, l25, l26, l27, l28, l29, l30, l31, l40, l48, l52, l57, l60, l65, l97, l99, l100, l102, l119, l122, l179, l197, l200, l201, l237, l436, l437, pk_mul, nI_add, inb_nI, nclamp, dlt, dle, deq, bif_t, bif_f, bif_nt, bif_nf, aft0, aft1, decide_true, decide_false, Bool.not_true, Bool.not_false, cond_true, cond_false, Nat.add_sub_cancel, Nat.add_one_sub_one, ou9, mo1, nI_MO, OU_lt, OU_ge, Nat.not_lt_zero, Bool.or_false, Bool.or_true, Bool.true_or, Bool.false_or, Bool.and_true, Bool.and_false, Bool.true_and, Bool.false_and, bI_0n, bI_1n, Bool.not_not, t1, t9]
        rfl
      · have t1 : decide (0 ≤ v) = true := by simp
        simp (disch := omega) only [l0, l1, l2, l3, l4, l5, l6, l7, l8, l9, l10, l11, l12, l13, l14, l15, l16, l17, l18, l19, l20, l21, l22, l23, l24, l25, l26, l27, l28, l29, l30, l31, l40, l48, l52, l57, l60, l65, l97, l99, l100, l102, l119, l122, l179, l197, l200, l201, l237, l436, l437, pk_mul, nI_add, inb_nI, nclamp, dlt, dle, deq, bif_t, bif_f, bif_nt, bif_nf, aft0, aft1, decide_true, decide_false, Bool.not_true, Bool.not_false, cond_true, cond_false, Nat.add_sub_cancel, Nat.add_one_sub_one, ou9, mo1, nI_MO, OU_lt, OU_ge, Nat.not_lt_zero, Bool.or_false, Bool.or_true, Bool.true_or, Bool.false_or, Bool.and_true, Bool.and_false, Bool.true_and, Bool.false_and, bI_0n, bI_1n, Bool.not_not, t1, t9]
        rfl
      · have t1 : decide (2 ≤ v) = true := by simp; exact v2 rfl
        simp (disch := omega) only [l0, l1, l2, l3, l4, l5, l6, l7, l8, l9, l10, l11, l12, l13, l14, l15, l16, l17, l18, l19, l20, l21, l22, l23, l24, l25, l26, l27, l28, l29, l30, l31, l40, l48, l52, l57, l60, l65, l97, l99, l100, l102, l119, l122, l179, l197, l200, l201, l237, l436, l437, pk_mul, nI_add, inb_nI, nclamp, dlt, dle, deq, bif_t, bif_f, bif_nt, bif_nf, aft0, aft1, decide_true, decide_false, Bool.not_true, Bool.not_false, cond_true, cond_false, Nat.add_sub_cancel, Nat.add_one_sub_one, ou9, mo1, nI_MO, OU_lt, OU_ge, Nat.not_lt_zero, Bool.or_false, Bool.or_true, Bool.true_or, Bool.false_or, Bool.and_true, Bool.and_false, Bool.true_and, Bool.false_and, bI_0n, bI_1n, Bool.not_not, t1, t9]
        rfl
  rcases rng3 a (lo := 0) (hi := 2) (by omega) (by omega) with ⟨k, k0, k2, rfl⟩ | ⟨hr, hc⟩ | ⟨hr, hc1, hc2, hc3⟩
  · have lim : ∀ lo, lo ≤ 9 → (k = 0 → lo = 1) → (k = 1 → lo = 0) → (k = 2 → lo = 2) → OPR d i g X N T K M dd yB_rule yM_rule [.int (nI k), .int b] := by
      intro lo l9 e0 e1 e2
      rcases rng3 b (lo := lo) (hi := 9) (by omega) (by omega) with ⟨v, v0, v2, rfl⟩ | ⟨hr, hc⟩ | ⟨hr, hc1, hc2, hc3⟩
      · exact good k v (by omega) rfl rfl (by omega) (by omega) v2
      · refine op_ro MO h ?_ ?_
        · rw [kB_rule, eB_rule_0]
          have e : k = 0 ∨ k = 1 ∨ k = 2 := by omega
          rcases e with e | e | e <;> subst e
          · rw [e0 rfl] at hc
            simp (disch := omega) only [l0, l1, l2, l3, l4, l5, l6, l7, l8, l9, l10, l11, l12, l13, l14, l15, l16, l17, l18, l19, l20, l21, l22, l23, l24, l25, l26, l27, l28, l29, l30, l31, l40, l48, l52, l57, l60, l65, l97, l99, l100, l102, l119, l122, l179, l197, l200, l201, l237, l436, l437, pk_mul, nI_add, inb_nI, nclamp, dlt, dle, deq, bif_t, bif_f, bif_nt, bif_nf, aft0, aft1, decide_true, decide_false, Bool.not_true, Bool.not_false, cond_true, cond_false, Nat.add_sub_cancel, Nat.add_one_sub_one, ou9, mo1, nI_MO, OU_lt, OU_ge, Nat.not_lt_zero, Bool.or_false, Bool.or_true, Bool.true_or, Bool.false_or, Bool.and_true, Bool.and_false, Bool.true_and, Bool.false_and, bI_0n, bI_1n, Bool.not_not, g70, g80, hc]
          · rw [e1 rfl] at hc
            simp (disch := omega) only [l0, l1, l2, l3, l4, l5, l6, l7, l8, l9, l10, l11, l12, l13, l14, l15, l16, l17, l18, l19, l20, l21, l22, l23, l24, l25, l26, l27, l28, l29, l30, l31, l40, l48, l52, l57, l60, l65, l97, l99, l100, l102, l119, l122, l179, l197, l200, l201, l237, l436, l437, pk_mul, nI_add, inb_nI, nclamp, dlt, dle, deq, bif_t, bif_f, bif_nt, bif_nf, aft0, aft1, decide_true, decide_false, Bool.not_true, Bool.not_false, cond_true, cond_false, Nat.add_sub_cancel, Nat.add_one_sub_one, ou9, mo1, nI_MO, OU_lt, OU_ge, Nat.not_lt_zero, Bool.or_false, Bool.or_true, Bool.true_or, Bool.false_or, Bool.and_true, Bool.and_false, Bool.true_and, Bool.false_and, bI_0n, bI_1n, Bool.not_not, g71, g81, hc]
          · rw [e2 rfl] at hc
            simp (disch := omega) only [l0, l1, l2, l3, l4, l5, l6, l7, l8, l9, l10, l11, l12, l13, l14, l15, l16, l17, l18, l19, l20, l21, l22, l23, l24, l25, l26, l27, l28, l29, l30, l31, l40, l48, l52, l57, l60, l65, l97, l99, l100, l102, l119, l122, l179, l197, l200, l201, l237, l436, l437, pk_mul, nI_add, inb_nI, nclamp, dlt, dle, deq, bif_t, bif_f, bif_nt, bif_nf, aft0, aft1, decide_true, decide_false, Bool.not_true, Bool.not_false, cond_true, cond_false, Nat.add_sub_cancel, Nat.add_one_sub_one, ou9, mo1, nI_MO, OU_lt, OU_ge, Nat.not_lt_zero, Bool.or_false, Bool.or_true, Bool.true_or, Bool.false_or, Bool.and_true, Bool.and_false, Bool.true_and, Bool.false_and, bI_0n, bI_1n, Bool.not_not, g72, g82, hc]
        · rw [hM_eq, kM_rule, eM_rule_0, w1, w0, w2, w9, cM_rng (d + 38), cM_rng (d + 38), cM_rng (d + 38), aft1, aft1, aft1, eM_rule_13, eM_rule_33, eM_rule_55]
          have e : k = 0 ∨ k = 1 ∨ k = 2 := by omega
          rcases e with e | e | e <;> subst e
          · rw [e0 rfl] at hr
            simp (disch := omega) only [l0, l1, l2, l3, l4, l5, l6, l7, l8, l9, l10, l11, l12, l13, l14, l15, l16, l17, l18, l19, l20, l21, l22, l23, l24, l25, l26, l27, l28, l29, l30, l31, l40, l48, l52, l57, l60, l65, l97, l99, l100, l102, l119, l122, l179, l197, l200, l201, l237, l436, l437, pk_mul, nI_add, inb_nI, nclamp, dlt, dle, deq, bif_t, bif_f, bif_nt, bif_nf, aft0, aft1, decide_true, decide_false, Bool.not_true, Bool.not_false, cond_true, cond_false, Nat.add_sub_cancel, Nat.add_one_sub_one, ou9, mo1, nI_MO, OU_lt, OU_ge, Nat.not_lt_zero, Bool.or_false, Bool.or_true, Bool.true_or, Bool.false_or, Bool.and_true, Bool.and_false, Bool.true_and, Bool.false_and, bI_0n, bI_1n, Bool.not_not, hr]
          · rw [e1 rfl] at hr
            simp (disch := omega) only [l0, l1, l2, l3, l4, l5, l6, l7, l8, l9, l10, l11, l12, l13, l14, l15, l16, l17, l18, l19, l20, l21, l22, l23, l24, l25, l26, l27, l28, l29, l30, l31, l40, l48, l52, l57, l60, l65, l97, l99, l100, l102, l119, l122, l179, l197, l200, l201, l237, l436, l437, pk_mul, nI_add, inb_nI, nclamp, dlt, dle, deq, bif_t, bif_f, bif_nt, bif_nf, aft0, aft1, decide_true, decide_false, Bool.not_true, Bool.not_false, cond_true, cond_false, Nat.add_sub_cancel, Nat.add_one_sub_one, ou9, mo1, nI_MO, OU_lt, OU_ge, Nat.not_lt_zero, Bool.or_false, Bool.or_true, Bool.true_or, Bool.false_or, Bool.and_true, Bool.and_false, Bool.true_and, Bool.false_and, bI_0n, bI_1n, Bool.not_not, hr]
          · rw [e2 rfl] at hr
            simp (disch := omega) only [l0, l1, l2, l3, l4, l5, l6, l7, l8, l9, l10, l11, l12, l13, l14, l15, l16, l17, l18, l19, l20, l21, l22, l23, l24, l25, l26, l27, l28, l29, l30, l31, l40, l48, l52, l57, l60, l65, l97, l99, l100, l102, l119, l122, l179, l197, l200, l201, l237, l436, l437, pk_mul, nI_add, inb_nI, nclamp, dlt, dle, deq, bif_t, bif_f, bif_nt, bif_nf, aft0, aft1, decide_true, decide_false, Bool.not_true, Bool.not_false, cond_true, cond_false, Nat.add_sub_cancel, Nat.add_one_sub_one, ou9, mo1, nI_MO, OU_lt, OU_ge, Nat.not_lt_zero, Bool.or_false, Bool.or_true, Bool.true_or, Bool.false_or, Bool.and_true, Bool.and_false, Bool.true_and, Bool.false_and, bI_0n, bI_1n, Bool.not_not, hr]
      · refine op_ro MO h ?_ ?_
        · rw [kB_rule, eB_rule_0]
          have e : k = 0 ∨ k = 1 ∨ k = 2 := by omega
          rcases e with e | e | e <;> subst e
          · rw [e0 rfl] at hc1
            simp (disch := omega) only [l0, l1, l2, l3, l4, l5, l6, l7, l8, l9, l10, l11, l12, l13, l14, l15, l16, l17, l18, l19, l20, l21, l22, l23, l24, l25, l26, l27, l28, l29, l30, l31, l40, l48, l52, l57, l60, l65, l97, l99, l100, l102, l119, l122, l179, l197, l200, l201, l237, l436, l437, pk_mul, nI_add, inb_nI, nclamp, dlt, dle, deq, bif_t, bif_f, bif_nt, bif_nf, aft0, aft1, decide_true, decide_false, Bool.not_true, Bool.not_false, cond_true, cond_false, Nat.add_sub_cancel, Nat.add_one_sub_one, ou9, mo1, nI_MO, OU_lt, OU_ge, Nat.not_lt_zero, Bool.or_false, Bool.or_true, Bool.true_or, Bool.false_or, Bool.and_true, Bool.and_false, Bool.true_and, Bool.false_and, bI_0n, bI_1n, Bool.not_not, g70, g80, hc1, hc3]
          · rw [e1 rfl] at hc1
            simp (disch := omega) only [l0, l1, l2, l3, l4, l5, l6, l7, l8, l9, l10, l11, l12, l13, l14, l15, l16, l17, l18, l19, l20, l21, l22, l23, l24, l25, l26, l27, l28, l29, l30, l31, l40, l48, l52, l57, l60, l65, l97, l99, l100, l102, l119, l122, l179, l197, l200, l201, l237, l436, l437, pk_mul, nI_add, inb_nI, nclamp, dlt, dle, deq, bif_t, bif_f, bif_nt, bif_nf, aft0, aft1, decide_true, decide_false, Bool.not_true, Bool.not_false, cond_true, cond_false, Nat.add_sub_cancel, Nat.add_one_sub_one, ou9, mo1, nI_MO, OU_lt, OU_ge, Nat.not_lt_zero, Bool.or_false, Bool.or_true, Bool.true_or, Bool.false_or, Bool.and_true, Bool.and_false, Bool.true_and, Bool.false_and, bI_0n, bI_1n, Bool.not_not, g71, g81, hc1, hc3]
          · rw [e2 rfl] at hc1
            simp (disch := omega) only [l0, l1, l2, l3, l4, l5, l6, l7, l8, l9, l10, l11, l12, l13, l14, l15, l16, l17, l18, l19, l20, l21, l22, l23, l24, l25, l26, l27, l28, l29, l30, l31, l40, l48, l52, l57, l60, l65, l97, l99, l100, l102, l119, l122, l179, l197, l200, l201, l237, l436, l437, pk_mul, nI_add, inb_nI, nclamp, dlt, dle, deq, bif_t, bif_f, bif_nt, bif_nf, aft0, aft1, decide_true, decide_false, Bool.not_true, Bool.not_false, cond_true, cond_false, Nat.add_sub_cancel, Nat.add_one_sub_one, ou9, mo1, nI_MO, OU_lt, OU_ge, Nat.not_lt_zero, Bool.or_false, Bool.or_true, Bool.true_or, Bool.false_or, Bool.and_true, Bool.and_false, Bool.true_and, Bool.false_and, bI_0n, bI_1n, Bool.not_not, g72, g82, hc1, hc3]
        · rw [hM_eq, kM_rule, eM_rule_0, w1, w0, w2, w9, cM_rng (d + 38), cM_rng (d + 38), cM_rng (d + 38), aft1, aft1, aft1, eM_rule_13, eM_rule_33, eM_rule_55]
          have e : k = 0 ∨ k = 1 ∨ k = 2 := by omega
          rcases e with e | e | e <;> subst e
          · rw [e0 rfl] at hr
            simp (disch := omega) only [l0, l1, l2, l3, l4, l5, l6, l7, l8, l9, l10, l11, l12, l13, l14, l15, l16, l17, l18, l19, l20, l21, l22, l23, l24, l25, l26, l27, l28, l29, l30, l31, l40, l48, l52, l57, l60, l65, l97, l99, l100, l102, l119, l122, l179, l197, l200, l201, l237, l436, l437, pk_mul, nI_add, inb_nI, nclamp, dlt, dle, deq, bif_t, bif_f, bif_nt, bif_nf, aft0, aft1, decide_true, decide_false, Bool.not_true, Bool.not_false, cond_true, cond_false, Nat.add_sub_cancel, Nat.add_one_sub_one, ou9, mo1, nI_MO, OU_lt, OU_ge, Nat.not_lt_zero, Bool.or_false, Bool.or_true, Bool.true_or, Bool.false_or, Bool.and_true, Bool.and_false, Bool.true_and, Bool.false_and, bI_0n, bI_1n, Bool.not_not, hr]
          · rw [e1 rfl] at hr
            simp (disch := omega) only [l0, l1, l2, l3, l4, l5, l6, l7, l8, l9, l10, l11, l12, l13, l14, l15, l16, l17, l18, l19, l20, l21, l22, l23, l24, l25, l26, l27, l28, l29, l30, l31, l40, l48, l52, l57, l60, l65, l97, l99, l100, l102, l119, l122, l179, l197, l200, l201, l237, l436, l437, pk_mul, nI_add, inb_nI, nclamp, dlt, dle, deq, bif_t, bif_f, bif_nt, bif_nf, aft0, aft1, decide_true, decide_false, Bool.not_true, Bool.not_false, cond_true, cond_false, Nat.add_sub_cancel, Nat.add_one_sub_one, ou9, mo1, nI_MO, OU_lt, OU_ge, Nat.not_lt_zero, Bool.or_false, Bool.or_true, Bool.true_or, Bool.false_or, Bool.and_true, Bool.and_false, Bool.true_and, Bool.false_and, bI_0n, bI_1n, Bool.not_not, hr]
          · rw [e2 rfl] at hr
            simp (disch := omega) only [l0, l1, l2, l3, l4, l5, l6, l7, l8, l9, l10, l11, l12, l13, l14, l15, l16, l17, l18, l19, l20, l21, l22, l23, l24, l25, l26, l27, l28, l29, l30, l31, l40, l48, l52, l57, l60, l65, l97, l99, l100, l102, l119, l122, l179, l197, l200, l201, l237, l436, l437, pk_mul, nI_add, inb_nI, nclamp, dlt, dle, deq, bif_t, bif_f, bif_nt, bif_nf, aft0, aft1, decide_true, decide_false, Bool.not_true, Bool.not_false, cond_true, cond_false, Nat.add_sub_cancel, Nat.add_one_sub_one, ou9, mo1, nI_MO, OU_lt, OU_ge, Nat.not_lt_zero, Bool.or_false, Bool.or_true, Bool.true_or, Bool.false_or, Bool.and_true, Bool.and_false, Bool.true_and, Bool.false_and, bI_0n, bI_1n, Bool.not_not, hr]
    have e : k = 0 ∨ k = 1 ∨ k = 2 := by omega
    rcases e with e | e | e
    · exact lim 1 (by omega) (by omega) (by omega) (by omega)
    · exact lim 0 (by omega) (by omega) (by omega) (by omega)
    · exact lim 2 (by omega) (by omega) (by omega) (by omega)
  · exact bad hr (Or.inl hc)
  · exact bad hr (Or.inr ⟨hc1, hc2⟩)
