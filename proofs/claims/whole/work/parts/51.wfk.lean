/-! What always holds is kept: BEASTS of the herd, walks, HARMS, heaps. -/
theorem herd1_fr {s : Nat → Int32} {b k : Nat} (h4 : k ≠ 4) (h0 : k ≠ 179 + 3 * b) (h2 : k ≠ 179 + 3 * b + 2) : herd1 s b k = s k := by
  unfold herd1
  cases decide (s (179 + 3 * b) + 1 < s 0) with
  | false => rw [cond_false, upd_ne h0]
  | true =>
    cases decide (s (9 + 3 * (s (179 + 3 * b) + 1).toNatClampNeg + 1) ≤ 0) with
    | true => rw [cond_true, cond_true, upd_ne h0]
    | false => rw [cond_true, cond_false, upd_ne h2, upd_ne h4, upd_ne h0]
theorem WF_herd1 {s : Nat → Int32} {nc np nb T : Nat} {B : Nat → Nat} {b : Nat} (h : WF s nc np nb T B) (hb : b < nb) (hp : ¬ s (179 + 3 * b) < nI 0) : WF (herd1 s b) nc np nb T B := by
  have hnb : nb ≤ 6 := h.1.2.2.1.2
  have h0 := h.1.1.1
  have hnc := h.1.1.2.2
  refine WF_b (b := b) h (by omega) (fun k h4 hk => herd1_fr h4 (by omega) (by omega)) (fun _ => ?_)
  obtain ⟨hq, ha, hl⟩ := h.2.2.2 b hb
  rcases hq with hq | ⟨c, hc, hq⟩
  · rw [hq] at hp
    exact absurd (by decide) hp
  · refine ⟨?_, ?_, ?_⟩
    · unfold herd1
      rw [h0, hq, nI_1, dlt (by omega) (by omega)]
      by_cases hcc : c + 1 < nc
      · refine Or.inr ⟨c + 1, hcc, ?_⟩
        cases decide (s (9 + 3 * (nI (c + 1)).toNatClampNeg + 1) ≤ 0) <;> simp (disch := omega) only [l0, l1, l2, l3, l4, l5, l6, l7, l8, l9, l10, l11, l12, l13, l14, l15, l16, l17, l18, l19, l20, l21, l22, l23, l24, l25, l26, l27, l28, l29, l30, l31, l40, l48, l52, l57, l60, l65, l97, l99, l100, l102, l119, l122, l179, l197, l200, l201, l237, l436, l437, pk_mul, nI_add, inb_nI, nclamp, dlt, dle, deq, bif_t, bif_f, bif_nt, bif_nf, aft0, aft1, decide_true, decide_false, Bool.not_true, Bool.not_false, cond_true, cond_false, Nat.add_sub_cancel, Nat.add_one_sub_one, ou9, mo1, nI_MO, OU_lt, OU_ge, Nat.not_lt_zero, Bool.or_false, Bool.or_true, Bool.true_or, Bool.false_or, Bool.and_true, Bool.and_false, Bool.true_and, Bool.false_and, bI_0n, bI_1n, Bool.not_not, upd_ne, upd_eq]
      · refine Or.inl ?_
        simp (disch := omega) only [l0, l1, l2, l3, l4, l5, l6, l7, l8, l9, l10, l11, l12, l13, l14, l15, l16, l17, l18, l19, l20, l21, l22, l23, l24, l25, l26, l27, l28, l29, l30, l31, l40, l48, l52, l57, l60, l65, l97, l99, l100, l102, l119, l122, l179, l197, l200, l201, l237, l436, l437, pk_mul, nI_add, inb_nI, nclamp, dlt, dle, deq, bif_t, bif_f, bif_nt, bif_nf, aft0, aft1, decide_true, decide_false, Bool.not_true, Bool.not_false, cond_true, cond_false, Nat.add_sub_cancel, Nat.add_one_sub_one, ou9, mo1, nI_MO, OU_lt, OU_ge, Nat.not_lt_zero, Bool.or_false, Bool.or_true, Bool.true_or, Bool.false_or, Bool.and_true, Bool.and_false, Bool.true_and, Bool.false_and, bI_0n, bI_1n, Bool.not_not, upd_eq]
    · rw [herd1_fr (by omega) (by omega) (by omega)]
      exact ha
    · unfold herd1
      cases decide (s (179 + 3 * b) + 1 < s 0) with
      | false => rw [cond_false, upd_ne (by omega)]; exact hl
      | true =>
        cases decide (s (9 + 3 * (s (179 + 3 * b) + 1).toNatClampNeg + 1) ≤ 0) with
        | true => rw [cond_true, cond_true, upd_ne (by omega)]; exact hl
        | false =>
          rw [cond_true, cond_false, upd_eq]
          cases decide (rnd (nxt (s 4)) < s (9 + 3 * (s (179 + 3 * b) + 1).toNatClampNeg + 1)) with
          | true => exact Or.inr rfl
          | false => exact Or.inl rfl
theorem WF_herdF {nc np nb T : Nat} {B : Nat → Nat} {b : Nat} (hb : b < nb) : ∀ k (s : Nat → Int32), WF s nc np nb T B → WF (herdF b k s) nc np nb T B
  | 0, s, h => h
  | k + 1, s, h => by
    rw [herdF]
    by_cases hp : s (179 + 3 * b) < 0
    · have : decide (s (179 + 3 * b) < 0) = true := by simp [hp]
      rw [this, Bool.true_or, cond_true]
      exact h
    · cases decide (s (179 + 3 * b) < 0) || !decide (s (179 + 3 * b + 2) = 0) with
      | true => exact h
      | false => exact WF_herdF hb k _ (WF_herd1 h hb hp)
theorem herdF_fr {b j : Nat} (h4 : j ≠ 4) (h0 : j ≠ 179 + 3 * b) (h2 : j ≠ 179 + 3 * b + 2) : ∀ k (s : Nat → Int32), herdF b k s j = s j
  | 0, s => rfl
  | k + 1, s => by
    rw [herdF]
    cases decide (s (179 + 3 * b) < 0) || !decide (s (179 + 3 * b + 2) = 0) with
    | true => rfl
    | false => rw [cond_false, herdF_fr h4 h0 h2 k, herd1_fr h4 h0 h2]
theorem WF_kind {s : Nat → Int32} {nc np nb T : Nat} {B : Nat → Nat} {p k : Nat} (h : WF s nc np nb T B) (hp : p < 20) (hk : 1 ≤ k ∧ k ≤ 7) : WF (upd s (99 + 4 * p) (nI k)) nc np nb T B := by
  refine WF_p (p := p) h hp (fun j hj => upd_ne (by omega)) (fun _ _ => rfl) (fun hpn => ?_)
  obtain ⟨_, b, c, e⟩ := h.2.2.1 p hpn
  unfold wfP
  rw [upd_eq, upd_ne (by omega), upd_ne (by omega), upd_ne (by omega)]
  exact ⟨⟨k, hk.1, hk.2, rfl⟩, b, c, e⟩
theorem WF_place {s : Nat → Int32} {nc np nb T : Nat} {B : Nat → Nat} {p : Nat} {x : Int32} (h : WF s nc np nb T B) (hp : p < 20) (hx : okQ nc x) : WF (upd s (99 + 4 * p + 1) x) nc np nb T B := by
  refine WF_p (p := p) h hp (fun j hj => upd_ne (by omega)) (fun _ _ => rfl) (fun hpn => ?_)
  obtain ⟨a, _, c, e⟩ := h.2.2.1 p hpn
  unfold wfP
  rw [upd_eq, upd_ne (by omega), upd_ne (by omega), upd_ne (by omega)]
  exact ⟨a, hx, c, e⟩
theorem WF_walk {nc np nb T : Nat} {B : Nat → Nat} {p : Nat} (hp : p < 20) : ∀ k (s : Nat → Int32) (c : Nat), c < nc → s (99 + 4 * p + 1) = nI c → WF s nc np nb T B → WF (walkF np p k s) nc np nb T B
  | 0, s, _, _, _, h => h
  | k + 1, s, c, hc, hs, h => by
    rw [walkF]
    have h0 := h.1.1.1
    have hnc := h.1.1.2.2
    rw [hs, h0, nI_1, deq (by omega) (by omega)]
    by_cases hcc : c + 1 = nc
    · rw [bif_t hcc]
      exact WF_place h hp (Or.inl rfl)
    · rw [bif_f hcc]
      cases freeB s np (nI (c + 1)).toNatClampNeg with
      | true => exact WF_walk hp k _ (c + 1) (by omega) (upd_eq _ _ _) (WF_place h hp (Or.inr ⟨c + 1, by omega, rfl⟩))
      | false => exact h
theorem upd_id {s : Nat → Int32} {k : Nat} : upd s k (s k) = s := by
  funext j
  by_cases h : j = k <;> simp [upd, h]
theorem WF_run {s : Nat → Int32} {nc np nb T : Nat} {B : Nat → Nat} {p c : Nat} (h : WF s nc np nb T B) (hp : p < 20) (hc : c < nc) (hs : s (99 + 4 * p + 1) = nI c) : WF (runF s np nb p) nc np nb T B := by
  unfold runF
  cases under (s (99 + 4 * p)) (nI 3) with
  | false => exact WF_walk hp _ s c hc hs h
  | true =>
    rw [cond_true]
    cases decide (nrF s (s (99 + 4 * p + 1)) nb ≤ s 6) <;> cases decide (s (99 + 4 * p) = nI 3) <;> cases decide (s 7 ≤ nI (faN s (s (99 + 4 * p + 1)) np)) <;> simp only [cond_true, cond_false] <;> first | exact WF_kind h hp (by omega) | (rw [upd_id]; exact h)
theorem WF_doA {s : Nat → Int32} {nc np nb T : Nat} {B : Nat → Nat} {p c : Nat} {act : Int32} (h : WF s nc np nb T B) (hp : p < 20) (hc : c < nc) (hs : s (99 + 4 * p + 1) = nI c) : WF (doA s np nb p act) nc np nb T B := by
  unfold doA
  cases decide (act = nI 2) && decide (s (9 + 3 * (s (99 + 4 * p + 1)).toNatClampNeg + 2) = nI 1) with
  | true => exact WF_place h hp (Or.inl rfl)
  | false =>
    cases decide (act = nI 0) || decide (act = nI 2) with
    | true => exact WF_run h hp hc hs
    | false =>
      cases decide (act = nI 3) && !under (s (99 + 4 * p)) (nI 3) with
      | true => exact WF_kind h hp (by omega)
      | false => exact h
theorem WF_hpR {nc np nb T : Nat} {B : Nat → Nat} {s : Nat → Int32} {c : Nat} (h : WF s nc np nb T B) : ∀ p, p ≤ 20 → WF (hpR s c p) nc np nb T B
  | 0, _ => h
  | p + 1, hp => by
    rw [hpR]
    cases decide (hpR s c p (99 + 4 * p + 1) = nI c) && decide (hpR s c p (99 + 4 * p) = nI 3) with
    | true => exact WF_kind (WF_hpR h p (by omega)) (by omega) (by omega)
    | false => exact WF_hpR h p (by omega)
theorem WF_hpC {nc np nb T : Nat} {B : Nat → Nat} {s : Nat → Int32} (h : WF s nc np nb T B) : ∀ c, WF (hpC np s c) nc np nb T B
  | 0 => h
  | c + 1 => by
    rw [hpC]
    cases decide (nI (faN (hpC np s c) (nI c) np) < hpC np s c 7) with
    | true => exact WF_hpC h c
    | false => exact WF_hpR (WF_hpC h c) np h.1.2.1.2
theorem hv_le (s : Nat → Int32) (nb p : Nat) : hv s nb p ≤ 3 := by
  unfold hv
  have := harmN_le s nb p
  split <;> omega
theorem WF_hrmS {nc np nb T : Nat} {B : Nat → Nat} {s : Nat → Int32} (h : WF s nc np nb T B) : ∀ j, j ≤ 20 → WF (hrmS nb s j) nc np nb T (fun p => if p < j then B p + 3 else B p)
  | 0, _ => by
    refine WF_mono h (Nat.le_refl _) (fun p _ => ?_)
    simp
  | j + 1, hj => by
    have ih := WF_hrmS h j (by omega)
    rw [hrmS, hrm1]
    have hle := hv_le (hrmS nb s j) nb j
    by_cases hz : hv (hrmS nb s j) nb j = 0
    · rw [if_pos hz]
      refine WF_mono ih (Nat.le_refl _) (fun p _ => ?_)
      by_cases h1 : p < j <;> by_cases h2 : p < j + 1 <;> simp [h1, h2] <;> omega
    · rw [if_neg hz]
      refine WF_p (p := j) ih (by omega) (fun k hk => by rw [upd_ne (by omega), upd_ne (by omega)]) (fun q hq => ?_) (fun hjn => ?_)
      · by_cases h1 : q < j
        · simp [h1, show q < j + 1 by omega]
        · simp [h1, show ¬ q < j + 1 by omega]
      · obtain ⟨⟨k, k1, k2, k3⟩, b, c, ⟨hh, e1, e2⟩⟩ := ih.2.2.1 j hjn
        simp only [Nat.lt_irrefl, if_false] at e1
        unfold wfP
        rw [upd_eq, upd_ne (by omega), upd_ne (by omega), upd_ne (by omega), upd_ne (by omega), upd_ne (by omega), upd_eq]
        refine ⟨?_, b, c, ⟨hh + hv (hrmS nb s j) nb j, ?_, ?_⟩⟩
        · cases under (hrmS nb s j (99 + 4 * j)) (nI 1) with
          | true => exact ⟨3, by omega, by omega, rfl⟩
          | false => exact ⟨k, k1, k2, k3⟩
        · simp; omega
        · rw [e2, nI_add]
