/-! ROWS: what the class's log and the model's record hold of a TRIAL; prove, row, alterRow, judge. -/
abbrev EV3 : Type := Int32 × Int32 × Int32
def trE (nc np nb n : Nat) (C : Nat → CL) (wo : Int32) (s : Nat → Int32) : Nat → List EV3
  | 0 => []
  | j + 1 => trE nc np nb n C wo s j ++ (goE np nb n C wo (trS nc np nb n C wo s j)).map (fun e => (nI (j + 1), e.1, e.2))
theorem trE_len (nc np nb n : Nat) (C : Nat → CL) (wo : Int32) (s : Nat → Int32) : ∀ j, (trE nc np nb n C wo s j).length = trN nc np nb n C wo s j
  | 0 => rfl
  | j + 1 => by rw [trE, List.length_append, List.length_map, trN, trE_len nc np nb n C wo s j]
-- the class's
def lgG (a c : Nat) (X : XS) (e : EV3) : XS := bif decide (X.2.1 c < 24) then xV (xA (xA (xA X a (upd (X.1 a) (X.2.1 c).toNatClampNeg e.1)) (a + 1) (upd (X.1 (a + 1)) (X.2.1 c).toNatClampNeg e.2.1)) (a + 2) (upd (X.1 (a + 2)) (X.2.1 c).toNatClampNeg e.2.2)) c (X.2.1 c + 1) else X
theorem lgA_22 (X : XS) (t p w : Int32) : lgA 22 X t p w = lgG 8 6 X (t, p, w) := id rfl
theorem lgA_27 (X : XS) (t p w : Int32) : lgA 27 X t p w = lgG 11 7 X (t, p, w) := id rfl
theorem lgE_map {r a c : Nat} (hA : ∀ X t p w, lgA r X t p w = lgG a c X (t, p, w)) (t : Int32) : ∀ (E : EVT) (X : XS), lgE r t X E = (E.map (fun e => (t, e.1, e.2))).foldl (lgG a c) X
  | [], _ => rfl
  | e :: E, X => by
    show lgE r t (lgA r X t e.1 e.2) E = _
    rw [hA, lgE_map hA t E]
    rfl
theorem lgT_fold {r a c : Nat} (hA : ∀ X t p w, lgA r X t p w = lgG a c X (t, p, w)) (nc np nb n : Nat) (C : Nat → CL) (wo : Int32) (s : Nat → Int32) (X : XS) : ∀ j, lgT r nc np nb n C wo s X j = (trE nc np nb n C wo s j).foldl (lgG a c) X
  | 0 => rfl
  | j + 1 => by rw [lgT, lgT_fold hA nc np nb n C wo s X j, lgE_map hA, trE, List.foldl_append]
theorem lg_fold (a c : Nat) : ∀ (E : List EV3) (X : XS) (m : Nat), m ≤ 24 → X.2.1 c = nI m →
    (E.foldl (lgG a c) X).2.1 c = nI (min 24 (m + E.length)) ∧ (∀ k, (k < a ∨ a + 3 ≤ k) → (E.foldl (lgG a c) X).1 k = X.1 k) ∧ (∀ k, k ≠ c → (E.foldl (lgG a c) X).2.1 k = X.2.1 k) ∧ (E.foldl (lgG a c) X).2.2 = X.2.2 ∧ (∀ i, i < m → ∀ w, w < 3 → (E.foldl (lgG a c) X).1 (a + w) i = X.1 (a + w) i) ∧ (∀ i e, E[i]? = some e → m + i < 24 → (E.foldl (lgG a c) X).1 a (m + i) = e.1 ∧ (E.foldl (lgG a c) X).1 (a + 1) (m + i) = e.2.1 ∧ (E.foldl (lgG a c) X).1 (a + 2) (m + i) = e.2.2)
  | [], X, m, hm, hX => ⟨by rw [List.length_nil, Nat.add_zero, Nat.min_eq_right hm]; exact hX, fun _ _ => rfl, fun _ _ => rfl, rfl, fun _ _ _ _ => rfl, fun i e h _ => by simp at h⟩
  | x :: E, X, m, hm, hX => by
    rw [List.foldl_cons]
    by_cases h24 : m < 24
    · have e1 : lgG a c X x = xV (xA (xA (xA X a (upd (X.1 a) m x.1)) (a + 1) (upd (X.1 (a + 1)) m x.2.1)) (a + 2) (upd (X.1 (a + 2)) m x.2.2)) c (nI (m + 1)) := by
        unfold lgG
        rw [hX]
        simp (disch := omega) only [l0, l1, l2, l3, l4, l5, l6, l7, l8, l9, l10, l11, l12, l13, l14, l15, l16, l17, l18, l19, l20, l21, l22, l23, l24, l25, l26, l27, l28, l29, l30, l31, l40, l48, l52, l57, l60, l65, l97, l99, l100, l102, l119, l122, l179, l197, l200, l201, l237, l436, l437, pk_mul, nI_add, inb_nI, nclamp, dlt, dle, deq, bif_t, bif_f, bif_nt, bif_nf, aft0, aft1, decide_true, decide_false, Bool.not_true, Bool.not_false, cond_true, cond_false, Nat.add_sub_cancel, Nat.add_one_sub_one, ou9, mo1, nI_MO, OU_lt, OU_ge, Nat.not_lt_zero, Bool.or_false, Bool.or_true, Bool.true_or, Bool.false_or, Bool.and_true, Bool.and_false, Bool.true_and, Bool.false_and, bI_0n, bI_1n, Bool.not_not]
      obtain ⟨q1, q2, q3, q4, q5, q6⟩ := lg_fold a c E (lgG a c X x) (m + 1) (by omega) (by rw [e1, xV_s])
      have a0 : (lgG a c X x).1 a = upd (X.1 a) m x.1 := by rw [e1, xV_1, xA_n (by omega), xA_n (by omega), xA_s]
      have a1 : (lgG a c X x).1 (a + 1) = upd (X.1 (a + 1)) m x.2.1 := by rw [e1, xV_1, xA_n (by omega), xA_s]
      have a2 : (lgG a c X x).1 (a + 2) = upd (X.1 (a + 2)) m x.2.2 := by rw [e1, xV_1, xA_s]
      refine ⟨?_, fun k hk => ?_, fun k hk => ?_, ?_, fun i hi w hw => ?_, fun i e he hlt => ?_⟩
      · rw [q1, List.length_cons, show m + 1 + E.length = m + (E.length + 1) by omega]
      · rw [q2 k hk, e1, xV_1, xA_n (by omega), xA_n (by omega), xA_n (by omega)]
      · rw [q3 k hk, e1, xV_n hk]
        rfl
      · rw [q4, e1]
        rfl
      · rw [q5 i (by omega) w hw]
        have e : w = 0 ∨ w = 1 ∨ w = 2 := by omega
        rcases e with e | e | e <;> subst e
        · rw [Nat.add_zero, a0, upd_ne (by omega)]
        · rw [a1, upd_ne (by omega)]
        · rw [a2, upd_ne (by omega)]
      · cases i with
        | zero =>
          rw [List.getElem?_cons_zero] at he
          cases he
          have z0 : (E.foldl (lgG a c) (lgG a c X x)).1 a m = (lgG a c X x).1 a m := q5 m (by omega) 0 (by omega)
          rw [Nat.add_zero, z0, q5 m (by omega) 1 (by omega), q5 m (by omega) 2 (by omega), a0, a1, a2, upd_eq, upd_eq, upd_eq]
          exact ⟨rfl, rfl, rfl⟩
        | succ i =>
          rw [List.getElem?_cons_succ] at he
          have := q6 i e he (by omega)
          rw [show m + (i + 1) = m + 1 + i by omega]
          exact this
    · have e1 : lgG a c X x = X := by
        unfold lgG
        rw [hX]
        simp (disch := omega) only [l0, l1, l2, l3, l4, l5, l6, l7, l8, l9, l10, l11, l12, l13, l14, l15, l16, l17, l18, l19, l20, l21, l22, l23, l24, l25, l26, l27, l28, l29, l30, l31, l40, l48, l52, l57, l60, l65, l97, l99, l100, l102, l119, l122, l179, l197, l200, l201, l237, l436, l437, pk_mul, nI_add, inb_nI, nclamp, dlt, dle, deq, bif_t, bif_f, bif_nt, bif_nf, aft0, aft1, decide_true, decide_false, Bool.not_true, Bool.not_false, cond_true, cond_false, Nat.add_sub_cancel, Nat.add_one_sub_one, ou9, mo1, nI_MO, OU_lt, OU_ge, Nat.not_lt_zero, Bool.or_false, Bool.or_true, Bool.true_or, Bool.false_or, Bool.and_true, Bool.and_false, Bool.true_and, Bool.false_and, bI_0n, bI_1n, Bool.not_not]
      rw [e1]
      obtain ⟨q1, q2, q3, q4, q5, q6⟩ := lg_fold a c E X m hm hX
      refine ⟨?_, q2, q3, q4, q5, fun i e he hlt => by omega⟩
      rw [q1, List.length_cons]
      congr 1
      omega
-- the model's
theorem see_rec (t : Int32) : ∀ (E : EVT) (M : MS) (m : Nat), m + E.length < 100000 → M.2 9 = nI 24 → M.2 11 = t → M.2 10 = nI m →
    (∀ k, k < 3 * m → (recE M E).1 7 k = M.1 7 k) ∧ (∀ i e, E[i]? = some e → m + i < 24 → (recE M E).1 7 (3 * (m + i)) = t ∧ (recE M E).1 7 (3 * (m + i) + 1) = e.1 ∧ (recE M E).1 7 (3 * (m + i) + 2) = e.2)
  | [], M, m, _, _, _, _ => ⟨fun _ _ => rfl, fun i e h _ => by simp at h⟩
  | x :: E, M, m, hb, h9, h11, h10 => by
    rw [List.length_cons] at hb
    have n9 : (seeM M x.1 x.2).2 9 = nI 24 := (seeM_2 (by omega) (by omega)).trans h9
    have n11 : (seeM M x.1 x.2).2 11 = t := (seeM_2 (by omega) (by omega)).trans h11
    have n10 : (seeM M x.1 x.2).2 10 = nI (m + 1) := by rw [seeM_10, h10, nI_add]
    obtain ⟨q1, q2⟩ := see_rec t E (seeM M x.1 x.2) (m + 1) (by omega) n9 n11 n10
    have a7 : (seeM M x.1 x.2).1 7 = see7 M x.1 x.2 := by rw [seeM, mV_1, mA_s]
    show (∀ k, k < 3 * m → (recE (seeM M x.1 x.2) E).1 7 k = M.1 7 k) ∧ _
    have s7 : see7 M x.1 x.2 = if m < 24 then upd (upd (upd (M.1 7) (3 * m) t) (3 * m + 1) x.1) (3 * m + 2) x.2 else M.1 7 := by
      unfold see7
      rw [h9, h10, h11]
      by_cases h : m < 24
      · rw [if_pos h]
        simp (disch := omega) only [l0, l1, l2, l3, l4, l5, l6, l7, l8, l9, l10, l11, l12, l13, l14, l15, l16, l17, l18, l19, l20, l21, l22, l23, l24, l25, l26, l27, l28, l29, l30, l31, l40, l48, l52, l57, l60, l65, l97, l99, l100, l102, l119, l122, l179, l197, l200, l201, l237, l436, l437, pk_mul, nI_add, inb_nI, nclamp, dlt, dle, deq, bif_t, bif_f, bif_nt, bif_nf, aft0, aft1, decide_true, decide_false, Bool.not_true, Bool.not_false, cond_true, cond_false, Nat.add_sub_cancel, Nat.add_one_sub_one, ou9, mo1, nI_MO, OU_lt, OU_ge, Nat.not_lt_zero, Bool.or_false, Bool.or_true, Bool.true_or, Bool.false_or, Bool.and_true, Bool.and_false, Bool.true_and, Bool.false_and, bI_0n, bI_1n, Bool.not_not]
      · rw [if_neg h]
        simp (disch := omega) only [l0, l1, l2, l3, l4, l5, l6, l7, l8, l9, l10, l11, l12, l13, l14, l15, l16, l17, l18, l19, l20, l21, l22, l23, l24, l25, l26, l27, l28, l29, l30, l31, l40, l48, l52, l57, l60, l65, l97, l99, l100, l102, l119, l122, l179, l197, l200, l201, l237, l436, l437, pk_mul, nI_add, inb_nI, nclamp, dlt, dle, deq, bif_t, bif_f, bif_nt, bif_nf, aft0, aft1, decide_true, decide_false, Bool.not_true, Bool.not_false, cond_true, cond_false, Nat.add_sub_cancel, Nat.add_one_sub_one, ou9, mo1, nI_MO, OU_lt, OU_ge, Nat.not_lt_zero, Bool.or_false, Bool.or_true, Bool.true_or, Bool.false_or, Bool.and_true, Bool.and_false, Bool.true_and, Bool.false_and, bI_0n, bI_1n, Bool.not_not]
    constructor
    · intro k hk
      rw [q1 k (by omega), a7, s7]
      by_cases h : m < 24
      · rw [if_pos h, upd_ne (by omega), upd_ne (by omega), upd_ne (by omega)]
      · rw [if_neg h]
    · intro i e he hlt
      show (recE (seeM M x.1 x.2) E).1 7 (3 * (m + i)) = t ∧ (recE (seeM M x.1 x.2) E).1 7 (3 * (m + i) + 1) = e.1 ∧ (recE (seeM M x.1 x.2) E).1 7 (3 * (m + i) + 2) = e.2
      cases i with
      | zero =>
        rw [List.getElem?_cons_zero] at he
        cases he
        rw [Nat.add_zero, q1 _ (by omega), q1 _ (by omega), q1 _ (by omega), a7, s7, if_pos (by omega)]
        rw [upd_ne (show 3 * m ≠ 3 * m + 2 by omega), upd_ne (show 3 * m ≠ 3 * m + 1 by omega), upd_eq, upd_ne (show 3 * m + 1 ≠ 3 * m + 2 by omega), upd_eq, upd_eq]
        exact ⟨rfl, rfl, rfl⟩
      | succ i =>
        rw [List.getElem?_cons_succ] at he
        have := q2 i e he (by omega)
        rw [show m + (i + 1) = m + 1 + i by omega]
        exact this
theorem app_get {α : Type} (A B : List α) (i : Nat) : (A ++ B)[A.length + i]? = B[i]? := by
  rw [List.getElem?_append_right (by omega), Nat.add_sub_cancel_left]
theorem tr_seen {nc np nb n : Nat} {C : Nat → CL} {wo : Int32} {s : Nat → Int32} {M : MS} (hnp : np ≤ 20) (h9 : M.2 9 = nI 24) : ∀ j, j ≤ 60 → ∀ i e, (trE nc np nb n C wo s j)[i]? = some e → i < 24 → (trM nc np nb n C wo s M j).1 7 (3 * i) = e.1 ∧ (trM nc np nb n C wo s M j).1 7 (3 * i + 1) = e.2.1 ∧ (trM nc np nb n C wo s M j).1 7 (3 * i + 2) = e.2.2
  | 0, _, i, e, h, _ => by simp [trE] at h
  | j + 1, hj, i, e, h, hi => by
    have ih := tr_seen (nc := nc) (nb := nb) (n := n) (C := C) (wo := wo) (s := s) (M := M) hnp h9 j (by omega)
    have hb := trN_b (nc := nc) (nb := nb) (n := n) (C := C) (wo := wo) (s := s) hnp (show j + 1 ≤ 60 from hj)
    rw [trN] at hb
    have el := trE_len nc np nb n C wo s j
    rw [trM]
    obtain ⟨q1, q2⟩ := see_rec (nI (j + 1)) (goE np nb n C wo (trS nc np nb n C wo s j)) (mV (trM nc np nb n C wo s M j) 11 (nI (j + 1))) (trN nc np nb n C wo s j) (by omega) (by rw [mV_n (by omega), trM_2 (by omega) (by omega) (by omega)]; exact h9) (mV_s _ _ _) (by rw [mV_n (by omega), trM_10])
    rw [trE] at h
    by_cases hl : i < trN nc np nb n C wo s j
    · rw [List.getElem?_append_left (by omega)] at h
      rw [q1 _ (by omega), q1 _ (by omega), q1 _ (by omega), mV_1]
      exact ih i e h hi
    · have ei : i = (trE nc np nb n C wo s j).length + (i - trN nc np nb n C wo s j) := by omega
      rw [ei, app_get, List.getElem?_map] at h
      cases hg : (goE np nb n C wo (trS nc np nb n C wo s j))[i - trN nc np nb n C wo s j]? with
      | none => rw [hg] at h; cases h
      | some x =>
        rw [hg] at h
        cases h
        have := q2 _ x hg (by omega)
        rw [show trN nc np nb n C wo s j + (i - trN nc np nb n C wo s j) = i by omega] at this
        exact this
/-- the first ROW that is not as it was seen, behind it 1; 0 -/
def mtB (R : Nat → Int32) (i : Nat) (e : EV3) : Bool := decide (R (3 * i) = e.1) && (decide (R (3 * i + 1) = e.2.1) && decide (R (3 * i + 2) = e.2.2))
def fmR (R : Nat → Int32) (ev : Nat → EV3) (r : Nat) : Nat → Nat
  | 0 => 0
  | m + 1 => if fmR R ev r m = 0 then (if m < r then (if mtB R m (ev m) = true then 0 else m + 1) else 0) else fmR R ev r m
theorem fmR_le (R : Nat → Int32) (ev : Nat → EV3) (r : Nat) : ∀ m, fmR R ev r m ≤ m
  | 0 => Nat.le_refl _
  | m + 1 => by
    have := fmR_le R ev r m
    rw [fmR]
    split
    · split
      · split <;> omega
      · omega
    · omega
theorem jdg_rec (t : Int32) (R : Nat → Int32) (ev : Nat → EV3) (r : Nat) (hr : r ≤ 24) : ∀ (E : EVT) (M : MS) (m : Nat), m + E.length < 100000 → M.1 8 = R → M.2 12 = nI 1 → M.2 14 = nI r → M.2 11 = t → M.2 10 = nI m → M.2 13 = nI (fmR R ev r m) → (∀ i x, E[i]? = some x → ev (m + i) = (t, x.1, x.2)) → (recE M E).2 13 = nI (fmR R ev r (m + E.length))
  | [], M, m, _, _, _, _, _, _, h13, _ => h13
  | x :: E, M, m, hb, h8, h12, h14, h11, h10, h13, hev => by
    rw [List.length_cons] at hb ⊢
    have ex : ev m = (t, x.1, x.2) := hev 0 x rfl
    have hle := fmR_le R ev r m
    have s13 : (seeM M x.1 x.2).2 13 = nI (fmR R ev r (m + 1)) := by
      rw [seeM, mV_n (by omega), mA_2, mV_s, see13, h8, h12, h14, h11, h10, h13, fmR, ex, mtB]
      by_cases hz : fmR R ev r m = 0
      · rw [if_pos hz, hz]
        by_cases hm : m < r
        · rw [if_pos hm]
          simp (disch := omega) only [l0, l1, l2, l3, l4, l5, l6, l7, l8, l9, l10, l11, l12, l13, l14, l15, l16, l17, l18, l19, l20, l21, l22, l23, l24, l25, l26, l27, l28, l29, l30, l31, l40, l48, l52, l57, l60, l65, l97, l99, l100, l102, l119, l122, l179, l197, l200, l201, l237, l436, l437, pk_mul, nI_add, inb_nI, nclamp, dlt, dle, deq, bif_t, bif_f, bif_nt, bif_nf, aft0, aft1, decide_true, decide_false, Bool.not_true, Bool.not_false, cond_true, cond_false, Nat.add_sub_cancel, Nat.add_one_sub_one, ou9, mo1, nI_MO, OU_lt, OU_ge, Nat.not_lt_zero, Bool.or_false, Bool.or_true, Bool.true_or, Bool.false_or, Bool.and_true, Bool.and_false, Bool.true_and, Bool.false_and, bI_0n, bI_1n, Bool.not_not]
          cases decide (R (3 * m) = t) <;> cases decide (R (3 * m + 1) = x.1) <;> cases decide (R (3 * m + 2) = x.2) <;> rfl
        · rw [if_neg hm]
          simp (disch := omega) only [l0, l1, l2, l3, l4, l5, l6, l7, l8, l9, l10, l11, l12, l13, l14, l15, l16, l17, l18, l19, l20, l21, l22, l23, l24, l25, l26, l27, l28, l29, l30, l31, l40, l48, l52, l57, l60, l65, l97, l99, l100, l102, l119, l122, l179, l197, l200, l201, l237, l436, l437, pk_mul, nI_add, inb_nI, nclamp, dlt, dle, deq, bif_t, bif_f, bif_nt, bif_nf, aft0, aft1, decide_true, decide_false, Bool.not_true, Bool.not_false, cond_true, cond_false, Nat.add_sub_cancel, Nat.add_one_sub_one, ou9, mo1, nI_MO, OU_lt, OU_ge, Nat.not_lt_zero, Bool.or_false, Bool.or_true, Bool.true_or, Bool.false_or, Bool.and_true, Bool.and_false, Bool.true_and, Bool.false_and, bI_0n, bI_1n, Bool.not_not]
      · rw [if_neg hz]
        simp (disch := omega) only [l0, l1, l2, l3, l4, l5, l6, l7, l8, l9, l10, l11, l12, l13, l14, l15, l16, l17, l18, l19, l20, l21, l22, l23, l24, l25, l26, l27, l28, l29, l30, l31, l40, l48, l52, l57, l60, l65, l97, l99, l100, l102, l119, l122, l179, l197, l200, l201, l237, l436, l437, pk_mul, nI_add, inb_nI, nclamp, dlt, dle, deq, bif_t, bif_f, bif_nt, bif_nf, aft0, aft1, decide_true, decide_false, Bool.not_true, Bool.not_false, cond_true, cond_false, Nat.add_sub_cancel, Nat.add_one_sub_one, ou9, mo1, nI_MO, OU_lt, OU_ge, Nat.not_lt_zero, Bool.or_false, Bool.or_true, Bool.true_or, Bool.false_or, Bool.and_true, Bool.and_false, Bool.true_and, Bool.false_and, bI_0n, bI_1n, Bool.not_not, hz]
    have := jdg_rec t R ev r hr E (seeM M x.1 x.2) (m + 1) (by omega) ((seeM_1 (by omega)).trans h8) ((seeM_2 (by omega) (by omega)).trans h12) ((seeM_2 (by omega) (by omega)).trans h14) ((seeM_2 (by omega) (by omega)).trans h11) (by rw [seeM_10, h10, nI_add]) s13 (fun i y hy => by
      rw [show m + 1 + i = m + (i + 1) by omega]
      exact hev (i + 1) y (by rw [List.getElem?_cons_succ]; exact hy))
    rw [show m + (E.length + 1) = m + 1 + E.length by omega]
    exact this
theorem tr_jdg {nc np nb n : Nat} {C : Nat → CL} {wo : Int32} {s : Nat → Int32} {M : MS} {R : Nat → Int32} {r : Nat} (ev : Nat → EV3) (hnp : np ≤ 20) (hr : r ≤ 24) (h8 : M.1 8 = R) (h12 : M.2 12 = nI 1) (h14 : M.2 14 = nI r) (h13 : M.2 13 = nI 0) : ∀ j, j ≤ 60 → (∀ i e, (trE nc np nb n C wo s j)[i]? = some e → ev i = e) → (trM nc np nb n C wo s M j).2 13 = nI (fmR R ev r (trN nc np nb n C wo s j))
  | 0, _, _ => by
    rw [trM, mV_n (by omega)]
    exact h13
  | j + 1, hj, hev => by
    have el := trE_len nc np nb n C wo s j
    have hb := trN_b (nc := nc) (nb := nb) (n := n) (C := C) (wo := wo) (s := s) hnp (show j + 1 ≤ 60 from hj)
    rw [trN] at hb
    have ih := tr_jdg (nc := nc) (nb := nb) (n := n) (C := C) (wo := wo) (s := s) (M := M) ev hnp hr h8 h12 h14 h13 j (by omega) (fun i e he => hev i e (by
      rw [trE]
      have hl : i < (trE nc np nb n C wo s j).length := by
        have := List.getElem?_eq_some_iff.mp he
        exact this.1
      rw [List.getElem?_append_left hl]
      exact he))
    rw [trM, trN]
    refine jdg_rec (nI (j + 1)) R ev r hr (goE np nb n C wo (trS nc np nb n C wo s j)) (mV (trM nc np nb n C wo s M j) 11 (nI (j + 1))) (trN nc np nb n C wo s j) (by omega) (by rw [mV_1, trM_1 (by omega)]; exact h8) (by rw [mV_n (by omega), trM_2 (by omega) (by omega) (by omega)]; exact h12) (by rw [mV_n (by omega), trM_2 (by omega) (by omega) (by omega)]; exact h14) (mV_s _ _ _) (by rw [mV_n (by omega), trM_10]) (by rw [mV_n (by omega)]; exact ih) (fun i x hx => ?_)
    refine hev _ _ ?_
    rw [trE, ← el, app_get, List.getElem?_map, hx]
    rfl
