/-! Contracts of the model: holds, clauseOf. -/
theorem l10000' : (10000 : Int32) = nI 10000 := id rfl
theorem nI_sub {a b : Nat} (h : b ≤ a) : nI a - nI b = nI (a - b) := by
  have e : nI a = nI (a - b) + nI b := by rw [nI_add, Nat.sub_add_cancel h]
  rw [e, Int32.add_sub_cancel]
theorem mH_push (d : Nat) (Z : ZT) (M : MS) (q : Nat → Int32) (u1 u6 : Option Value) (p a n b e v np nb : Nat) (hp : p < 80) (ha : a ≤ 232) (hn : n < 200) (hb : b < e) (he : e ≤ 200) (hv : v < 10006) (h4 : M.1 0 (a + 4) = nI e) (hs : M.1 0 (237 + b) = nI v) (h1 : M.1 0 1 = nI np) (hnp : np ≤ 20) (h2 : M.1 0 2 = nI nb) (hnb : nb ≤ 6) :
    sem PGM (d + 4) yM_holds (21, [some (.ref 91), u1, some (.int (nI p)), some (.int (nI a)), some (.int (nI n)), some (.int (nI b)), u6], [], hM Z (mA M 6 q)) = sem PGM (d + 4) yM_holds (21, [some (.ref 91), u1, some (.int (nI p)), some (.int (nI a)), some (.int (nI (n + 1))), some (.int (nI (b + 1))), some (.int (nI v))], [], hM Z (mA M 6 (upd q n (valO (factN (M.1 0) np nb (M.1 0 (99 + 4 * p + 1))) v)))) := by
  rw [eM_holds_21]
  simp (disch := omega) only [l0, l1, l2, l3, l4, l5, l6, l7, l8, l9, l10, l11, l12, l13, l14, l15, l16, l17, l18, l19, l20, l21, l22, l23, l24, l25, l26, l27, l28, l29, l30, l31, l40, l48, l52, l57, l60, l65, l97, l99, l100, l102, l119, l122, l179, l197, l200, l201, l237, l436, l437, pk_mul, nI_add, inb_nI, nclamp, dlt, dle, deq, bif_t, bif_f, bif_nt, bif_nf, aft0, aft1, decide_true, decide_false, Bool.not_true, Bool.not_false, cond_true, cond_false, Nat.add_sub_cancel, Nat.add_one_sub_one, ou9, mo1, nI_MO, OU_lt, OU_ge, Nat.not_lt_zero, Bool.or_false, Bool.or_true, Bool.true_or, Bool.false_or, Bool.and_true, Bool.and_false, Bool.true_and, Bool.false_and, bI_0n, bI_1n, Bool.not_not, mA_n, mA_s, mA_mA, h4, hs, l10010, l10000, nI_sub]
  by_cases hf : v < 10000
  · simp (disch := omega) only [l0, l1, l2, l3, l4, l5, l6, l7, l8, l9, l10, l11, l12, l13, l14, l15, l16, l17, l18, l19, l20, l21, l22, l23, l24, l25, l26, l27, l28, l29, l30, l31, l40, l48, l52, l57, l60, l65, l97, l99, l100, l102, l119, l122, l179, l197, l200, l201, l237, l436, l437, pk_mul, nI_add, inb_nI, nclamp, dlt, dle, deq, bif_t, bif_f, bif_nt, bif_nf, aft0, aft1, decide_true, decide_false, Bool.not_true, Bool.not_false, cond_true, cond_false, Nat.add_sub_cancel, Nat.add_one_sub_one, ou9, mo1, nI_MO, OU_lt, OU_ge, Nat.not_lt_zero, Bool.or_false, Bool.or_true, Bool.true_or, Bool.false_or, Bool.and_true, Bool.and_false, Bool.true_and, Bool.false_and, bI_0n, bI_1n, Bool.not_not, mA_n, mA_s, mA_mA, eM_holds_86, eM_holds_156]
    rw [valO, if_pos hf]
  · rw [bif_t (by omega), nI_sub (by omega), cM_factOf d Z (mA M 6 q) p (v - 10000) np nb hp (by omega) h1 hnp h2 hnb, aft1, eM_holds_85]
    simp (disch := omega) only [l0, l1, l2, l3, l4, l5, l6, l7, l8, l9, l10, l11, l12, l13, l14, l15, l16, l17, l18, l19, l20, l21, l22, l23, l24, l25, l26, l27, l28, l29, l30, l31, l40, l48, l52, l57, l60, l65, l97, l99, l100, l102, l119, l122, l179, l197, l200, l201, l237, l436, l437, pk_mul, nI_add, inb_nI, nclamp, dlt, dle, deq, bif_t, bif_f, bif_nt, bif_nf, aft0, aft1, decide_true, decide_false, Bool.not_true, Bool.not_false, cond_true, cond_false, Nat.add_sub_cancel, Nat.add_one_sub_one, ou9, mo1, nI_MO, OU_lt, OU_ge, Nat.not_lt_zero, Bool.or_false, Bool.or_true, Bool.true_or, Bool.false_or, Bool.and_true, Bool.and_false, Bool.true_and, Bool.false_and, bI_0n, bI_1n, Bool.not_not, mA_n, mA_s, mA_mA, eM_holds_86, eM_holds_156]
    rw [valO, if_neg hf]
theorem mH_not (d : Nat) (Z : ZT) (M : MS) (q : Nat → Int32) (u1 u6 : Option Value) (p a n b e : Nat) (ha : a ≤ 232) (hn : n < 200) (hb : b < e) (he : e ≤ 200) (h4 : M.1 0 (a + 4) = nI e) (hs : M.1 0 (237 + b) = nI 10010) :
    sem PGM (d + 4) yM_holds (21, [some (.ref 91), u1, some (.int (nI p)), some (.int (nI a)), some (.int (nI (n + 1))), some (.int (nI b)), u6], [], hM Z (mA M 6 q)) = sem PGM (d + 4) yM_holds (21, [some (.ref 91), u1, some (.int (nI p)), some (.int (nI a)), some (.int (nI (n + 1))), some (.int (nI (b + 1))), some (.int (nI 10010))], [], hM Z (mA M 6 (upd q n (1 - q n)))) := by
  rw [eM_holds_21]
  simp (disch := omega) only [l0, l1, l2, l3, l4, l5, l6, l7, l8, l9, l10, l11, l12, l13, l14, l15, l16, l17, l18, l19, l20, l21, l22, l23, l24, l25, l26, l27, l28, l29, l30, l31, l40, l48, l52, l57, l60, l65, l97, l99, l100, l102, l119, l122, l179, l197, l200, l201, l237, l436, l437, pk_mul, nI_add, inb_nI, nclamp, dlt, dle, deq, bif_t, bif_f, bif_nt, bif_nf, aft0, aft1, decide_true, decide_false, Bool.not_true, Bool.not_false, cond_true, cond_false, Nat.add_sub_cancel, Nat.add_one_sub_one, ou9, mo1, nI_MO, OU_lt, OU_ge, Nat.not_lt_zero, Bool.or_false, Bool.or_true, Bool.true_or, Bool.false_or, Bool.and_true, Bool.and_false, Bool.true_and, Bool.false_and, bI_0n, bI_1n, Bool.not_not, mA_n, mA_s, mA_mA, h4, hs, l10010, l10000, nI_sub, eM_holds_120, eM_holds_156]
theorem l10080 : (10080 : Int32) = nI 10080 := id rfl
theorem l10081 : (10081 : Int32) = nI 10081 := id rfl
def jn (o : Nat) (x y : Int32) : Int32 := bif decide (nI o = 10011) then x &&& y else bif decide (nI o = 10012) then x ||| y else bif decide (nI o = 10080) then bI (decide (x < y)) else bif decide (nI o = 10081) then bI (decide (x = y)) else bI (decide (y < x))
theorem nI_m1 (n : Nat) : nI (n + 1) + (-1) = nI n := by
  have : (-1 : Int32) = 0 - 1 := by decide
  rw [this]
  rw [← nI_1, Int32.add_assoc]
  have : (1 : Int32) + (0 - 1) = 0 := by decide
  rw [this, Int32.add_zero]
theorem mH_join (d : Nat) (Z : ZT) (M : MS) (q : Nat → Int32) (u1 u6 : Option Value) (p a n b e o : Nat) (ha : a ≤ 232) (hn : n < 100) (hb : b < e) (he : e ≤ 200) (ho : 10010 < o ∧ o < 20000) (h4 : M.1 0 (a + 4) = nI e) (hs : M.1 0 (237 + b) = nI o) :
    sem PGM (d + 4) yM_holds (21, [some (.ref 91), u1, some (.int (nI p)), some (.int (nI a)), some (.int (nI (n + 2))), some (.int (nI b)), u6], [], hM Z (mA M 6 q)) = sem PGM (d + 4) yM_holds (21, [some (.ref 91), u1, some (.int (nI p)), some (.int (nI a)), some (.int (nI (n + 1))), some (.int (nI (b + 1))), some (.int (nI o))], [], hM Z (mA M 6 (upd q n (jn o (q n) (q (n + 1)))))) := by
  rw [eM_holds_21]
  have e0 : nI (n + 2) + (-1) = nI (n + 1) := nI_m1 (n + 1)
  rw [e0]
  simp (disch := omega) only [l0, l1, l2, l3, l4, l5, l6, l7, l8, l9, l10, l11, l12, l13, l14, l15, l16, l17, l18, l19, l20, l21, l22, l23, l24, l25, l26, l27, l28, l29, l30, l31, l40, l48, l52, l57, l60, l65, l97, l99, l100, l102, l119, l122, l179, l197, l200, l201, l237, l436, l437, pk_mul, nI_add, inb_nI, nclamp, dlt, dle, deq, bif_t, bif_f, bif_nt, bif_nf, aft0, aft1, decide_true, decide_false, Bool.not_true, Bool.not_false, cond_true, cond_false, Nat.add_sub_cancel, Nat.add_one_sub_one, ou9, mo1, nI_MO, OU_lt, OU_ge, Nat.not_lt_zero, Bool.or_false, Bool.or_true, Bool.true_or, Bool.false_or, Bool.and_true, Bool.and_false, Bool.true_and, Bool.false_and, bI_0n, bI_1n, Bool.not_not, mA_n, mA_s, mA_mA, h4, hs, l10010, l10000, nI_sub, eM_holds_126]
  rw [cM_both (d + 3)]
  simp (disch := omega) only [l0, l1, l2, l3, l4, l5, l6, l7, l8, l9, l10, l11, l12, l13, l14, l15, l16, l17, l18, l19, l20, l21, l22, l23, l24, l25, l26, l27, l28, l29, l30, l31, l40, l48, l52, l57, l60, l65, l97, l99, l100, l102, l119, l122, l179, l197, l200, l201, l237, l436, l437, pk_mul, nI_add, inb_nI, nclamp, dlt, dle, deq, bif_t, bif_f, bif_nt, bif_nf, aft0, aft1, decide_true, decide_false, Bool.not_true, Bool.not_false, cond_true, cond_false, Nat.add_sub_cancel, Nat.add_one_sub_one, ou9, mo1, nI_MO, OU_lt, OU_ge, Nat.not_lt_zero, Bool.or_false, Bool.or_true, Bool.true_or, Bool.false_or, Bool.and_true, Bool.and_false, Bool.true_and, Bool.false_and, bI_0n, bI_1n, Bool.not_not, mA_n, mA_s, mA_mA, nI_sub, eM_holds_155, eM_holds_156, Nat.add_sub_cancel]
  rfl
theorem jn_and (x y : Bool) : jn 10011 (bI x) (bI y) = bI (x && y) := by cases x <;> cases y <;> decide
theorem jn_or (x y : Bool) : jn 10012 (bI x) (bI y) = bI (x || y) := by cases x <;> cases y <;> decide
theorem jn_cmp (t : Nat) (ht : t < 3) (x y : Int32) : jn (10080 + t) x y = bI (cmpO t x y) := by
  have e : t = 0 ∨ t = 1 ∨ t = 2 := by omega
  rcases e with e | e | e <;> subst e <;> rfl
theorem bI_not (x : Bool) : 1 - bI x = bI (!x) := by cases x <;> decide
theorem getD_app (a b : List Int32) (j : Nat) : (a ++ b).getD (a.length + j) 0 = b.getD j 0 := by
  rw [List.getD_eq_getElem?_getD, List.getD_eq_getElem?_getD, List.getElem?_append_right (by omega), Nat.add_sub_cancel_left]
/-- what a CLAUSE's operations say, from the codes in the row -/
theorem mH_loop (d : Nat) (Z : ZT) (M : MS) (u1 : Option Value) (p a e np nb : Nat) (hp : p < 80) (ha : a ≤ 232) (he : e ≤ 200) (h4 : M.1 0 (a + 4) = nI e) (h3 : M.1 0 (a + 2) = nI 1) (h1 : M.1 0 1 = nI np) (hnp : np ≤ 20) (h2 : M.1 0 2 = nI nb) (hnb : nb ≤ 6) :
    ∀ (ops : List Op) (st : List Bool) (b : Nat) (q : Nat → Int32) (u6 : Option Value), okS ops st.length → st.length ≤ 40 → (∀ j, j < (opsM ops).length → M.1 0 (237 + b + j) = (opsM ops).getD j 0) → b + (opsM ops).length = e → pileR q st →
      ∃ q', sem PGM (d + 4) yM_holds (21, [some (.ref 91), u1, some (.int (nI p)), some (.int (nI a)), some (.int (nI st.length)), some (.int (nI b)), u6], [], hM Z (mA M 6 q)) = some (some (.int (bI ((evO (factN (M.1 0) np nb (M.1 0 (99 + 4 * p + 1))) ops st).headD false))), hM Z (mA M 6 q')) := by
  intro ops
  induction ops with
  | nil =>
    intro st b q u6 hok hst hc hbe hq
    refine ⟨q, ?_⟩
    have hb : b = e := by simpa [opsM] using hbe
    subst hb
    match st, hok, hq with
    | [x], _, hq =>
      have hq0 : q 0 = bI x := hq.1
      rw [eM_holds_21]
      simp (disch := omega) only [l0, l1, l2, l3, l4, l5, l6, l7, l8, l9, l10, l11, l12, l13, l14, l15, l16, l17, l18, l19, l20, l21, l22, l23, l24, l25, l26, l27, l28, l29, l30, l31, l40, l48, l52, l57, l60, l65, l97, l99, l100, l102, l119, l122, l179, l197, l200, l201, l237, l436, l437, pk_mul, nI_add, inb_nI, nclamp, dlt, dle, deq, bif_t, bif_f, bif_nt, bif_nf, aft0, aft1, decide_true, decide_false, Bool.not_true, Bool.not_false, cond_true, cond_false, Nat.add_sub_cancel, Nat.add_one_sub_one, ou9, mo1, nI_MO, OU_lt, OU_ge, Nat.not_lt_zero, Bool.or_false, Bool.or_true, Bool.true_or, Bool.false_or, Bool.and_true, Bool.and_false, Bool.true_and, Bool.false_and, bI_0n, bI_1n, Bool.not_not, mA_n, mA_s, mA_mA, h4, h3, hq0]
      cases x <;> rfl
  | cons x l ih =>
    intro st b q u6 hok hst hc hbe hq
    obtain ⟨hx, hok⟩ := hok
    by_cases h0 : x.1 < 3
    · rw [if_pos h0] at hok
      have eM : opsM (x :: l) = [nI x.2.1, nI x.2.2, nI (10080 + x.1)] ++ opsM l := by rw [opsM, opM, if_pos h0]
      rw [eM] at hc hbe
      have hl : (([nI x.2.1, nI x.2.2, nI (10080 + x.1)] : List Int32) ++ opsM l).length = 3 + (opsM l).length := by simp; omega
      rw [hl] at hc hbe
      have c0 : M.1 0 (237 + b) = nI x.2.1 := hc 0 (by omega)
      have c1 : M.1 0 (237 + (b + 1)) = nI x.2.2 := hc 1 (by omega)
      have c2 : M.1 0 (237 + (b + 1 + 1)) = nI (10080 + x.1) := hc 2 (by omega)
      rw [mH_push d Z M q u1 u6 p a st.length b e x.2.1 np nb hp ha (by omega) (by omega) he hx.2.1 h4 c0 h1 hnp h2 hnb]
      rw [mH_push d Z M _ u1 _ p a (st.length + 1) (b + 1) e x.2.2 np nb hp ha (by omega) (by omega) he hx.2.2 h4 c1 h1 hnp h2 hnb]
      rw [mH_join d Z M _ u1 _ p a st.length (b + 1 + 1) e (10080 + x.1) ha (by omega) (by omega) he (by omega) h4 c2]
      rw [upd_ne (show st.length ≠ st.length + 1 by omega), upd_eq, upd_eq, jn_cmp x.1 h0]
      have := ih (cmpO x.1 (valO (factN (M.1 0) np nb (M.1 0 (99 + 4 * p + 1))) x.2.1) (valO (factN (M.1 0) np nb (M.1 0 (99 + 4 * p + 1))) x.2.2) :: st) (b + 1 + 1 + 1)
      rw [evO, stO.eq_def, if_pos h0]
      refine this _ _ hok.2 (by simp; omega) (fun j hj => ?_) (by omega) (pileR_push (pileR_upd (by omega) (pileR_upd (Nat.le_refl _) hq)))
      have := hc (3 + j) (by omega)
      rw [show 237 + (b + 1 + 1 + 1) + j = 237 + b + (3 + j) by omega, this]
      exact getD_app [_, _, _] _ j
    · rw [if_neg h0] at hok
      by_cases h5 : x.1 = 5
      · rw [if_pos h5] at hok
        have eM : opsM (x :: l) = [nI 10010] ++ opsM l := by rw [opsM, opM, if_neg h0, if_neg (by omega), if_neg (by omega)]
        rw [eM] at hc hbe
        have hl : (([nI 10010] : List Int32) ++ opsM l).length = 1 + (opsM l).length := by simp; omega
        rw [hl] at hc hbe
        have c0 : M.1 0 (237 + b) = nI 10010 := hc 0 (by omega)
        match st, hok, hst, hq with
        | y :: r, hok, hst, hq =>
          simp only [List.length_cons] at hst
          rw [List.length_cons, mH_not d Z M q u1 u6 p a r.length b e ha (by omega) (by omega) he h4 c0]
          rw [hq.1, bI_not]
          have := ih ((!y) :: r) (b + 1)
          rw [evO, stO.eq_def, if_neg h0]
          simp only [h5, if_true]
          refine this _ _ hok.2 (by simp; omega) (fun j hj => ?_) (by omega) (pileR_push hq.2)
          have := hc (1 + j) (by omega)
          rw [show 237 + (b + 1) + j = 237 + b + (1 + j) by omega, this]
          exact getD_app [_] _ j
        | [], hok, _, _ => exact absurd hok.1 (by simp)
      · rw [if_neg h5] at hok
        have h34 : x.1 = 3 ∨ x.1 = 4 := by have := hx.1; omega
        match st, hok, hst, hq with
        | y :: z :: r, hok, hst, hq =>
          simp only [List.length_cons] at hst
          have key : ∀ (o : Nat) (w : Bool), opsM (x :: l) = [nI o] ++ opsM l → (10010 < o ∧ o < 20000) → jn o (bI z) (bI y) = bI w → stO (factN (M.1 0) np nb (M.1 0 (99 + 4 * p + 1))) x (y :: z :: r) = w :: r → ∃ q', sem PGM (d + 4) yM_holds (21, [some (.ref 91), u1, some (.int (nI p)), some (.int (nI a)), some (.int (nI (y :: z :: r).length)), some (.int (nI b)), u6], [], hM Z (mA M 6 q)) = some (some (.int (bI ((evO (factN (M.1 0) np nb (M.1 0 (99 + 4 * p + 1))) (x :: l) (y :: z :: r)).headD false))), hM Z (mA M 6 q')) := by
            intro o w eM ho ej es
            rw [eM] at hc hbe
            have hl : (([nI o] : List Int32) ++ opsM l).length = 1 + (opsM l).length := by simp; omega
            rw [hl] at hc hbe
            have c0 : M.1 0 (237 + b) = nI o := hc 0 (by omega)
            rw [List.length_cons, List.length_cons, mH_join d Z M q u1 u6 p a r.length b e o ha (by omega) (by omega) he ho h4 c0]
            have q1 : q (r.length + 1) = bI y := hq.1
            rw [hq.2.1, q1, ej]
            rw [evO, es]
            refine ih (w :: r) (b + 1) _ _ hok.2 (by simp; omega) (fun j hj => ?_) (by omega) (pileR_push hq.2.2)
            have := hc (1 + j) (by omega)
            rw [show 237 + (b + 1) + j = 237 + b + (1 + j) by omega, this]
            exact getD_app [_] _ j
          rcases h34 with h3' | h4'
          · exact key 10011 (z && y) (by rw [opsM, opM, if_neg h0, if_pos h3']) (by omega) (jn_and z y) (by rw [stO.eq_def, if_neg h0]; simp [h3'])
          · exact key 10012 (z || y) (by rw [opsM, opM, if_neg h0, if_neg (by omega), if_pos h4']) (by omega) (jn_or z y) (by rw [stO.eq_def, if_neg h0]; simp [h4'])
        | [], hok, _, _ => exact absurd hok.1 (by simp)
        | [y], hok, _, _ => exact absurd hok.1 (by simp)
