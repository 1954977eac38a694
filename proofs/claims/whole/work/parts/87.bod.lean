/-! ACTS of a thing: bodies. -/
def bgX (X : XS) (b : Int32) : XS := xV (xA X 16 (upd (X.1 16) (X.2.1 8).toNatClampNeg b)) 8 (X.2.1 8 + 1)
def rnM (M : MS) (b : Int32) : MS := mV (mA M 15 (upd (M.1 15) (M.2 18).toNatClampNeg b)) 18 (M.2 18 + 1)
def bk (X : XS) (kd : Nat) (n a : Int32) (m : Nat) : Prop := X.2.1 9 = nI kd ∧ X.2.1 10 = n ∧ X.2.1 11 = a ∧ X.2.1 12 = nI 0 ∧ X.2.1 8 = nI m
def mk' (M : MS) (kd : Nat) (n a : Int32) (m : Nat) : Prop := M.2 15 = nI kd ∧ M.2 16 = n ∧ M.2 17 = a ∧ M.2 19 = nI 0 ∧ M.2 18 = nI m
theorem bk_s {X : XS} {kd : Nat} {n a : Int32} {m : Nat} (h : bk X kd n a m) (b : Int32) : bk (bgX X b) kd n a (m + 1) := by
  obtain ⟨h1, h2, h3, h4, h5⟩ := h
  unfold bgX
  exact ⟨by rw [xV_n (by omega)]; exact h1, by rw [xV_n (by omega)]; exact h2, by rw [xV_n (by omega)]; exact h3, by rw [xV_n (by omega)]; exact h4, by rw [xV_s, h5, nI_1]⟩
theorem mk_s {M : MS} {kd : Nat} {n a : Int32} {m : Nat} (h : mk' M kd n a m) (b : Int32) : mk' (rnM M b) kd n a (m + 1) := by
  obtain ⟨h1, h2, h3, h4, h5⟩ := h
  unfold rnM
  exact ⟨by rw [mV_n (by omega)]; exact h1, by rw [mV_n (by omega)]; exact h2, by rw [mV_n (by omega)]; exact h3, by rw [mV_n (by omega)]; exact h4, by rw [mV_s, h5, nI_1]⟩
def tX (X : XS) (L : List Int32) : XS := L.foldl bgX X
def tM (M : MS) (L : List Int32) : MS := L.foldl rnM M
theorem tX_app (X : XS) (L L' : List Int32) : tX X (L ++ L') = tX (tX X L) L' := by simp [tX]
theorem tM_app (M : MS) (L L' : List Int32) : tM M (L ++ L') = tM (tM M L) L' := by simp [tM]
theorem bk_t {kd : Nat} {n a : Int32} : ∀ (L : List Int32) {X : XS} {m : Nat}, bk X kd n a m → bk (tX X L) kd n a (m + L.length)
  | [], _, _, h => h
  | b :: L, X, m, h => by
    have := bk_t L (bk_s h b)
    rw [List.length_cons, show m + (L.length + 1) = m + 1 + L.length by omega]
    exact this
theorem mk_t {kd : Nat} {n a : Int32} : ∀ (L : List Int32) {M : MS} {m : Nat}, mk' M kd n a m → mk' (tM M L) kd n a (m + L.length)
  | [], _, _, h => h
  | b :: L, M, m, h => by
    have := mk_t L (mk_s h b)
    rw [List.length_cons, show m + (L.length + 1) = m + 1 + L.length by omega]
    exact this
theorem cD_began (d : Nat) (Z : WT) {X : XS} {kd : Nat} {n a : Int32} {m : Nat} (h : bk X kd n a m) (hm : m < 30) (b : Int32) : call PGM (d + 1) yD_began [.ref 36, .int b] (hR Z X) = some (none, hR Z (bgX X b)) := by
  obtain ⟨h1, h2, h3, h4, h5⟩ := h
  have e : (xA X 16 (upd (X.1 16) m b)).2.1 8 = nI m := h5
  rw [kD_began, eD_began_0, h5, h4]
  simp (disch := omega) only [l0, l1, l2, l3, l4, l5, l6, l7, l8, l9, l10, l11, l12, l13, l14, l15, l16, l17, l18, l19, l20, l21, l22, l23, l24, l25, l26, l27, l28, l29, l30, l31, l40, l48, l52, l57, l60, l65, l97, l99, l100, l102, l119, l122, l179, l197, l200, l201, l237, l436, l437, pk_mul, nI_add, inb_nI, nclamp, dlt, dle, deq, bif_t, bif_f, bif_nt, bif_nf, aft0, aft1, decide_true, decide_false, Bool.not_true, Bool.not_false, cond_true, cond_false, Nat.add_sub_cancel, Nat.add_one_sub_one, ou9, mo1, nI_MO, OU_lt, OU_ge, Nat.not_lt_zero, Bool.or_false, Bool.or_true, Bool.true_or, Bool.false_or, Bool.and_true, Bool.and_false, Bool.true_and, Bool.false_and, bI_0n, bI_1n, Bool.not_not]
  rw [eD_began_27, e, bgX, h5]
  simp (disch := omega) only [l0, l1, l2, l3, l4, l5, l6, l7, l8, l9, l10, l11, l12, l13, l14, l15, l16, l17, l18, l19, l20, l21, l22, l23, l24, l25, l26, l27, l28, l29, l30, l31, l40, l48, l52, l57, l60, l65, l97, l99, l100, l102, l119, l122, l179, l197, l200, l201, l237, l436, l437, pk_mul, nI_add, inb_nI, nclamp, dlt, dle, deq, bif_t, bif_f, bif_nt, bif_nf, aft0, aft1, decide_true, decide_false, Bool.not_true, Bool.not_false, cond_true, cond_false, Nat.add_sub_cancel, Nat.add_one_sub_one, ou9, mo1, nI_MO, OU_lt, OU_ge, Nat.not_lt_zero, Bool.or_false, Bool.or_true, Bool.true_or, Bool.false_or, Bool.and_true, Bool.and_false, Bool.true_and, Bool.false_and, bI_0n, bI_1n, Bool.not_not]
theorem cM_ran (d : Nat) (Z : ZT) {M : MS} {kd : Nat} {n a : Int32} {m : Nat} (h : mk' M kd n a m) (hm : m < 30) (b : Int32) : call PGM (d + 1) yM_ran [.ref 91, .int b] (hM Z M) = some (none, hM Z (rnM M b)) := by
  obtain ⟨h1, h2, h3, h4, h5⟩ := h
  have e : (mA M 15 (upd (M.1 15) m b)).2 18 = nI m := h5
  rw [kM_ran, eM_ran_0, h5]
  simp (disch := omega) only [l0, l1, l2, l3, l4, l5, l6, l7, l8, l9, l10, l11, l12, l13, l14, l15, l16, l17, l18, l19, l20, l21, l22, l23, l24, l25, l26, l27, l28, l29, l30, l31, l40, l48, l52, l57, l60, l65, l97, l99, l100, l102, l119, l122, l179, l197, l200, l201, l237, l436, l437, pk_mul, nI_add, inb_nI, nclamp, dlt, dle, deq, bif_t, bif_f, bif_nt, bif_nf, aft0, aft1, decide_true, decide_false, Bool.not_true, Bool.not_false, cond_true, cond_false, Nat.add_sub_cancel, Nat.add_one_sub_one, ou9, mo1, nI_MO, OU_lt, OU_ge, Nat.not_lt_zero, Bool.or_false, Bool.or_true, Bool.true_or, Bool.false_or, Bool.and_true, Bool.and_false, Bool.true_and, Bool.false_and, bI_0n, bI_1n, Bool.not_not]
  rw [eM_ran_19, e, rnM, h5]
  simp (disch := omega) only [l0, l1, l2, l3, l4, l5, l6, l7, l8, l9, l10, l11, l12, l13, l14, l15, l16, l17, l18, l19, l20, l21, l22, l23, l24, l25, l26, l27, l28, l29, l30, l31, l40, l48, l52, l57, l60, l65, l97, l99, l100, l102, l119, l122, l179, l197, l200, l201, l237, l436, l437, pk_mul, nI_add, inb_nI, nclamp, dlt, dle, deq, bif_t, bif_f, bif_nt, bif_nf, aft0, aft1, decide_true, decide_false, Bool.not_true, Bool.not_false, cond_true, cond_false, Nat.add_sub_cancel, Nat.add_one_sub_one, ou9, mo1, nI_MO, OU_lt, OU_ge, Nat.not_lt_zero, Bool.or_false, Bool.or_true, Bool.true_or, Bool.false_or, Bool.and_true, Bool.and_false, Bool.true_and, Bool.false_and, bI_0n, bI_1n, Bool.not_not]
theorem o7 : Int32.ofInt 7 = nI 7 := id rfl
theorem o8 : Int32.ofInt 8 = nI 8 := id rfl
def runV (kd : Nat) (n a x : Int32) : Int32 := if kd = 1 then (x + a) * 3 else if kd = 5 then (x + a) * 3 else if kd = 4 then ((x + a) * 3) ^^^ n else if kd = 6 then x + a - 5 else if kd = 8 then a - x else x + a
def runT (kd : Nat) : List Int32 := if kd = 1 then [20, 10] else if kd = 5 then [20, 10] else if kd = 4 then [50, 20, 10] else if kd = 6 then [71, 10] else if kd = 8 then [90] else [10]
theorem runT_le {kd : Nat} (h : 1 ≤ kd ∧ kd ≤ 8) : (runT kd).length ≤ 3 := by
  have e : kd = 1 ∨ kd = 2 ∨ kd = 3 ∨ kd = 4 ∨ kd = 5 ∨ kd = 6 ∨ kd = 7 ∨ kd = 8 := by omega
  rcases e with e | e | e | e | e | e | e | e <;> subst e <;> decide
-- the class's
theorem cD_runP (d : Nat) (Z : WT) {X : XS} {kd : Nat} {n a : Int32} {m : Nat} (h : bk X kd n a m) (hm : m < 30) (as : Nat) (has : as = 0 ∨ as = 2 ∨ as = 3 ∨ as = 7) (x : Int32) : call PGM (d + 2) yD_runs [.ref 36, .int (nI as), .int x] (hR Z X) = some (some (.int (x + a)), hR Z (bgX X 10)) := by
  have e3 : (bgX X 10).2.1 11 = a := (bk_s h 10).2.2.1
  have key : aftK (sem PGM (d + 1) yD_runs) 0 (115, [some (.ref 36), some (.int (nI as)), some (.int x)], [], hR Z X) (call PGM (d + 1) yD_began [.ref 36, .int 10] (hR Z X)) = some (some (.int (x + a)), hR Z (bgX X 10)) := by
    rw [cD_began d Z h hm, aft0, eD_runs_115, e3]
  rw [kD_runs, eD_runs_0]
  rw [o1, o2, o3, o4, o5, o6, o7, o8]
  rcases has with e | e | e | e <;> subst e <;> exact key
theorem cD_runR (d : Nat) (Z : WT) {X : XS} {kd : Nat} {n a : Int32} {m : Nat} (h : bk X kd n a m) (hm : m + 1 < 30) (as : Nat) (has : as = 1 ∨ as = 5) (x : Int32) : call PGM (d + 3) yD_runs [.ref 36, .int (nI as), .int x] (hR Z X) = some (some (.int ((x + a) * 3)), hR Z (tX X [20, 10])) := by
  have key : aftK (sem PGM (d + 2) yD_runs) 0 (54, [some (.ref 36), some (.int (nI as)), some (.int x)], [], hR Z X) (call PGM (d + 2) yD_began [.ref 36, .int 20] (hR Z X)) = some (some (.int ((x + a) * 3)), hR Z (tX X [20, 10])) := by
    have r0 : call PGM (d + 2) yD_runs [.ref 36, .int 0, .int x] (hR Z (bgX X 20)) = _ := cD_runP d Z (bk_s h 20) (by omega) 0 (Or.inl rfl) x
    rw [cD_began (d + 1) Z h (by omega), aft0, eD_runs_54, r0, aft1, eD_runs_60]
    rfl
  rw [kD_runs, eD_runs_0]
  rw [o1, o2, o3, o4, o5, o6, o7, o8]
  rcases has with e | e <;> subst e <;> exact key
theorem cD_runs (d : Nat) (Z : WT) {X : XS} {kd : Nat} {n a : Int32} {m : Nat} (h : bk X kd n a m) (hm : m + 3 ≤ 30) (hk : 1 ≤ kd ∧ kd ≤ 8) (x : Int32) : call PGM (d + 4) yD_runs [.ref 36, .int (nI kd), .int x] (hR Z X) = some (some (.int (runV kd n a x)), hR Z (tX X (runT kd))) := by
  have e : kd = 1 ∨ kd = 2 ∨ kd = 3 ∨ kd = 4 ∨ kd = 5 ∨ kd = 6 ∨ kd = 7 ∨ kd = 8 := by omega
  rcases e with e | e | e | e | e | e | e | e <;> subst e
  · exact cD_runR (d + 1) Z h (by omega) 1 (Or.inl rfl) x
  · exact cD_runP (d + 2) Z h (by omega) 2 (by omega) x
  · exact cD_runP (d + 2) Z h (by omega) 3 (by omega) x
  · have r0 : call PGM (d + 3) yD_runs [.ref 36, .int 1, .int x] (hR Z (bgX X 50)) = _ := cD_runR d Z (bk_s h 50) (by omega) 1 (Or.inl rfl) x
    have e2 : (tX (bgX X 50) [20, 10]).2.1 10 = n := (bk_t [20, 10] (bk_s h 50)).2.1
    rw [kD_runs, eD_runs_0, o1, o2, o3, o4, o5, o6, o7, o8]
    show aftK (sem PGM (d + 3) yD_runs) 0 (69, _, [], hR Z X) (call PGM (d + 3) yD_began [.ref 36, .int 50] (hR Z X)) = _
    rw [cD_began (d + 2) Z h (by omega), aft0, eD_runs_69, r0, aft1, eD_runs_75, e2]
    rfl
  · exact cD_runR (d + 1) Z h (by omega) 5 (Or.inr rfl) x
  · have r0 : call PGM (d + 3) yD_runs [.ref 36, .int 3, .int x] (hR Z (bgX X 71)) = _ := cD_runP (d + 1) Z (bk_s h 71) (by omega) 3 (by omega) x
    rw [kD_runs, eD_runs_0, o1, o2, o3, o4, o5, o6, o7, o8]
    show aftK (sem PGM (d + 3) yD_runs) 0 (87, _, [], hR Z X) (call PGM (d + 3) yD_began [.ref 36, .int 71] (hR Z X)) = _
    rw [cD_began (d + 2) Z h (by omega), aft0, eD_runs_87, r0, aft1, eD_runs_93]
    rfl
  · exact cD_runP (d + 2) Z h (by omega) 7 (by omega) x
  · have e3 : (bgX X 90).2.1 11 = a := (bk_s h 90).2.2.1
    rw [kD_runs, eD_runs_0, o1, o2, o3, o4, o5, o6, o7, o8]
    show aftK (sem PGM (d + 3) yD_runs) 0 (102, _, [], hR Z X) (call PGM (d + 3) yD_began [.ref 36, .int 90] (hR Z X)) = _
    rw [cD_began (d + 2) Z h (by omega), aft0, eD_runs_102, e3]
    rfl
-- the model's
theorem cM_anyRuns (d : Nat) (Z : ZT) {M : MS} {kd : Nat} {n a : Int32} {m : Nat} (h : mk' M kd n a m) (hm : m < 30) (x : Int32) : call PGM (d + 2) yM_anyRuns [.ref 91, .int x] (hM Z M) = some (some (.int (x + a)), hM Z (rnM M 10)) := by
  have e3 : (rnM M 10).2 17 = a := (mk_s h 10).2.2.1
  rw [kM_anyRuns, eM_anyRuns_0, cM_ran d Z h hm, aft0, eM_anyRuns_6, e3]
theorem cM_runningRuns (d : Nat) (Z : ZT) {M : MS} {kd : Nat} {n a : Int32} {m : Nat} (h : mk' M kd n a m) (hm : m + 1 < 30) (x : Int32) : call PGM (d + 3) yM_runningRuns [.ref 91, .int x] (hM Z M) = some (some (.int ((x + a) * 3)), hM Z (tM M [20, 10])) := by
  rw [kM_runningRuns, eM_runningRuns_0, cM_ran (d + 1) Z h (by omega), aft0, eM_runningRuns_6, cM_anyRuns d Z (mk_s h 20) (by omega), aft1, eM_runningRuns_11]
  rfl
theorem cM_runsOf (d : Nat) (Z : ZT) {M : MS} {kd : Nat} {n a : Int32} {m : Nat} (h : mk' M kd n a m) (hm : m + 3 ≤ 30) (hk : 1 ≤ kd ∧ kd ≤ 8) (x : Int32) : call PGM (d + 4) yM_runsOf [.ref 91, .int x] (hM Z M) = some (some (.int (runV kd n a x)), hM Z (tM M (runT kd))) := by
  have h1 := h.1
  rw [kM_runsOf, eM_runsOf_0, h1, o1, o2, o3, o4, o5, o6, o7, o8]
  have e : kd = 1 ∨ kd = 2 ∨ kd = 3 ∨ kd = 4 ∨ kd = 5 ∨ kd = 6 ∨ kd = 7 ∨ kd = 8 := by omega
  have run : aftK (sem PGM (d + 3) yM_runsOf) 1 (57, [some (.ref 91), some (.int x)], [], hM Z M) (call PGM (d + 3) yM_runningRuns [.ref 91, .int x] (hM Z M)) = some (some (.int ((x + a) * 3)), hM Z (tM M [20, 10])) := by
    rw [cM_runningRuns d Z h (by omega), aft1, eM_runsOf_57]
  have any : aftK (sem PGM (d + 3) yM_runsOf) 1 (107, [some (.ref 91), some (.int x)], [], hM Z M) (call PGM (d + 3) yM_anyRuns [.ref 91, .int x] (hM Z M)) = some (some (.int (x + a)), hM Z (tM M [10])) := by
    rw [cM_anyRuns (d + 1) Z h (by omega), aft1, eM_runsOf_107]
    rfl
  rcases e with e | e | e | e | e | e | e | e <;> subst e
  · exact run
  · exact any
  · exact any
  · show aftK (sem PGM (d + 3) yM_runsOf) 0 (64, _, [], hM Z M) (call PGM (d + 3) yM_ran [.ref 91, .int 50] (hM Z M)) = _
    have e2 : (tM (rnM M 50) [20, 10]).2 16 = n := (mk_t [20, 10] (mk_s h 50)).2.1
    rw [cM_ran (d + 2) Z h (by omega), aft0, eM_runsOf_64, cM_runningRuns d Z (mk_s h 50) (by omega), aft1, eM_runsOf_69, e2]
    rfl
  · exact run
  · show aftK (sem PGM (d + 3) yM_runsOf) 0 (81, _, [], hM Z M) (call PGM (d + 3) yM_ran [.ref 91, .int 71] (hM Z M)) = _
    rw [cM_ran (d + 2) Z h (by omega), aft0, eM_runsOf_81, cM_anyRuns (d + 1) Z (mk_s h 71) (by omega), aft1, eM_runsOf_86]
    rfl
  · exact any
  · show aftK (sem PGM (d + 3) yM_runsOf) 0 (95, _, [], hM Z M) (call PGM (d + 3) yM_ran [.ref 91, .int 90] (hM Z M)) = _
    have e3 : (rnM M 90).2 17 = a := (mk_s h 90).2.2.1
    rw [cM_ran (d + 2) Z h (by omega), aft0, eM_runsOf_95, e3]
    rfl
-- sees
def seeV (kd : Nat) (n a x : Int32) : Int32 := if kd = 2 then runV kd n a x * 2 - a else if kd = 5 then 0 - runV kd n a x * 2 else if kd = 7 then runV kd n a x * 2 - a + runV kd n a n else if kd = 8 then runV kd n a x * n else runV kd n a x * 2
def seeT (kd : Nat) : List Int32 := if kd = 2 then [30, 11] ++ runT kd else if kd = 5 then [60, 11] ++ runT kd else if kd = 7 then [81, 30, 11] ++ runT kd ++ runT kd else if kd = 8 then [91] ++ runT kd else [11] ++ runT kd
theorem seeT_le {kd : Nat} (h : 1 ≤ kd ∧ kd ≤ 8) : (seeT kd).length ≤ 9 := by
  have e : kd = 1 ∨ kd = 2 ∨ kd = 3 ∨ kd = 4 ∨ kd = 5 ∨ kd = 6 ∨ kd = 7 ∨ kd = 8 := by omega
  rcases e with e | e | e | e | e | e | e | e <;> subst e <;> decide
theorem cD_seeP (d : Nat) (Z : WT) {X : XS} {kd : Nat} {n a : Int32} {m : Nat} (h : bk X kd n a m) (hm : m + 4 ≤ 30) (hk : 1 ≤ kd ∧ kd ≤ 8) (as : Nat) (has : as = 0 ∨ as = 1 ∨ as = 3 ∨ as = 4 ∨ as = 6) (x : Int32) : call PGM (d + 5) yD_sees [.ref 36, .int (nI as), .int x] (hR Z X) = some (some (.int (runV kd n a x * 2)), hR Z (tX X ([11] ++ runT kd))) := by
  have e1 : (bgX X 11).2.1 9 = nI kd := (bk_s h 11).1
  have key : aftK (sem PGM (d + 4) yD_sees) 0 (130, [some (.ref 36), some (.int (nI as)), some (.int x)], [], hR Z X) (call PGM (d + 4) yD_began [.ref 36, .int 11] (hR Z X)) = some (some (.int (runV kd n a x * 2)), hR Z (tX X ([11] ++ runT kd))) := by
    rw [cD_began (d + 3) Z h (by omega), aft0, eD_sees_130, e1, cD_runs d Z (bk_s h 11) (by omega) hk, aft1, eD_sees_139, tX_app]
    rfl
  rw [kD_sees, eD_sees_0, o2, o3, o4, o5, o6, o7, o8]
  rcases has with e | e | e | e | e <;> subst e <;> exact key
theorem cD_seeS (d : Nat) (Z : WT) {X : XS} {kd : Nat} {n a : Int32} {m : Nat} (h : bk X kd n a m) (hm : m + 5 ≤ 30) (hk : 1 ≤ kd ∧ kd ≤ 8) (x : Int32) : call PGM (d + 6) yD_sees [.ref 36, .int (nI 2), .int x] (hR Z X) = some (some (.int (runV kd n a x * 2 - a)), hR Z (tX X ([30, 11] ++ runT kd))) := by
  have r0 : call PGM (d + 5) yD_sees [.ref 36, .int 0, .int x] (hR Z (bgX X 30)) = _ := cD_seeP d Z (bk_s h 30) (by omega) hk 0 (Or.inl rfl) x
  have e3 : (tX (bgX X 30) ([11] ++ runT kd)).2.1 11 = a := (bk_t _ (bk_s h 30)).2.2.1
  rw [kD_sees, eD_sees_0, o2, o3, o4, o5, o6, o7, o8]
  show aftK (sem PGM (d + 5) yD_sees) 0 (50, _, [], hR Z X) (call PGM (d + 5) yD_began [.ref 36, .int 30] (hR Z X)) = _
  rw [cD_began (d + 4) Z h (by omega), aft0, eD_sees_50, r0, aft1, eD_sees_56, e3]
  rfl
theorem cD_sees (d : Nat) (Z : WT) {X : XS} {kd : Nat} {n a : Int32} {m : Nat} (h : bk X kd n a m) (hm : m + 9 ≤ 30) (hk : 1 ≤ kd ∧ kd ≤ 8) (x : Int32) : call PGM (d + 7) yD_sees [.ref 36, .int (nI kd), .int x] (hR Z X) = some (some (.int (seeV kd n a x)), hR Z (tX X (seeT kd))) := by
  have e : kd = 1 ∨ kd = 2 ∨ kd = 3 ∨ kd = 4 ∨ kd = 5 ∨ kd = 6 ∨ kd = 7 ∨ kd = 8 := by omega
  rcases e with e | e | e | e | e | e | e | e <;> subst e
  · exact cD_seeP (d + 2) Z h (by omega) hk 1 (by omega) x
  · exact cD_seeS (d + 1) Z h (by omega) hk x
  · exact cD_seeP (d + 2) Z h (by omega) hk 3 (by omega) x
  · exact cD_seeP (d + 2) Z h (by omega) hk 4 (by omega) x
  · have r0 : call PGM (d + 6) yD_sees [.ref 36, .int 1, .int x] (hR Z (bgX X 60)) = _ := cD_seeP (d + 1) Z (bk_s h 60) (by omega) hk 1 (by omega) x
    rw [kD_sees, eD_sees_0, o2, o3, o4, o5, o6, o7, o8]
    show aftK (sem PGM (d + 6) yD_sees) 0 (68, _, [], hR Z X) (call PGM (d + 6) yD_began [.ref 36, .int 60] (hR Z X)) = _
    rw [cD_began (d + 5) Z h (by omega), aft0, eD_sees_68, r0, aft1, eD_sees_75]
    rfl
  · exact cD_seeP (d + 2) Z h (by omega) hk 6 (by omega) x
  · have r0 : call PGM (d + 6) yD_sees [.ref 36, .int 2, .int x] (hR Z (bgX X 81)) = _ := cD_seeS d Z (bk_s h 81) (by omega) hk x
    have b2 := bk_t ([30, 11] ++ runT 7) (bk_s h 81)
    have l2 : ([30, 11] ++ runT 7 : List Int32).length = 3 := by decide
    rw [l2] at b2
    rw [kD_sees, eD_sees_0, o2, o3, o4, o5, o6, o7, o8]
    show aftK (sem PGM (d + 6) yD_sees) 0 (83, _, [], hR Z X) (call PGM (d + 6) yD_began [.ref 36, .int 81] (hR Z X)) = _
    rw [cD_began (d + 5) Z h (by omega), aft0, eD_sees_83, r0, aft1, eD_sees_89, b2.1, b2.2.1, cD_runs (d + 2) Z b2 (by omega) hk, aft1, eD_sees_101]
    rfl
  · have e1 : (bgX X 91).2.1 9 = nI 8 := (bk_s h 91).1
    have e2 : (tX (bgX X 91) (runT 8)).2.1 10 = n := (bk_t _ (bk_s h 91)).2.1
    rw [kD_sees, eD_sees_0, o2, o3, o4, o5, o6, o7, o8]
    show aftK (sem PGM (d + 6) yD_sees) 0 (109, _, [], hR Z X) (call PGM (d + 6) yD_began [.ref 36, .int 91] (hR Z X)) = _
    rw [cD_began (d + 5) Z h (by omega), aft0, eD_sees_109, e1, cD_runs (d + 2) Z (bk_s h 91) (by omega) hk, aft1, eD_sees_118, e2]
    rfl
theorem cM_anySees (d : Nat) (Z : ZT) {M : MS} {kd : Nat} {n a : Int32} {m : Nat} (h : mk' M kd n a m) (hm : m + 4 ≤ 30) (hk : 1 ≤ kd ∧ kd ≤ 8) (x : Int32) : call PGM (d + 5) yM_anySees [.ref 91, .int x] (hM Z M) = some (some (.int (runV kd n a x * 2)), hM Z (tM M ([11] ++ runT kd))) := by
  rw [kM_anySees, eM_anySees_0, cM_ran (d + 3) Z h (by omega), aft0, eM_anySees_6, cM_runsOf d Z (mk_s h 11) (by omega) hk, aft1, eM_anySees_11, tM_app]
  rfl
theorem cM_standingSees (d : Nat) (Z : ZT) {M : MS} {kd : Nat} {n a : Int32} {m : Nat} (h : mk' M kd n a m) (hm : m + 5 ≤ 30) (hk : 1 ≤ kd ∧ kd ≤ 8) (x : Int32) : call PGM (d + 6) yM_standingSees [.ref 91, .int x] (hM Z M) = some (some (.int (runV kd n a x * 2 - a)), hM Z (tM M ([30, 11] ++ runT kd))) := by
  have e3 : (tM (rnM M 30) ([11] ++ runT kd)).2 17 = a := (mk_t _ (mk_s h 30)).2.2.1
  rw [kM_standingSees, eM_standingSees_0, cM_ran (d + 4) Z h (by omega), aft0, eM_standingSees_6, cM_anySees d Z (mk_s h 30) (by omega) hk, aft1, eM_standingSees_11, e3]
  rfl
theorem cM_seesOf (d : Nat) (Z : ZT) {M : MS} {kd : Nat} {n a : Int32} {m : Nat} (h : mk' M kd n a m) (hm : m + 9 ≤ 30) (hk : 1 ≤ kd ∧ kd ≤ 8) (x : Int32) : call PGM (d + 7) yM_seesOf [.ref 91, .int x] (hM Z M) = some (some (.int (seeV kd n a x)), hM Z (tM M (seeT kd))) := by
  have h1 := h.1
  rw [kM_seesOf, eM_seesOf_0, h1, o2, o3, o4, o5, o6, o7, o8]
  have e : kd = 1 ∨ kd = 2 ∨ kd = 3 ∨ kd = 4 ∨ kd = 5 ∨ kd = 6 ∨ kd = 7 ∨ kd = 8 := by omega
  have any : aftK (sem PGM (d + 6) yM_seesOf) 1 (113, [some (.ref 91), some (.int x), none], [], hM Z M) (call PGM (d + 6) yM_anySees [.ref 91, .int x] (hM Z M)) = some (some (.int (runV kd n a x * 2)), hM Z (tM M ([11] ++ runT kd))) := by
    rw [cM_anySees (d + 1) Z h (by omega) hk, aft1, eM_seesOf_113]
  rcases e with e | e | e | e | e | e | e | e <;> subst e
  · exact any
  · show aftK (sem PGM (d + 6) yM_seesOf) 1 (53, _, [], hM Z M) (call PGM (d + 6) yM_standingSees [.ref 91, .int x] (hM Z M)) = _
    rw [cM_standingSees d Z h (by omega) hk, aft1, eM_seesOf_53]
    rfl
  · exact any
  · exact any
  · show aftK (sem PGM (d + 6) yM_seesOf) 0 (60, _, [], hM Z M) (call PGM (d + 6) yM_ran [.ref 91, .int 60] (hM Z M)) = _
    rw [cM_ran (d + 5) Z h (by omega), aft0, eM_seesOf_60, cM_anySees (d + 1) Z (mk_s h 60) (by omega) hk, aft1, eM_seesOf_66]
    rfl
  · exact any
  · show aftK (sem PGM (d + 6) yM_seesOf) 0 (74, _, [], hM Z M) (call PGM (d + 6) yM_ran [.ref 91, .int 81] (hM Z M)) = _
    have b2 := mk_t ([30, 11] ++ runT 7) (mk_s h 81)
    have l2 : ([30, 11] ++ runT 7 : List Int32).length = 3 := by decide
    rw [l2] at b2
    rw [cM_ran (d + 5) Z h (by omega), aft0, eM_seesOf_74, cM_standingSees d Z (mk_s h 81) (by omega) hk, aft1, eM_seesOf_79, b2.2.1, cM_runsOf (d + 2) Z b2 (by omega) hk, aft1, eM_seesOf_89]
    rfl
  · show aftK (sem PGM (d + 6) yM_seesOf) 0 (97, _, [], hM Z M) (call PGM (d + 6) yM_ran [.ref 91, .int 91] (hM Z M)) = _
    have e2 : (tM (rnM M 91) (runT 8)).2 16 = n := (mk_t _ (mk_s h 91)).2.1
    rw [cM_ran (d + 5) Z h (by omega), aft0, eM_seesOf_97, cM_runsOf (d + 2) Z (mk_s h 91) (by omega) hk, aft1, eM_seesOf_102, e2]
    rfl
