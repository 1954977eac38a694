/-! Bodies: falls, harms; calls of both: taken, act. -/
theorem sub_z (a n : Int32) : decide (a - n = 0) = decide (a = n) := by
  rw [decide_eq_decide]
  constructor
  · intro h
    have : a - n + n = n := by rw [h, Int32.zero_add]
    rw [Int32.sub_add_cancel] at this
    exact this
  · intro h
    subst h
    exact Int32.sub_self a
def faV0 (n a x : Int32) : Int32 := bif decide (a = n) then 0 else x / (a - n)
def fallV (kd : Nat) (n a x : Int32) : Int32 := if kd = 3 then faV0 n a (x + 1) else if kd = 6 then faV0 n a (x + 1) ^^^ 1 else if kd = 8 then x ||| a else faV0 n a x
def fallT (kd : Nat) : List Int32 := if kd = 3 then [40, 12] else if kd = 6 then [70, 40, 12] else if kd = 8 then [92] else [12]
def fallP (kd : Nat) (n a : Int32) : Bool := if kd = 8 then false else decide (a = n)
def pX (X : XS) (p : Bool) : XS := bif p then xV X 12 1 else X
def pM (M : MS) (kd : Nat) (p : Bool) : MS := if kd = 8 then M else mV M 19 (bI p)
theorem fallT_le {kd : Nat} (h : 1 ≤ kd ∧ kd ≤ 8) : (fallT kd).length ≤ 3 := by
  have e : kd = 1 ∨ kd = 2 ∨ kd = 3 ∨ kd = 4 ∨ kd = 5 ∨ kd = 6 ∨ kd = 7 ∨ kd = 8 := by omega
  rcases e with e | e | e | e | e | e | e | e <;> subst e <;> decide
theorem cD_fallP (d : Nat) (Z : WT) {X : XS} {kd : Nat} {n a : Int32} {m : Nat} (h : bk X kd n a m) (hm : m < 30) (as : Nat) (has : as = 0 ∨ as = 1 ∨ as = 2 ∨ as = 4 ∨ as = 5 ∨ as = 7) (x : Int32) : call PGM (d + 2) yD_falls [.ref 36, .int (nI as), .int x] (hR Z X) = some (some (.int (faV0 n a x)), hR Z (pX (tX X [12]) (decide (a = n)))) := by
  have b1 := bk_s h 12
  have pb : call PGM (d + 1) yD_partedBy [.ref 36, .int x, .int (a - n)] (hR Z (bgX X 12)) = some (some (.int (faV0 n a x)), hR Z (pX (tX X [12]) (decide (a = n)))) := by
    rw [kD_partedBy, eD_partedBy_0, sub_z, faV0, pX]
    cases decide (a = n) <;> rfl
  have key : aftK (sem PGM (d + 1) yD_falls) 0 (85, [some (.ref 36), some (.int (nI as)), some (.int x)], [], hR Z X) (call PGM (d + 1) yD_began [.ref 36, .int 12] (hR Z X)) = some (some (.int (faV0 n a x)), hR Z (pX (tX X [12]) (decide (a = n)))) := by
    rw [cD_began d Z h hm, aft0, eD_falls_85, b1.2.1, b1.2.2.1, pb, aft1, eD_falls_99]
  rw [kD_falls, eD_falls_0, o3, o6, o8]
  rcases has with e | e | e | e | e | e <;> subst e <;> exact key
theorem cD_fall3 (d : Nat) (Z : WT) {X : XS} {kd : Nat} {n a : Int32} {m : Nat} (h : bk X kd n a m) (hm : m + 1 < 30) (x : Int32) : call PGM (d + 3) yD_falls [.ref 36, .int (nI 3), .int x] (hR Z X) = some (some (.int (faV0 n a (x + 1))), hR Z (pX (tX X [40, 12]) (decide (a = n)))) := by
  have r0 : call PGM (d + 2) yD_falls [.ref 36, .int 0, .int (x + 1)] (hR Z (bgX X 40)) = _ := cD_fallP d Z (bk_s h 40) hm 0 (Or.inl rfl) (x + 1)
  rw [kD_falls, eD_falls_0, o3, o6, o8]
  show aftK (sem PGM (d + 2) yD_falls) 0 (42, _, [], hR Z X) (call PGM (d + 2) yD_began [.ref 36, .int 40] (hR Z X)) = _
  rw [cD_began (d + 1) Z h (by omega), aft0, eD_falls_42, r0, aft1, eD_falls_50]
  rfl
theorem cD_falls (d : Nat) (Z : WT) {X : XS} {kd : Nat} {n a : Int32} {m : Nat} (h : bk X kd n a m) (hm : m + 3 ≤ 30) (hk : 1 ≤ kd ∧ kd ≤ 8) (x : Int32) : call PGM (d + 4) yD_falls [.ref 36, .int (nI kd), .int x] (hR Z X) = some (some (.int (fallV kd n a x)), hR Z (pX (tX X (fallT kd)) (fallP kd n a))) := by
  have e : kd = 1 ∨ kd = 2 ∨ kd = 3 ∨ kd = 4 ∨ kd = 5 ∨ kd = 6 ∨ kd = 7 ∨ kd = 8 := by omega
  rcases e with e | e | e | e | e | e | e | e <;> subst e
  · exact cD_fallP (d + 2) Z h (by omega) 1 (by omega) x
  · exact cD_fallP (d + 2) Z h (by omega) 2 (by omega) x
  · exact cD_fall3 (d + 1) Z h (by omega) x
  · exact cD_fallP (d + 2) Z h (by omega) 4 (by omega) x
  · exact cD_fallP (d + 2) Z h (by omega) 5 (by omega) x
  · have r0 : call PGM (d + 3) yD_falls [.ref 36, .int 3, .int x] (hR Z (bgX X 70)) = _ := cD_fall3 d Z (bk_s h 70) (by omega) x
    rw [kD_falls, eD_falls_0, o3, o6, o8]
    show aftK (sem PGM (d + 3) yD_falls) 0 (57, _, [], hR Z X) (call PGM (d + 3) yD_began [.ref 36, .int 70] (hR Z X)) = _
    rw [cD_began (d + 2) Z h (by omega), aft0, eD_falls_57, r0, aft1, eD_falls_63]
    rfl
  · exact cD_fallP (d + 2) Z h (by omega) 7 (by omega) x
  · have e3 : (bgX X 92).2.1 11 = a := (bk_s h 92).2.2.1
    rw [kD_falls, eD_falls_0, o3, o6, o8]
    show aftK (sem PGM (d + 3) yD_falls) 0 (72, _, [], hR Z X) (call PGM (d + 3) yD_began [.ref 36, .int 92] (hR Z X)) = _
    rw [cD_began (d + 2) Z h (by omega), aft0, eD_falls_72, e3]
    rfl
theorem cM_anyFalls (d : Nat) (Z : ZT) {M : MS} {kd : Nat} {n a : Int32} {m : Nat} (h : mk' M kd n a m) (hm : m < 30) (x : Int32) : call PGM (d + 2) yM_anyFalls [.ref 91, .int x] (hM Z M) = some (some (.int (faV0 n a x)), hM Z (mV (tM M [12]) 19 (bI (decide (a = n))))) := by
  obtain ⟨b1, b2, b3, b4, b5⟩ := mk_s h 12
  have z : decide (nI 0 = 0) = true := by decide
  have zz : ∀ v, (mV (rnM M 12) 19 v).2 17 = a ∧ (mV (rnM M 12) 19 v).2 16 = n := fun v => ⟨by rw [mV_n (by omega)]; exact b3, by rw [mV_n (by omega)]; exact b2⟩
  rw [kM_anyFalls, eM_anyFalls_0, cM_ran d Z h hm, aft0, eM_anyFalls_6, b4, b2, b3, z, eM_anyFalls_33, eM_anyFalls_33, (zz 1).1, (zz 1).2, (zz 0).1, (zz 0).2, sub_z, faV0]
  cases decide (a = n) <;> rfl
theorem cM_fallenFalls (d : Nat) (Z : ZT) {M : MS} {kd : Nat} {n a : Int32} {m : Nat} (h : mk' M kd n a m) (hm : m + 1 < 30) (x : Int32) : call PGM (d + 3) yM_fallenFalls [.ref 91, .int x] (hM Z M) = some (some (.int (faV0 n a (x + 1))), hM Z (mV (tM M [40, 12]) 19 (bI (decide (a = n))))) := by
  rw [kM_fallenFalls, eM_fallenFalls_0, cM_ran (d + 1) Z h (by omega), aft0, eM_fallenFalls_6, cM_anyFalls d Z (mk_s h 40) (by omega), aft1, eM_fallenFalls_13]
  rfl
theorem cM_fallsOf (d : Nat) (Z : ZT) {M : MS} {kd : Nat} {n a : Int32} {m : Nat} (h : mk' M kd n a m) (hm : m + 3 ≤ 30) (hk : 1 ≤ kd ∧ kd ≤ 8) (x : Int32) : call PGM (d + 4) yM_fallsOf [.ref 91, .int x] (hM Z M) = some (some (.int (fallV kd n a x)), hM Z (pM (tM M (fallT kd)) kd (fallP kd n a))) := by
  have h1 := h.1
  rw [kM_fallsOf, eM_fallsOf_0, h1, o3, o6, o8]
  have any : aftK (sem PGM (d + 3) yM_fallsOf) 1 (78, [some (.ref 91), some (.int x)], [], hM Z M) (call PGM (d + 3) yM_anyFalls [.ref 91, .int x] (hM Z M)) = some (some (.int (faV0 n a x)), hM Z (mV (tM M [12]) 19 (bI (decide (a = n))))) := by
    rw [cM_anyFalls (d + 1) Z h (by omega), aft1, eM_fallsOf_78]
  have e : kd = 1 ∨ kd = 2 ∨ kd = 3 ∨ kd = 4 ∨ kd = 5 ∨ kd = 6 ∨ kd = 7 ∨ kd = 8 := by omega
  rcases e with e | e | e | e | e | e | e | e <;> subst e
  · exact any
  · exact any
  · show aftK (sem PGM (d + 3) yM_fallsOf) 1 (45, _, [], hM Z M) (call PGM (d + 3) yM_fallenFalls [.ref 91, .int x] (hM Z M)) = _
    rw [cM_fallenFalls d Z h (by omega), aft1, eM_fallsOf_45]
    rfl
  · exact any
  · exact any
  · show aftK (sem PGM (d + 3) yM_fallsOf) 0 (52, _, [], hM Z M) (call PGM (d + 3) yM_ran [.ref 91, .int 70] (hM Z M)) = _
    rw [cM_ran (d + 2) Z h (by omega), aft0, eM_fallsOf_52, cM_fallenFalls d Z (mk_s h 70) (by omega), aft1, eM_fallsOf_57]
    rfl
  · exact any
  · show aftK (sem PGM (d + 3) yM_fallsOf) 0 (66, _, [], hM Z M) (call PGM (d + 3) yM_ran [.ref 91, .int 92] (hM Z M)) = _
    have e3 : (rnM M 92).2 17 = a := (mk_s h 92).2.2.1
    rw [cM_ran (d + 2) Z h (by omega), aft0, eM_fallsOf_66, e3]
    rfl
-- harms
def harV (kd : Nat) (n a x : Int32) : Int32 := if kd = 4 then (seeV kd n a x ^^^ n) + fallV kd n a n else if kd = 7 then (seeV kd n a x ^^^ n) * 2 else if kd = 8 then seeV kd n a x - fallV kd n a n else seeV kd n a x ^^^ n
def harT (kd : Nat) : List Int32 := if kd = 4 then [51, 13] ++ seeT kd ++ fallT kd else if kd = 7 then [80, 13] ++ seeT kd else if kd = 8 then [93] ++ seeT kd ++ fallT kd else [13] ++ seeT kd
def harP (kd : Nat) (n a : Int32) : Bool := if kd = 4 then decide (a = n) else false
def pH (M : MS) (kd : Nat) (p : Bool) : MS := if kd = 4 then mV M 19 (bI p) else M
theorem harT_le {kd : Nat} (h : 1 ≤ kd ∧ kd ≤ 8) : (harT kd).length ≤ 20 := by
  have e : kd = 1 ∨ kd = 2 ∨ kd = 3 ∨ kd = 4 ∨ kd = 5 ∨ kd = 6 ∨ kd = 7 ∨ kd = 8 := by omega
  rcases e with e | e | e | e | e | e | e | e <;> subst e <;> decide
theorem cD_harP (d : Nat) (Z : WT) {X : XS} {kd : Nat} {n a : Int32} {m : Nat} (h : bk X kd n a m) (hm : m + 10 ≤ 30) (hk : 1 ≤ kd ∧ kd ≤ 8) (as : Nat) (has : as = 1 ∨ as = 2 ∨ as = 3 ∨ as = 5 ∨ as = 6) (x : Int32) : call PGM (d + 8) yD_harms [.ref 36, .int (nI as), .int x] (hR Z X) = some (some (.int (seeV kd n a x ^^^ n)), hR Z (tX X ([13] ++ seeT kd))) := by
  have b1 := bk_s h 13
  have e2 : (tX (bgX X 13) (seeT kd)).2.1 10 = n := (bk_t _ b1).2.1
  have key : aftK (sem PGM (d + 7) yD_harms) 0 (112, [some (.ref 36), some (.int (nI as)), some (.int x)], [], hR Z X) (call PGM (d + 7) yD_began [.ref 36, .int 13] (hR Z X)) = some (some (.int (seeV kd n a x ^^^ n)), hR Z (tX X ([13] ++ seeT kd))) := by
    rw [cD_began (d + 6) Z h (by omega), aft0, eD_harms_112, b1.1, cD_sees d Z b1 (by omega) hk, aft1, eD_harms_121, e2, tX_app]
    rfl
  rw [kD_harms, eD_harms_0, o4, o5, o6, o7, o8]
  rcases has with e | e | e | e | e <;> subst e <;> exact key
theorem tX_cons (X : XS) (b : Int32) (L : List Int32) : tX (bgX X b) L = tX X (b :: L) := rfl
theorem tM_cons (M : MS) (b : Int32) (L : List Int32) : tM (rnM M b) L = tM M (b :: L) := rfl
theorem pX_f (X : XS) : pX X false = X := rfl
theorem har_d {kd : Nat} (h4 : kd ≠ 4) (h7 : kd ≠ 7) (h8 : kd ≠ 8) (n a x : Int32) : harV kd n a x = seeV kd n a x ^^^ n ∧ harT kd = [13] ++ seeT kd ∧ harP kd n a = false := by
  unfold harV harT harP
  simp only [h4, h7, h8, if_false]
  exact ⟨trivial, trivial, trivial⟩
theorem har_4 (n a x : Int32) : harV 4 n a x = (seeV 4 n a x ^^^ n) + fallV 4 n a n ∧ harT 4 = (51 :: ([13] ++ seeT 4)) ++ fallT 4 ∧ harP 4 n a = fallP 4 n a := by
  unfold harV harT harP fallP
  simp only [if_true, show ¬ (4 : Nat) = 8 by omega, if_false]
  exact ⟨trivial, rfl, trivial⟩
theorem har_7 (n a x : Int32) : harV 7 n a x = (seeV 7 n a x ^^^ n) * 2 ∧ harT 7 = 80 :: ([13] ++ seeT 7) ∧ harP 7 n a = false := by
  unfold harV harT harP
  simp only [if_true, show ¬ (7 : Nat) = 4 by omega, if_false]
  exact ⟨trivial, rfl, trivial⟩
theorem har_8 (n a x : Int32) : harV 8 n a x = seeV 8 n a x - fallV 8 n a n ∧ harT 8 = (93 :: seeT 8) ++ fallT 8 ∧ harP 8 n a = fallP 8 n a := by
  unfold harV harT harP fallP
  simp only [if_true, show ¬ (8 : Nat) = 4 by omega, show ¬ (8 : Nat) = 7 by omega, if_false]
  exact ⟨trivial, rfl, trivial⟩
theorem cD_harD (d : Nat) (Z : WT) {X : XS} {kd : Nat} {n a : Int32} {m : Nat} (h : bk X kd n a m) (hm : m + 20 ≤ 30) (hk : 1 ≤ kd ∧ kd ≤ 8) (h4 : kd ≠ 4) (h7 : kd ≠ 7) (h8 : kd ≠ 8) (x : Int32) : call PGM (d + 9) yD_harms [.ref 36, .int (nI kd), .int x] (hR Z X) = some (some (.int (harV kd n a x)), hR Z (pX (tX X (harT kd)) (harP kd n a))) := by
  obtain ⟨e1, e2, e3⟩ := har_d h4 h7 h8 n a x
  rw [e1, e2, e3, pX_f]
  exact cD_harP (d + 1) Z h (by omega) hk kd (by omega) x
theorem cD_har4 (d : Nat) (Z : WT) {X : XS} {n a : Int32} {m : Nat} (h : bk X 4 n a m) (hm : m + 20 ≤ 30) (x : Int32) : call PGM (d + 9) yD_harms [.ref 36, .int (nI 4), .int x] (hR Z X) = some (some (.int (harV 4 n a x)), hR Z (pX (tX X (harT 4)) (harP 4 n a))) := by
  obtain ⟨e1, e2, e3⟩ := har_4 n a x
  have r0 := cD_harP d Z (bk_s h 51) (by omega) (by omega) 1 (by omega) x
  have b2 := bk_t ([13] ++ seeT 4) (bk_s h 51)
  have le : ([13] ++ seeT 4 : List Int32).length ≤ 10 := by decide
  rw [e1, e2, e3, tX_app, ← tX_cons, kD_harms, eD_harms_0, o4]
  have z : decide (nI 4 = nI 4) = true := by decide
  rw [z, cond_true, cD_began (d + 7) Z h (by omega), aft0, eD_harms_42]
  rw [show (1 : Int32) = nI 1 from rfl, r0, aft1, eD_harms_48, b2.1, b2.2.1, cD_falls (d + 4) Z b2 (by omega) (by omega), aft1, eD_harms_60]
theorem cD_har7 (d : Nat) (Z : WT) {X : XS} {n a : Int32} {m : Nat} (h : bk X 7 n a m) (hm : m + 20 ≤ 30) (x : Int32) : call PGM (d + 9) yD_harms [.ref 36, .int (nI 7), .int x] (hR Z X) = some (some (.int (harV 7 n a x)), hR Z (pX (tX X (harT 7)) (harP 7 n a))) := by
  obtain ⟨e1, e2, e3⟩ := har_7 n a x
  have r0 := cD_harP d Z (bk_s h 80) (by omega) (by omega) 2 (by omega) x
  rw [e1, e2, e3, pX_f, ← tX_cons, kD_harms, eD_harms_0, o4, o5, o6, o7]
  have z4 : decide (nI 7 = nI 4) = false := by decide
  have z5 : decide (nI 7 = nI 5) = false := by decide
  have z6 : decide (nI 7 = nI 6) = false := by decide
  have z : decide (nI 7 = nI 7) = true := by decide
  rw [z4, z5, z6, z, cond_false, cond_false, cond_false, cond_true, cD_began (d + 7) Z h (by omega), aft0, eD_harms_68]
  rw [show (2 : Int32) = nI 2 from rfl, r0, aft1, eD_harms_74]
  rfl
theorem cD_har8 (d : Nat) (Z : WT) {X : XS} {n a : Int32} {m : Nat} (h : bk X 8 n a m) (hm : m + 20 ≤ 30) (x : Int32) : call PGM (d + 9) yD_harms [.ref 36, .int (nI 8), .int x] (hR Z X) = some (some (.int (harV 8 n a x)), hR Z (pX (tX X (harT 8)) (harP 8 n a))) := by
  obtain ⟨e1, e2, e3⟩ := har_8 n a x
  have b1 := bk_s h 93
  have b2 := bk_t (seeT 8) b1
  have le : (seeT 8 : List Int32).length ≤ 9 := by decide
  rw [e1, e2, e3, tX_app, ← tX_cons, kD_harms, eD_harms_0, o4, o5, o6, o7, o8]
  have z4 : decide (nI 8 = nI 4) = false := by decide
  have z5 : decide (nI 8 = nI 5) = false := by decide
  have z6 : decide (nI 8 = nI 6) = false := by decide
  have z7 : decide (nI 8 = nI 7) = false := by decide
  have z : decide (nI 8 = nI 8) = true := by decide
  rw [z4, z5, z6, z7, z, cond_false, cond_false, cond_false, cond_false, cond_true, cD_began (d + 7) Z h (by omega), aft0, eD_harms_83, b1.1, cD_sees (d + 1) Z b1 (by omega) (by omega), aft1, eD_harms_92, b2.1, b2.2.1, cD_falls (d + 4) Z b2 (by omega) (by omega), aft1, eD_harms_104]
theorem cD_harms (d : Nat) (Z : WT) {X : XS} {kd : Nat} {n a : Int32} {m : Nat} (h : bk X kd n a m) (hm : m + 20 ≤ 30) (hk : 1 ≤ kd ∧ kd ≤ 8) (x : Int32) : call PGM (d + 9) yD_harms [.ref 36, .int (nI kd), .int x] (hR Z X) = some (some (.int (harV kd n a x)), hR Z (pX (tX X (harT kd)) (harP kd n a))) := by
  by_cases h4 : kd = 4
  · subst h4; exact cD_har4 d Z h hm x
  · by_cases h7 : kd = 7
    · subst h7; exact cD_har7 d Z h hm x
    · by_cases h8 : kd = 8
      · subst h8; exact cD_har8 d Z h hm x
      · exact cD_harD d Z h hm hk h4 h7 h8 x
theorem cM_anyHarms (d : Nat) (Z : ZT) {M : MS} {kd : Nat} {n a : Int32} {m : Nat} (h : mk' M kd n a m) (hm : m + 10 ≤ 30) (hk : 1 ≤ kd ∧ kd ≤ 8) (x : Int32) : call PGM (d + 8) yM_anyHarms [.ref 91, .int x] (hM Z M) = some (some (.int (seeV kd n a x ^^^ n)), hM Z (tM M ([13] ++ seeT kd))) := by
  have e2 : (tM (rnM M 13) (seeT kd)).2 16 = n := (mk_t _ (mk_s h 13)).2.1
  rw [kM_anyHarms, eM_anyHarms_0, cM_ran (d + 6) Z h (by omega), aft0, eM_anyHarms_6, cM_seesOf d Z (mk_s h 13) (by omega) hk, aft1, eM_anyHarms_11, e2, tM_app]
  rfl
theorem pH_n {M : MS} {kd : Nat} {p : Bool} (h : kd ≠ 4) : pH M kd p = M := if_neg h
theorem pH_4 (M : MS) (p : Bool) : pH M 4 p = mV M 19 (bI p) := if_pos rfl
theorem pM_4 (M : MS) (p : Bool) : pM M 4 p = mV M 19 (bI p) := if_neg (by omega)
theorem pM_8 (M : MS) (p : Bool) : pM M 8 p = M := if_pos rfl
theorem cM_harmsOf (d : Nat) (Z : ZT) {M : MS} {kd : Nat} {n a : Int32} {m : Nat} (h : mk' M kd n a m) (hm : m + 20 ≤ 30) (hk : 1 ≤ kd ∧ kd ≤ 8) (x : Int32) : call PGM (d + 9) yM_harmsOf [.ref 91, .int x] (hM Z M) = some (some (.int (harV kd n a x)), hM Z (pH (tM M (harT kd)) kd (harP kd n a))) := by
  have h1 := h.1
  have any : aftK (sem PGM (d + 8) yM_harmsOf) 1 (105, [some (.ref 91), some (.int x), none], [], hM Z M) (call PGM (d + 8) yM_anyHarms [.ref 91, .int x] (hM Z M)) = some (some (.int (seeV kd n a x ^^^ n)), hM Z (tM M ([13] ++ seeT kd))) := by
    rw [cM_anyHarms d Z h (by omega) hk, aft1, eM_harmsOf_105]
  by_cases h4 : kd = 4
  · subst h4
    obtain ⟨e1, e2, e3⟩ := har_4 n a x
    have b2 := mk_t ([13] ++ seeT 4) (mk_s h 51)
    have le : ([13] ++ seeT 4 : List Int32).length ≤ 10 := by decide
    have z : decide (nI 4 = nI 4) = true := by decide
    rw [e1, e2, e3, pH_4, tM_app, ← tM_cons, kM_harmsOf, eM_harmsOf_0, h1, o4, z, cond_true, cM_ran (d + 7) Z h (by omega), aft0, eM_harmsOf_46, cM_anyHarms d Z (mk_s h 51) (by omega) hk, aft1, eM_harmsOf_51, b2.2.1, cM_fallsOf (d + 4) Z b2 (by omega) hk, aft1, eM_harmsOf_61, pM_4]
  · by_cases h7 : kd = 7
    · subst h7
      obtain ⟨e1, e2, e3⟩ := har_7 n a x
      have z4 : decide (nI 7 = nI 4) = false := by decide
      have z5 : decide (nI 7 = nI 5) = false := by decide
      have z6 : decide (nI 7 = nI 6) = false := by decide
      have z : decide (nI 7 = nI 7) = true := by decide
      rw [e1, e2, e3, pH_n (by omega), ← tM_cons, kM_harmsOf, eM_harmsOf_0, h1, o4, o5, o6, o7, z4, z5, z6, z, cond_false, cond_false, cond_false, cond_true, cM_ran (d + 7) Z h (by omega), aft0, eM_harmsOf_69, cM_anyHarms d Z (mk_s h 80) (by omega) hk, aft1, eM_harmsOf_74]
    · by_cases h8 : kd = 8
      · subst h8
        obtain ⟨e1, e2, e3⟩ := har_8 n a x
        have b2 := mk_t (seeT 8) (mk_s h 93)
        have le : (seeT 8 : List Int32).length ≤ 9 := by decide
        have z4 : decide (nI 8 = nI 4) = false := by decide
        have z5 : decide (nI 8 = nI 5) = false := by decide
        have z6 : decide (nI 8 = nI 6) = false := by decide
        have z7 : decide (nI 8 = nI 7) = false := by decide
        have z : decide (nI 8 = nI 8) = true := by decide
        rw [e1, e2, e3, pH_n (by omega), tM_app, ← tM_cons, kM_harmsOf, eM_harmsOf_0, h1, o4, o5, o6, o7, o8, z4, z5, z6, z7, z, cond_false, cond_false, cond_false, cond_false, cond_true, cM_ran (d + 7) Z h (by omega), aft0, eM_harmsOf_83, cM_seesOf (d + 1) Z (mk_s h 93) (by omega) hk, aft1, eM_harmsOf_88, b2.2.1, cM_fallsOf (d + 4) Z b2 (by omega) hk, aft1, eM_harmsOf_98, pM_8]
      · obtain ⟨e1, e2, e3⟩ := har_d h4 h7 h8 n a x
        rw [e1, e2, e3, pH_n h4, kM_harmsOf, eM_harmsOf_0, h1, o4, o5, o6, o7, o8]
        have e : kd = 1 ∨ kd = 2 ∨ kd = 3 ∨ kd = 5 ∨ kd = 6 := by omega
        rw [deq (by omega) (by omega), deq (by omega) (by omega), deq (by omega) (by omega), deq (by omega) (by omega), deq (by omega) (by omega)]
        simp only [h4, h7, h8, decide_false, cond_false]
        rw [bif_same, bif_same]
        exact any
