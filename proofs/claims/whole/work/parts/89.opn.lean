/-! Calls of both: taken, act. -/
theorem tX_f : ∀ (L : List Int32) (X : XS), (∀ k, k ≠ 16 → (tX X L).1 k = X.1 k) ∧ (∀ k, k ≠ 8 → (tX X L).2.1 k = X.2.1 k) ∧ (tX X L).2.2 = X.2.2
  | [], X => ⟨fun _ _ => rfl, fun _ _ => rfl, rfl⟩
  | b :: L, X => by
    obtain ⟨h1, h2, h3⟩ := tX_f L (bgX X b)
    refine ⟨fun k hk => ?_, fun k hk => ?_, h3⟩
    · rw [← tX_cons, h1 k hk]
      exact xA_n hk
    · rw [← tX_cons, h2 k hk]
      unfold bgX
      rw [xV_n hk]
      rfl
theorem tM_f : ∀ (L : List Int32) (M : MS), (∀ k, k ≠ 15 → (tM M L).1 k = M.1 k) ∧ (∀ k, k ≠ 18 → (tM M L).2 k = M.2 k)
  | [], M => ⟨fun _ _ => rfl, fun _ _ => rfl⟩
  | b :: L, M => by
    obtain ⟨h1, h2⟩ := tM_f L (rnM M b)
    refine ⟨fun k hk => ?_, fun k hk => ?_⟩
    · rw [← tM_cons, h1 k hk]
      exact mA_n hk
    · rw [← tM_cons, h2 k hk]
      unfold rnM
      rw [mV_n hk]
      rfl
theorem t_both : ∀ (L : List Int32) (X : XS) (M : MS) (m : Nat), X.2.1 8 = nI m → M.2 18 = nI m → m + L.length ≤ 30 → (∀ i, i < m → X.1 16 i = M.1 15 i) → (tX X L).2.1 8 = nI (m + L.length) ∧ (tM M L).2 18 = nI (m + L.length) ∧ ∀ i, i < m + L.length → (tX X L).1 16 i = (tM M L).1 15 i
  | [], X, M, m, h1, h2, _, h3 => ⟨h1, h2, h3⟩
  | b :: L, X, M, m, h1, h2, hl, h3 => by
    rw [List.length_cons] at hl ⊢
    have e1 : (bgX X b).2.1 8 = nI (m + 1) := by unfold bgX; rw [xV_s, h1, nI_1]
    have e2 : (rnM M b).2 18 = nI (m + 1) := by unfold rnM; rw [mV_s, h2, nI_1]
    have e3 : ∀ i, i < m + 1 → (bgX X b).1 16 i = (rnM M b).1 15 i := by
      intro i hi
      show upd (X.1 16) (X.2.1 8).toNatClampNeg b i = upd (M.1 15) (M.2 18).toNatClampNeg b i
      rw [h1, h2, nclamp (by omega)]
      by_cases e : i = m
      · subst e; rw [upd_eq, upd_eq]
      · rw [upd_ne e, upd_ne e]
        exact h3 i (by omega)
    have := t_both L _ _ (m + 1) e1 e2 (by omega) e3
    rw [show m + (L.length + 1) = m + 1 + L.length by omega, ← tX_cons, ← tM_cons]
    exact this
theorem INV_B {i : Nat} {X X' : XS} {N K : SS} {M M' : MS} {dd : AH} (h : INV i X N K M dd) (x1 : ∀ k, k ≠ 16 → X'.1 k = X.1 k) (x2 : ∀ k, (k < 8 ∨ 12 < k) → X'.2.1 k = X.2.1 k) (x3 : X'.2.2 = X.2.2) (m1 : ∀ k, k ≠ 15 → M'.1 k = M.1 k) (m2 : ∀ k, (k < 15 ∨ 19 < k) → M'.2 k = M.2 k) (hB : iB X' M') : INV (i + 1) X' N K M' dd := by
  obtain ⟨⟨a, a'⟩, b, c, e, f, g, k, l, m⟩ := INV_mono h
  refine ⟨⟨by rw [m1 0 (by omega)]; exact a, a'⟩, ?_, ?_, ?_, ?_, ?_, hB, ?_, m⟩
  · unfold iK; rw [m2 0 (by omega), m1 1 (by omega), x2 0 (by omega)]; exact b
  · unfold iT; rw [m2 1 (by omega), m1 3 (by omega), x2 1 (by omega), x1 0 (by omega)]; exact c
  · unfold iR; rw [m2 14 (by omega), m1 8 (by omega), x2 6 (by omega), x1 8 (by omega), x1 9 (by omega), x1 10 (by omega)]; exact e
  · unfold iH iH1; rw [m1 9 (by omega), m1 10 (by omega), m1 11 (by omega), x3]; exact f
  · unfold iE iE1; rw [m1 12 (by omega), m1 13 (by omega), m1 14 (by omega), x3, x1 14 (by omega), x1 15 (by omega)]; exact g
  · unfold iM; rw [m2 8 (by omega), m2 12 (by omega), m2 10 (by omega)]; exact l
def actV (w kd : Nat) (n a x : Int32) : Int32 := if w = 0 then runV kd n a x else if w = 1 then seeV kd n a x else if w = 2 then fallV kd n a x else harV kd n a x
def actT (w kd : Nat) : List Int32 := if w = 0 then runT kd else if w = 1 then seeT kd else if w = 2 then fallT kd else harT kd
def actP (w kd : Nat) (n a : Int32) : Bool := if w = 0 then false else if w = 1 then false else if w = 2 then fallP kd n a else harP kd n a
theorem actT_le {w kd : Nat} (h : 1 ≤ kd ∧ kd ≤ 8) : (actT w kd).length ≤ 20 := by
  have h1 := runT_le h
  have h2 := seeT_le h
  have h3 := fallT_le h
  have h4 := harT_le h
  unfold actT
  by_cases a0 : w = 0
  · rw [if_pos a0]; omega
  · rw [if_neg a0]
    by_cases a1 : w = 1
    · rw [if_pos a1]; omega
    · rw [if_neg a1]
      by_cases a2 : w = 2
      · rw [if_pos a2]; omega
      · rw [if_neg a2]; omega
def ansX (X : XS) (kd : Nat) (n a : Int32) : XS := xV (xV (xV (xV (xV X 9 (nI kd)) 10 n) 11 a) 8 0) 12 0
theorem ans_bk (X : XS) (kd : Nat) (n a : Int32) : bk (ansX X kd n a) kd n a 0 := by
  unfold ansX
  refine ⟨?_, ?_, ?_, xV_s _ _ _, ?_⟩
  · rw [xV_n (by omega), xV_n (by omega), xV_n (by omega), xV_n (by omega), xV_s]
  · rw [xV_n (by omega), xV_n (by omega), xV_n (by omega), xV_s]
  · rw [xV_n (by omega), xV_n (by omega), xV_s]
  · rw [xV_n (by omega), xV_s]; rfl
theorem pX_12 {X : XS} (h : X.2.1 12 = nI 0) (p : Bool) : decide ((pX X p).2.1 12 = 0) = !p := by
  cases p with
  | true => show decide ((xV X 12 1).2.1 12 = 0) = _; rw [xV_s]; rfl
  | false => show decide (X.2.1 12 = 0) = _; rw [h]; rfl
theorem cD_answer (d : Nat) (Z : WT) (X : XS) (kd : Nat) (n a : Int32) (hk : 1 ≤ kd ∧ kd ≤ 8) (w : Nat) (hw : w ≤ 3) (x : Int32) : call PGM (d + 10) yD_answer [.ref 36, .int (nI kd), .int n, .int a, .int (nI w), .int x] (hR Z X) = some (some (.int (bif actP w kd n a then -15 else actV w kd n a x)), hR Z (pX (tX (ansX X kd n a) (actT w kd)) (actP w kd n a))) := by
  have b := ans_bk X kd n a
  have t : ∀ L, (tX (ansX X kd n a) L).2.1 12 = nI 0 := fun L => ((tX_f L _).2.1 12 (by omega)).trans b.2.2.2.1
  have z : decide (nI 0 = 0) = true := by decide
  rw [kD_answer, eD_answer_0, eD_answer_5, eD_answer_10, eD_answer_15, eD_answer_20]
  show sem PGM (d + 9) yD_answer (25, _, [], hR Z (ansX X kd n a)) = _
  rw [eD_answer_25, b.1]
  have e : w = 0 ∨ w = 1 ∨ w = 2 ∨ w = 3 := by omega
  rcases e with e | e | e | e <;> subst e
  · show aftK _ 1 _ (call PGM (d + 9) yD_runs _ _) = some (some (.int (runV kd n a x)), hR Z (tX (ansX X kd n a) (runT kd)))
    rw [cD_runs (d + 5) Z b (by omega) hk, aft1, eD_answer_40, t, z, cond_true]
  · show aftK _ 1 _ (call PGM (d + 9) yD_sees _ _) = some (some (.int (seeV kd n a x)), hR Z (tX (ansX X kd n a) (seeT kd)))
    rw [cD_sees (d + 2) Z b (by omega) hk, aft1, eD_answer_61, t, z, cond_true]
  · show aftK _ 1 _ (call PGM (d + 9) yD_falls _ _) = some (some (.int (bif fallP kd n a then -15 else fallV kd n a x)), hR Z (pX (tX (ansX X kd n a) (fallT kd)) (fallP kd n a)))
    rw [cD_falls (d + 5) Z b (by omega) hk, aft1, eD_answer_82, pX_12 (t _)]
    cases fallP kd n a <;> rfl
  · show aftK _ 1 _ (call PGM (d + 9) yD_harms _ _) = some (some (.int (bif harP kd n a then -15 else harV kd n a x)), hR Z (pX (tX (ansX X kd n a) (harT kd)) (harP kd n a)))
    rw [cD_harms d Z b (by omega) hk, aft1, eD_answer_97, pX_12 (t _)]
    cases harP kd n a <;> rfl
/-- what the model's act leaves -/
def aM (M M' : MS) : Prop := M'.1 = M.1 ∧ ∀ k, k ≠ 19 → M'.2 k = M.2 k
theorem cM_actEnd (d : Nat) (Z : ZT) {M : MS} {kd : Nat} {n a : Int32} (b : mk' M kd n a 0) (hk : 1 ≤ kd ∧ kd ≤ 8) (w : Nat) (hw : w ≤ 3) (x : Int32) (u1 u4 : Option Value) : ∃ M', sem PGM (d + 9) yM_act (45, [some (.ref 91), u1, some (.int (nI w)), some (.int x), u4], [], hM Z M) = some (some (.int (bif actP w kd n a then -15 else actV w kd n a x)), hM Z M') ∧ aM (tM M (actT w kd)) M' := by
  have t : ∀ L, (tM M L).2 19 = nI 0 := fun L => ((tM_f L _).2 19 (by omega)).trans b.2.2.2.1
  have z : decide (nI 0 = 0) = true := by decide
  rw [eM_act_45]
  have e : w = 0 ∨ w = 1 ∨ w = 2 ∨ w = 3 := by omega
  rcases e with e | e | e | e <;> subst e
  · refine ⟨tM M (runT kd), ?_, rfl, fun _ _ => rfl⟩
    show aftK _ 1 _ (call PGM (d + 9) yM_runsOf _ _) = some (some (.int (runV kd n a x)), hM Z (tM M (runT kd)))
    rw [cM_runsOf (d + 5) Z b (by omega) hk, aft1, eM_act_54, t, z, cond_true]
  · refine ⟨tM M (seeT kd), ?_, rfl, fun _ _ => rfl⟩
    show aftK _ 1 _ (call PGM (d + 9) yM_seesOf _ _) = some (some (.int (seeV kd n a x)), hM Z (tM M (seeT kd)))
    rw [cM_seesOf (d + 2) Z b (by omega) hk, aft1, eM_act_67, t, z, cond_true]
  · have q : decide ((pM (tM M (fallT kd)) kd (fallP kd n a)).2 19 = 0) = !fallP kd n a := by
      by_cases e8 : kd = 8
      · subst e8; rw [pM_8, t]; rfl
      · rw [show pM (tM M (fallT kd)) kd (fallP kd n a) = mV (tM M (fallT kd)) 19 (bI (fallP kd n a)) from if_neg e8, mV_s]
        cases fallP kd n a <;> rfl
    refine ⟨pM (tM M (fallT kd)) kd (fallP kd n a), ?_, ?_⟩
    · show aftK _ 1 _ (call PGM (d + 9) yM_fallsOf _ _) = some (some (.int (bif fallP kd n a then -15 else fallV kd n a x)), _)
      rw [cM_fallsOf (d + 5) Z b (by omega) hk, aft1, eM_act_80, q]
      cases fallP kd n a <;> rfl
    · show aM (tM M (fallT kd)) _
      by_cases e8 : kd = 8
      · subst e8; rw [pM_8]; exact ⟨rfl, fun _ _ => rfl⟩
      · rw [show pM (tM M (fallT kd)) kd (fallP kd n a) = mV (tM M (fallT kd)) 19 (bI (fallP kd n a)) from if_neg e8]
        exact ⟨rfl, fun k hk => mV_n hk⟩
  · have q : decide ((pH (tM M (harT kd)) kd (harP kd n a)).2 19 = 0) = !harP kd n a := by
      by_cases e4 : kd = 4
      · subst e4; rw [pH_4, mV_s]
        cases harP 4 n a <;> rfl
      · rw [pH_n e4, t, show harP kd n a = false from if_neg e4]; rfl
    refine ⟨pH (tM M (harT kd)) kd (harP kd n a), ?_, ?_⟩
    · show aftK _ 1 _ (call PGM (d + 9) yM_harmsOf _ _) = some (some (.int (bif harP kd n a then -15 else harV kd n a x)), _)
      rw [cM_harmsOf d Z b (by omega) hk, aft1, eM_act_88, q]
      cases harP kd n a <;> rfl
    · show aM (tM M (harT kd)) _
      by_cases e4 : kd = 4
      · subst e4; rw [pH_4]; exact ⟨rfl, fun k hk => mV_n hk⟩
      · rw [pH_n e4]; exact ⟨rfl, fun _ _ => rfl⟩
/-- what lies there: nobody, a BODY, a row -/
def tkM (M : MS) (k : Nat) : MS := mV (mV M 15 (-1)) 16 (M.1 13 k)
theorem lies (d : Nat) {X : XS} {N : SS} {M : MS} {dd : AH} {nc np nb t b : Nat} (R : RS N (M.1 0) np nb) (W : WF (M.1 0) nc np nb t (fun _ => b)) {k : Nat} (hk : k < 4) (h : iE1 X M dd k) : ((X.2.2 1 k = none ∧ decide (M.1 12 k = 2) = false ∨ ∃ j t n f, X.2.2 1 k = some (j + 108) ∧ decide (M.1 12 k = 2) = true ∧ shA dd j t n f ∧ M.1 13 k = nI t ∧ M.1 14 k = nI n) ∧ (∀ g T K M2, call PGM (d + 3) yB_kindOnShelf [.ref 12, .int (nI k)] (heapOf g X N T K M2 dd) = some (some (.int MO), heapOf g X N T K M2 dd)) ∧ ∀ (Z : ZT) (M2 : MS), M2.1 = M.1 → call PGM (d + 3) yM_takes [.ref 91, .int (nI k)] (hM Z M2) = some (none, hM Z (tkM M2 k))) ∨ ∃ kd q w a, 1 ≤ kd ∧ kd ≤ 8 ∧ (kd = 8 ∧ w = 10 ∧ q < 6 ∨ kd < 8 ∧ w = 7 ∧ q < 20) ∧ N.1 w q = a ∧ X.2.2 1 k = none ∧ decide (M.1 12 k = 2) = false ∧ X.1 15 k = nI q ∧ M.1 13 k = nI q ∧ (∀ g T K M2, call PGM (d + 3) yB_kindOnShelf [.ref 12, .int (nI k)] (heapOf g X N T K M2 dd) = some (some (.int (nI kd)), heapOf g X N T K M2 dd)) ∧ ∀ (Z : ZT) (M2 : MS), M2.1 = M.1 → call PGM (d + 3) yM_takes [.ref 91, .int (nI k)] (hM Z M2) = some (none, hM Z (mV (mV (tkM M2 k) 15 (nI kd)) 17 a)) := by
  have hnp := W.1.2.1.2
  have hnb : nb ≤ 6 := W.1.2.2.1.2
  have e1 : N.2.1 1 = nI np := (R.1 1 (by omega)).trans W.1.2.1.1
  have e2 : N.2.1 2 = nI nb := (R.1 2 (by omega)).trans W.1.2.2.1.1
  have ik : inb (nI k) 4 = true := by rw [inb_nI (by omega)]; simp [hk]
  have nk : (nI k).toNatClampNeg = k := nclamp (by omega)
  have cB : ∀ g T K M2, call PGM (d + 3) yB_kindOnShelf [.ref 12, .int (nI k)] (heapOf g X N T K M2 dd) = bif !decide (X.1 14 k = 0) then bif !decide (X.1 14 k = 1) then some (some (.int (-1)), heapOf g X N T K M2 dd) else sem PGM (d + 2) yB_kindOnShelf (55, [some (.ref 12), some (.int (nI k)), some (.int (X.1 15 k))], [.int (bI (hasB (X.1 15 k) nb))], heapOf g X N T K M2 dd) else sem PGM (d + 2) yB_kindOnShelf (24, [some (.ref 12), some (.int (nI k)), some (.int (X.1 15 k))], [.int (bI (hasB (X.1 15 k) np))], heapOf g X N T K M2 dd) := by
    intro g T K M2
    rw [kB_kindOnShelf, eB_kindOnShelf_0, ik, nk, cN_hasPerson (d + 1) g X T K M2 dd _ e1, cN_hasBeast (d + 1) g X T K M2 dd _ e2, aft1, aft1]
    rfl
  have cM : ∀ (Z : ZT) (M2 : MS), M2.1 = M.1 → call PGM (d + 3) yM_takes [.ref 91, .int (nI k)] (hM Z M2) = bif !decide (M.1 12 k = 0) then bif !decide (M.1 12 k = 1) then some (none, hM Z (tkM M2 k)) else sem PGM (d + 2) yM_takes (78, [some (.ref 91), some (.int (nI k)), some (.int (M.1 13 k))], [.int (bI (hasB (M.1 13 k) nb))], hM Z (tkM M2 k)) else sem PGM (d + 2) yM_takes (31, [some (.ref 91), some (.int (nI k)), some (.int (M.1 13 k))], [.int (bI (hasB (M.1 13 k) np))], hM Z (tkM M2 k)) := by
    intro Z M2 he
    rw [kM_takes, eM_takes_0, ik, nk, cond_true, eM_takes_12]
    show sem PGM (d + 2) yM_takes (17, [some (.ref 91), some (.int (nI k)), some (.int (M2.1 13 k))], [], hM Z (tkM M2 k)) = _
    have t1 : (tkM M2 k).1 = M.1 := he
    rw [eM_takes_17, ik, nk, cM_isPerson d Z _ _ hnp (by rw [t1]; exact W.1.2.1.1), cM_isBeast d Z _ _ hnb (by rw [t1]; exact W.1.2.2.1.1), aft1, aft1, t1, he]
    rfl
  rcases h with ⟨s1, s2, s3⟩ | ⟨w, q, hw, hq, s1, s2, s3, s4, s5⟩ | ⟨j, tt, n, f, s1, s2, s3, s4, s5, s6⟩
  · refine Or.inl ⟨Or.inl ⟨s3, by rw [s2]; rfl⟩, fun g T K M2 => ?_, fun Z M2 he => ?_⟩
    · rcases s1 with s1 | s1
      · rw [cB, s1]; rfl
      · rw [cB, s1]; rfl
    · rw [cM Z M2 he, s2]; rfl
  · have e : w = 0 ∨ w = 1 := by omega
    rcases e with e | e <;> subst e
    · by_cases hp : q < np
      · obtain ⟨⟨kd, k1, k7, ek⟩, _, ⟨a, _, _, ea⟩, _⟩ := W.2.2.1 q hp
        obtain ⟨r1, _, r3, _⟩ := R.2.2.1 q hp
        refine Or.inr ⟨kd, q, 7, nI a, k1, by omega, Or.inr ⟨by omega, rfl, by omega⟩, r3.trans ea, s5, by rw [s2]; rfl, s3, s4, fun g T K M2 => ?_, fun Z M2 he => ?_⟩
        · have hb : hasB (nI q) np = true := by rw [has_n (by omega) (by omega)]; simp [hp]
          have i20 : inb (nI q) 20 = true := by rw [inb_nI (by omega)]; simp; omega
          rw [cB, s1, s3, hb]
          show sem PGM (d + 2) yB_kindOnShelf (24, [some (.ref 12), some (.int (nI k)), some (.int (nI q))], [.int (bI true)], heapOf g X N T K M2 dd) = _
          rw [eB_kindOnShelf_24, i20, nk, show (nI q).toNatClampNeg = q from nclamp (by omega), r1, ek]
          rfl
        · have hb : hasB (nI q) np = true := by rw [has_n (by omega) (by omega)]; simp [hp]
          have t1 : (tkM M2 k).1 = M.1 := he
          have t2 : (mV (tkM M2 k) 15 (nI kd)).1 = M.1 := he
          have e9 : (99 : Int32) + 4 * nI q + 2 = nI (99 + 4 * q + 2) := by rw [show (99 : Int32) = nI 99 from rfl, show (4 : Int32) = nI 4 from rfl, show (2 : Int32) = nI 2 from rfl, pk_mul, nI_add, nI_add]
          have i9 : inb (nI (99 + 4 * q + 2)) 437 = true := by rw [inb_nI (by omega)]; simp; omega
          rw [cM Z M2 he, s2, s4, hb]
          show sem PGM (d + 2) yM_takes (31, [some (.ref 91), some (.int (nI k)), some (.int (nI q))], [.int (bI true)], hM Z (tkM M2 k)) = _
          rw [eM_takes_31]
          show aftK _ 1 _ (call PGM (d + 2) yM_kindOf [.ref 91, .int (nI q)] (hM Z (tkM M2 k))) = _
          rw [cM_kindOf (d + 1) Z _ q (by omega), t1, ek, aft1, eM_takes_40, eM_takes_43, e9, i9, t2, nclamp (by omega), ea]
          rfl
      · have hb : hasB (nI q) np = false := by rw [has_n (by omega) (by omega)]; simp; omega
        refine Or.inl ⟨Or.inl ⟨s5, by rw [s2]; rfl⟩, fun g T K M2 => ?_, fun Z M2 he => ?_⟩
        · rw [cB, s1, s3, hb]
          show sem PGM (d + 2) yB_kindOnShelf (24, [some (.ref 12), some (.int (nI k)), some (.int (nI q))], [.int (bI false)], heapOf g X N T K M2 dd) = _
          rw [eB_kindOnShelf_24, ik, nk, s1]
          rfl
        · have t1 : (tkM M2 k).1 = M.1 := he
          rw [cM Z M2 he, s2, s4, hb]
          show sem PGM (d + 2) yM_takes (31, [some (.ref 91), some (.int (nI k)), some (.int (nI q))], [.int (bI false)], hM Z (tkM M2 k)) = _
          rw [eM_takes_31, ik, nk, t1, s2]
          rfl
    · by_cases hp : q < nb
      · obtain ⟨_, ⟨a, _, _, ea⟩, _⟩ := W.2.2.2 q hp
        obtain ⟨_, r2, _⟩ := R.2.2.2.1 q hp
        refine Or.inr ⟨8, q, 10, nI a, by omega, by omega, Or.inl ⟨rfl, rfl, by omega⟩, r2.trans ea, s5, by rw [s2]; rfl, s3, s4, fun g T K M2 => ?_, fun Z M2 he => ?_⟩
        · have hb : hasB (nI q) nb = true := by rw [has_n (by omega) (by omega)]; simp [hp]
          rw [cB, s1, s3, hb]
          show sem PGM (d + 2) yB_kindOnShelf (55, [some (.ref 12), some (.int (nI k)), some (.int (nI q))], [.int (bI true)], heapOf g X N T K M2 dd) = _
          rw [eB_kindOnShelf_55]
          rfl
        · have hb : hasB (nI q) nb = true := by rw [has_n (by omega) (by omega)]; simp [hp]
          have t2 : (mV (tkM M2 k) 15 8).1 = M.1 := he
          have e9 : (179 : Int32) + 3 * nI q + 1 = nI (179 + 3 * q + 1) := by rw [show (179 : Int32) = nI 179 from rfl, show (3 : Int32) = nI 3 from rfl, show (1 : Int32) = nI 1 from rfl, pk_mul, nI_add, nI_add]
          have i9 : inb (nI (179 + 3 * q + 1)) 437 = true := by rw [inb_nI (by omega)]; simp; omega
          rw [cM Z M2 he, s2, s4, hb]
          show sem PGM (d + 2) yM_takes (78, [some (.ref 91), some (.int (nI k)), some (.int (nI q))], [.int (bI true)], hM Z (tkM M2 k)) = _
          rw [eM_takes_78]
          show sem PGM (d + 2) yM_takes (87, [some (.ref 91), some (.int (nI k)), some (.int (nI q))], [], hM Z (mV (tkM M2 k) 15 8)) = _
          rw [eM_takes_87, e9, i9, t2, nclamp (by omega), ea]
          rfl
      · have hb : hasB (nI q) nb = false := by rw [has_n (by omega) (by omega)]; simp; omega
        refine Or.inl ⟨Or.inl ⟨s5, by rw [s2]; rfl⟩, fun g T K M2 => ?_, fun Z M2 he => ?_⟩
        · rw [cB, s1, s3, hb]
          show sem PGM (d + 2) yB_kindOnShelf (55, [some (.ref 12), some (.int (nI k)), some (.int (nI q))], [.int (bI false)], heapOf g X N T K M2 dd) = _
          rw [eB_kindOnShelf_55]
          rfl
        · rw [cM Z M2 he, s2, s4, hb]
          show sem PGM (d + 2) yM_takes (78, [some (.ref 91), some (.int (nI k)), some (.int (nI q))], [.int (bI false)], hM Z (tkM M2 k)) = _
          rw [eM_takes_78]
          rfl
  · refine Or.inl ⟨Or.inr ⟨j, tt, n, f, s3, by rw [s2]; rfl, s4, s5, s6⟩, fun g T K M2 => ?_, fun Z M2 he => ?_⟩
    · rw [cB, s1]; rfl
    · rw [cM Z M2 he, s2]; rfl
theorem tkM_B {i : Nat} {X : XS} {N K : SS} {M M' : MS} {dd : AH} (h : INV i X N K M dd) (m1 : M'.1 = M.1) (m2 : ∀ k, k ≠ 15 → k ≠ 16 → k ≠ 17 → M'.2 k = M.2 k) : INV (i + 1) X N K M' dd := by
  have hB := h.2.2.2.2.2.2.1
  refine INV_B h (fun _ _ => rfl) (fun _ _ => rfl) rfl (fun k _ => by rw [m1]) (fun k hk => m2 k (by omega) (by omega) (by omega)) ?_
  unfold iB
  rw [m1, m2 18 (by omega) (by omega) (by omega)]
  exact hB
theorem tkM_k (M : MS) (k : Nat) : ∀ j, j ≠ 15 → j ≠ 16 → j ≠ 17 → (tkM M k).2 j = M.2 j := by
  intro j h1 h2 _
  unfold tkM
  rw [mV_n h2, mV_n h1]
theorem tk2_k (M : MS) (k : Nat) (v w : Int32) : ∀ j, j ≠ 15 → j ≠ 16 → j ≠ 17 → (mV (mV (tkM M k) 15 v) 17 w).2 j = M.2 j := by
  intro j h1 h2 h3
  rw [mV_n h3, mV_n h1, tkM_k M k j h1 h2 h3]
theorem op_act (d i : Nat) (g : GT) (X : XS) (N T K : SS) (M : MS) (dd : AH) (h : INV i X N K M dd) (a b c : Int32) : OPR d i g X N T K M dd yB_act yM_act [.int a, .int b, .int c] := by
  have h' := h
  obtain ⟨⟨⟨nc, np, nb, n, C, R, W, L, D⟩, wo5⟩, hK, hT, hRw, hH, hE, hB, hM', hD⟩ := h'
  -- the count is set to nothing
  have h0 : ∀ M' : MS, M'.1 = M.1 → (∀ k, k ≠ 15 → k ≠ 16 → k ≠ 17 → M'.2 k = (mV M 18 0).2 k) → INV (i + 1) (xV X 8 0) N K M' dd := by
    intro M' m1 m2
    refine INV_B h (fun _ _ => rfl) (fun k hk => xV_n (by omega)) rfl (fun k _ => by rw [m1]) (fun k hk => by rw [m2 k (by omega) (by omega) (by omega), mV_n (by omega)]) ⟨0, by omega, xV_s _ _ _, by rw [m2 18 (by omega) (by omega) (by omega)]; exact mV_s _ _ _, fun j hj => by omega⟩
  have cB : call PGM (d + 40) yB_act [.ref 12, .int a, .int b, .int c] (heapOf g X N T K M dd) = sem PGM (d + 39) yB_act (12, [some (.ref 12), some (.int a), some (.int b), some (.int c), none, none, none], [.int (bI (hasB a 4))], heapOf g (xV X 8 0) N T K M dd) := by
    rw [kB_act, eB_act_0, isB_Holder (d + 38), aft1]
  have cM : ∀ Z : ZT, call PGM (d + 40) yM_act [.ref 91, .int a, .int b, .int c] (hM Z M) = bif hasB a 4 then sem PGM (d + 39) yM_act (21, [some (.ref 91), some (.int a), some (.int b), some (.int c), none], [.int (bI (rng b 0 3))], hM Z (mV M 18 0)) else some (some (.int 0), hM Z (mV M 18 0)) := by
    intro Z
    rw [kM_act, eM_act_0, cM_isOne (d + 37), aft1, eM_act_9, bI_0, w0, w3, cM_rng (d + 38), aft1]
    cases hasB a 4 <;> rfl
  have fin0 : ∀ M' : MS, M'.1 = M.1 → (∀ k, k ≠ 15 → k ≠ 16 → k ≠ 17 → M'.2 k = (mV M 18 0).2 k) → sem PGM (d + 39) yB_act (12, [some (.ref 12), some (.int a), some (.int b), some (.int c), none, none, none], [.int (bI (hasB a 4))], heapOf g (xV X 8 0) N T K M dd) = some (some (.int 0), heapOf g (xV X 8 0) N T K M dd) → (∀ Z : ZT, call PGM (d + 40) yM_act [.ref 91, .int a, .int b, .int c] (hM Z M) = some (some (.int 0), hM Z M')) → OPR d i g X N T K M dd yB_act yM_act [.int a, .int b, .int c] := by
    intro M' m1 m2 q1 q2
    exact ⟨0, xV X 8 0, N, T, K, M', dd, cB.trans q1, by rw [hM_eq, hM_eq]; exact q2 _, h0 M' m1 m2⟩
  cases ha : hasB a 4 with
  | false =>
    refine fin0 (mV M 18 0) rfl (fun _ _ _ _ => rfl) ?_ (fun Z => ?_)
    · rw [ha, eB_act_12]; rfl
    · rw [cM, ha]; rfl
  | true =>
    obtain ⟨k, hk, rfl⟩ := has_t (by omega) ha
    rcases rng3 b (lo := 0) (hi := 3) (by omega) (by omega) with ⟨w, _, hw, rfl⟩ | ⟨hr, hc⟩ | ⟨hr, hc1, hc2, hc3⟩
    · have rt : rng (nI w) 0 3 = true := by rw [rng_n (by omega) (by omega) (by omega)]; simp; omega
      have v1 : decide (nI w < 0) = false := by rw [l0, dlt (by omega) (by omega)]; simp
      have v2 : decide (nI w ≤ 3) = true := by rw [show (3 : Int32) = nI 3 from rfl, dle (by omega) (by omega)]; simp; omega
      have ik : inb (nI k) 4 = true := by rw [inb_nI (by omega)]; simp [hk]
      have nk : (nI k).toNatClampNeg = k := nclamp (by omega)
      have hE1 : iE1 (xV X 8 0) M dd k := hE k hk
      rcases lies (d + 36) (X := xV X 8 0) R W hk hE1 with ⟨_, kb, km⟩ | ⟨kd, q, wh, av, k1, k8, kq, ea, s5, s12, s15, s13, kb, km⟩
      · refine fin0 (tkM (mV M 18 0) k) rfl (tkM_k _ _) ?_ (fun Z => ?_)
        · rw [ha, eB_act_12, v1, v2]
          show aftK _ 1 _ (call PGM (d + 36 + 3) yB_kindOnShelf _ _) = _
          rw [kb, aft1, eB_act_31]
          rfl
        · rw [cM, ha, cond_true, rt, eM_act_21]
          show aftK _ 0 _ (call PGM (d + 36 + 3) yM_takes _ _) = _
          rw [km Z (mV M 18 0) rfl, aft0, eM_act_31]
          have e15 : (tkM (mV M 18 0) k).2 15 = -1 := by unfold tkM; rw [mV_n (by omega), mV_s]
          rw [e15]
          rfl
      · have kk : decide ((0 : Int32) ≤ nI kd) = true := by rw [l0, dle (by omega) (by omega)]; simp
        let M2 := mV (mV (tkM (mV M 18 0) k) 15 (nI kd)) 17 av
        have e15 : M2.2 15 = nI kd := by show (mV _ 17 av).2 15 = _; rw [mV_n (by omega), mV_s]
        have b2 : mk' (mV M2 19 0) kd (nI q) av 0 := by
          refine ⟨by rw [mV_n (by omega)]; exact e15, ?_, ?_, mV_s _ _ _, ?_⟩
          · rw [mV_n (by omega)]
            show (mV (mV (tkM (mV M 18 0) k) 15 (nI kd)) 17 av).2 16 = _
            rw [mV_n (by omega), mV_n (by omega)]
            show (mV _ 16 (M.1 13 k)).2 16 = _
            rw [mV_s, s13]
          · rw [mV_n (by omega)]; exact mV_s _ _ _
          · rw [mV_n (by omega)]
            show (mV (mV (tkM (mV M 18 0) k) 15 (nI kd)) 17 av).2 18 = _
            rw [tk2_k _ _ _ _ 18 (by omega) (by omega) (by omega), mV_s]
            rfl
        have le := actT_le (w := w) (kd := kd) ⟨k1, k8⟩
        have b1 := ans_bk (xV X 8 0) kd (nI q) av
        obtain ⟨tb1, tb2, tb3⟩ := t_both (actT w kd) (ansX (xV X 8 0) kd (nI q) av) (mV M2 19 0) 0 b1.2.2.2.2 b2.2.2.2.2 (by omega) (fun j hj => by omega)
        let X' := pX (tX (ansX (xV X 8 0) kd (nI q) av) (actT w kd)) (actP w kd (nI q) av)
        obtain ⟨xf1, xf2, xf3⟩ := tX_f (actT w kd) (ansX (xV X 8 0) kd (nI q) av)
        obtain ⟨mf1, mf2⟩ := tM_f (actT w kd) (mV M2 19 0)
        obtain ⟨M', am, am1, am2⟩ := cM_actEnd (d + 30) (g, X', N, T, K, dd) b2 ⟨k1, k8⟩ w hw c (some (.int (nI k))) none
        have px1 : X'.1 = (tX (ansX (xV X 8 0) kd (nI q) av) (actT w kd)).1 := by
          show (pX _ _).1 = _
          unfold pX
          cases actP w kd (nI q) av <;> rfl
        have px2 : ∀ j, j ≠ 12 → X'.2.1 j = (tX (ansX (xV X 8 0) kd (nI q) av) (actT w kd)).2.1 j := by
          intro j hj
          show (pX _ _).2.1 j = _
          unfold pX
          cases actP w kd (nI q) av with
          | true => exact xV_n hj
          | false => rfl
        have px3 : X'.2.2 = (tX (ansX (xV X 8 0) kd (nI q) av) (actT w kd)).2.2 := by
          show (pX _ _).2.2 = _
          unfold pX
          cases actP w kd (nI q) av <;> rfl
        have ax : ∀ j, (j < 8 ∨ 12 < j) → (ansX (xV X 8 0) kd (nI q) av).2.1 j = X.2.1 j := by
          intro j hj
          unfold ansX
          rw [xV_n (by omega), xV_n (by omega), xV_n (by omega), xV_n (by omega), xV_n (by omega), xV_n (by omega)]
        refine ⟨bif actP w kd (nI q) av then -15 else actV w kd (nI q) av c, X', N, T, K, M', dd, ?_, ?_, ?_⟩
        · have ans := cD_answer (d + 29) (g, N, T, K, M, dd) (xV X 8 0) kd (nI q) av ⟨k1, k8⟩ w hw c
          rw [cB, ha, eB_act_12, v1, v2]
          show aftK _ 1 _ (call PGM (d + 36 + 3) yB_kindOnShelf _ _) = _
          rw [kb, aft1, eB_act_31, kk, ik, nk, s15, show (nI q).toNatClampNeg = q from nclamp (by omega)]
          rcases kq with ⟨q1, q2, q3⟩ | ⟨q1, q2, q3⟩
          · subst q1 q2
            have i6 : inb (nI q) 6 = true := by rw [inb_nI (by omega)]; simp; omega
            rw [i6, ea]
            show aftK _ 1 _ (call PGM (d + 29 + 10) yD_answer _ (hR (g, N, T, K, M, dd) (xV X 8 0))) = _
            rw [show (Value.int (nI 8)) = Value.int (nI 8) from rfl, ans, aft1]
            exact eB_act_95 _ _ _ _ _ _ _ _ _ _ _ _ _ _ _ _
          · subst q2
            have i20 : inb (nI q) 20 = true := by rw [inb_nI (by omega)]; simp; omega
            have n8 : decide (nI kd = 8) = false := by rw [show (8 : Int32) = nI 8 from rfl, deq (by omega) (by omega)]; simp; omega
            rw [n8, i20, ea]
            show aftK _ 1 _ (call PGM (d + 29 + 10) yD_answer _ (hR (g, N, T, K, M, dd) (xV X 8 0))) = _
            rw [ans, aft1]
            exact eB_act_95 _ _ _ _ _ _ _ _ _ _ _ _ _ _ _ _
        · rw [hM_eq, cM, ha, cond_true, rt, eM_act_21]
          show aftK _ 0 _ (call PGM (d + 36 + 3) yM_takes _ _) = _
          rw [km _ (mV M 18 0) rfl, aft0, eM_act_31]
          show (bif decide ((0 : Int32) ≤ M2.2 15) then sem PGM (d + 39) yM_act (45, _, [], hM _ (mV M2 19 0)) else _) = _
          rw [e15, kk, cond_true]
          exact am
        · refine INV_B h (fun j hj => by rw [px1, xf1 j hj]; rfl) (fun j hj => by rw [px2 j (by omega), xf2 j (by omega), ax j hj]) (by rw [px3, xf3]; rfl) (fun j hj => by rw [am1, mf1 j hj]; rfl) (fun j hj => ?_) ?_
          · rw [am2 j (by omega), mf2 j (by omega), mV_n (by omega)]
            show (mV (mV (tkM (mV M 18 0) k) 15 (nI kd)) 17 av).2 j = _
            rw [tk2_k _ _ _ _ j (by omega) (by omega) (by omega), mV_n (by omega)]
          · refine ⟨0 + (actT w kd).length, by omega, by rw [px2 8 (by omega)]; exact tb1, by rw [am2 18 (by omega)]; exact tb2, fun j hj => by rw [px1, am1]; exact tb3 j hj⟩
    · refine fin0 (mV M 18 0) rfl (fun _ _ _ _ => rfl) ?_ (fun Z => ?_)
      · rw [ha, eB_act_12]
        simp (disch := omega) only [l0, l1, l2, l3, l4, l5, l6, l7, l8, l9, l10, l11, l12, l13, l14, l15, l16, l17, l18, l19, l20, l21, l22, l23, l24, l25, l26, l27, l28, l29, l30, l31, l40, l48, l52, l57, l60, l65, l97, l99, l100, l102, l119, l122, l179, l197, l200, l201, l237, l436, l437, pk_mul, nI_add, inb_nI, nclamp, dlt, dle, deq, bif_t, bif_f, bif_nt, bif_nf, aft0, aft1, decide_true, decide_false, Bool.not_true, Bool.not_false, cond_true, cond_false, Nat.add_sub_cancel, Nat.add_one_sub_one, ou9, mo1, nI_MO, OU_lt, OU_ge, Nat.not_lt_zero, Bool.or_false, Bool.or_true, Bool.true_or, Bool.false_or, Bool.and_true, Bool.and_false, Bool.true_and, Bool.false_and, bI_0n, bI_1n, Bool.not_not, hc]
      · rw [cM, ha, hr, cond_true, eM_act_21]; rfl
    · refine fin0 (mV M 18 0) rfl (fun _ _ _ _ => rfl) ?_ (fun Z => ?_)
      · rw [ha, eB_act_12]
        simp (disch := omega) only [l0, l1, l2, l3, l4, l5, l6, l7, l8, l9, l10, l11, l12, l13, l14, l15, l16, l17, l18, l19, l20, l21, l22, l23, l24, l25, l26, l27, l28, l29, l30, l31, l40, l48, l52, l57, l60, l65, l97, l99, l100, l102, l119, l122, l179, l197, l200, l201, l237, l436, l437, pk_mul, nI_add, inb_nI, nclamp, dlt, dle, deq, bif_t, bif_f, bif_nt, bif_nf, aft0, aft1, decide_true, decide_false, Bool.not_true, Bool.not_false, cond_true, cond_false, Nat.add_sub_cancel, Nat.add_one_sub_one, ou9, mo1, nI_MO, OU_lt, OU_ge, Nat.not_lt_zero, Bool.or_false, Bool.or_true, Bool.true_or, Bool.false_or, Bool.and_true, Bool.and_false, Bool.true_and, Bool.false_and, bI_0n, bI_1n, Bool.not_not, hc1, hc3]
      · rw [cM, ha, hr, cond_true, eM_act_21]; rfl
theorem op_taken (d i : Nat) (g : GT) (X : XS) (N T K : SS) (M : MS) (dd : AH) (h : INV i X N K M dd) (a b : Int32) : OPR d i g X N T K M dd yB_taken yM_taken [.int a, .int b] := by
  have h' := h
  obtain ⟨⟨⟨nc, np, nb, n, C, R, W, L, D⟩, wo5⟩, hK, hT, hRw, hH, hE, hB, hM', hD⟩ := h'
  have cB : call PGM (d + 40) yB_taken [.ref 12, .int a, .int b] (heapOf g X N T K M dd) = sem PGM (d + 39) yB_taken (39, [some (.ref 12), some (.int a), some (.int b), some (.int (bI (rng b 0 8))), some (.int (bI (rng b 10 14))), none, none], [.int (bI (hasB a 4))], heapOf g X N T K M dd) := by
    rw [kB_taken, eB_taken_0, isB_Holder (d + 38), rng, rng, le_not_lt, le_not_lt, le_not_lt, le_not_lt, aft1, aft1, aft1, aft1]
    show (bif decide (b < nI 0) then bif decide (b < nI 10) then _ else bif decide (nI 14 < b) then _ else _ else bif decide (nI 8 < b) then bif decide (b < nI 10) then _ else bif decide (nI 14 < b) then _ else _ else bif decide (b < nI 10) then _ else bif decide (nI 14 < b) then _ else _) = _
    cases decide (b < nI 0) <;> cases decide (nI 8 < b) <;> cases decide (b < nI 10) <;> cases decide (nI 14 < b) <;> rfl
  have cM : ∀ Z : ZT, call PGM (d + 40) yM_taken [.ref 91, .int a, .int b] (hM Z M) = bif hasB a 4 then bif rng b 0 8 || rng b 10 14 then aftK (sem PGM (d + 39) yM_taken) 0 (40, [some (.ref 91), some (.int a), some (.int b), none], [], hM Z M) (call PGM (d + 39) yM_takes [.ref 91, .int a] (hM Z M)) else some (some (.int (-1)), hM Z M) else some (some (.int (-1)), hM Z M) := by
    intro Z
    rw [kM_taken, eM_taken_0, cM_isOne (d + 37), aft1, eM_taken_4, bI_0, show (8 : Int64) = (nI 8).toInt64 from rfl, show (0 : Int64) = (nI 0).toInt64 from rfl, cM_rng (d + 38), aft1, eM_taken_16, bI_0, show (10 : Int64) = (nI 10).toInt64 from rfl, show (14 : Int64) = (nI 14).toInt64 from rfl, cM_rng (d + 38), aft1, eM_taken_30, bI_0]
    cases hasB a 4 <;> cases rng b 0 8 <;> cases rng b 10 14 <;> rfl
  cases ha : hasB a 4 with
  | false =>
    refine op_ro (-1) h ?_ ?_
    · rw [cB, ha, eB_taken_39]; rfl
    · rw [hM_eq, cM, ha]; rfl
  | true =>
    obtain ⟨k, hk, rfl⟩ := has_t (by omega) ha
    have ik : inb (nI k) 4 = true := by rw [inb_nI (by omega)]; simp [hk]
    have nk : (nI k).toNatClampNeg = k := nclamp (by omega)
    cases hr : rng b 0 8 || rng b 10 14 with
    | false =>
      have r1 : rng b 0 8 = false := by revert hr; cases rng b 0 8 <;> simp
      have r2 : rng b 10 14 = false := by revert hr; cases rng b 10 14 <;> simp
      refine op_ro (-1) h ?_ ?_
      · rw [cB, ha, r1, r2, eB_taken_39]; rfl
      · rw [hM_eq, cM, ha, hr]; rfl
    | true =>
      -- a BODY's kind or a sort, and what that says of b
      have hb : ∃ v, b = nI v ∧ (v ≤ 8 ∨ 10 ≤ v ∧ v ≤ 14) := by
        cases r1 : rng b 0 8 with
        | true => obtain ⟨v, _, hv, e⟩ := rng_t (by omega) (by omega) r1; exact ⟨v, e, Or.inl hv⟩
        | false =>
          rw [r1, Bool.false_or] at hr
          obtain ⟨v, hv1, hv, e⟩ := rng_t (by omega) (by omega) hr
          exact ⟨v, e, Or.inr ⟨hv1, hv⟩⟩
      obtain ⟨v, rfl, hv⟩ := hb
      have r8 : rng (nI v) 0 8 = decide (v ≤ 8) := by rw [rng_n (by omega) (by omega) (by omega)]; simp
      have v10 : decide (nI v < 10) = decide (v ≤ 8) := by
        rw [show (10 : Int32) = nI 10 from rfl, dlt (by omega) (by omega), decide_eq_decide]
        omega
      have cB2 : X.2.2 1 k = none → call PGM (d + 40) yB_taken [.ref 12, .int (nI k), .int (nI v)] (heapOf g X N T K M dd) = aftK (sem PGM (d + 39) yB_taken) 1 (95, [some (.ref 12), some (.int (nI k)), some (.int (nI v)), some (.int (bI (rng (nI v) 0 8))), some (.int (bI (rng (nI v) 10 14))), some (.null), none], [], heapOf g X N T K M dd) (call PGM (d + 39) yB_kindOnShelf [.ref 12, .int (nI k)] (heapOf g X N T K M dd)) := by
        intro s
        rw [cB, ha, eB_taken_39, ik, nk, s]
        revert hr
        cases rng (nI v) 0 8 <;> cases rng (nI v) 10 14 <;> intro hr <;> first | rfl | cases hr
      rcases lies (d + 36) R W hk (hE k hk) with ⟨hs, kb, km⟩ | ⟨kd, q, wh, av, k1, k8, kq, ea, s5, s12, s15, s13, kb, km⟩
      · have m15 : (tkM M k).2 15 = -1 := by unfold tkM; rw [mV_n (by omega), mV_s]
        have tm : ∀ Z : ZT, call PGM (d + 40) yM_taken [.ref 91, .int (nI k), .int (nI v)] (hM Z M) = sem PGM (d + 39) yM_taken (40, [some (.ref 91), some (.int (nI k)), some (.int (nI v)), none], [], hM Z (tkM M k)) := by
          intro Z
          rw [cM, ha, hr, cond_true, cond_true]
          show aftK _ 0 _ (call PGM (d + 36 + 3) yM_takes _ _) = _
          rw [km Z M rfl, aft0]
        have hN := tkM_B h (M' := tkM M k) rfl (tkM_k M k)
        rcases hs with ⟨s1, s2⟩ | ⟨j, t, nn, f, s1, s2, s3, s4, s5⟩
        · refine ⟨-11, X, N, T, K, tkM M k, dd, ?_, ?_, hN⟩
          · rw [cB2 s1]
            show aftK _ 1 _ (call PGM (d + 36 + 3) yB_kindOnShelf _ _) = _
            rw [kb, aft1, eB_taken_95]
            rfl
          · rw [hM_eq, hM_eq, tm, eM_taken_40, ik, nk, m15]
            show (bif true then bif !decide (M.1 12 k = 2) then _ else _ else _) = _
            rw [s2]
            rfl
        · have ht := s3.1
          have hn := s3.2.1
          have b9 : Nat.beq (j + 108) 9 = false := by
            cases e : Nat.beq (j + 108) 9 with
            | false => rfl
            | true => have := Nat.eq_of_beq_eq_true e; omega
          have b12 : Nat.ble 12 (j + 108) = true := Nat.ble_eq_true_of_le (by omega)
          have v13 : (nI v - 10 : Int32) = nI v - nI 10 := rfl
          have cmp : decide (nI t = nI v - 10) = decide (10 ≤ v ∧ t = v - 10) := by
            rw [decide_eq_decide]
            constructor
            · intro e
              have e' := congrArg Int32.toInt e
              rw [v13, Int32.toInt_sub, nI_toInt (by omega), nI_toInt (by omega), nI_toInt (by omega)] at e'
              rw [Int.bmod_eq_of_le (by omega) (by omega)] at e'
              omega
            · intro e
              rw [v13, e.2]
              apply Int32.toInt_inj.mp
              rw [Int32.toInt_sub, nI_toInt (by omega), nI_toInt (by omega), nI_toInt (by omega), Int.bmod_eq_of_le (by omega) (by omega)]
              omega
          obtain ⟨z1, z2, z3, z4, z5, z6, z7, z8, z9⟩ := sh_ok (g := g) (X := X) (N := N) (T := T) (K := K) (M := M) s3
          refine ⟨bif decide (10 ≤ v ∧ t = v - 10) then nI nn else -13, X, N, T, K, tkM M k, dd, ?_, ?_, hN⟩
          · have row : (bif inb (nI k) 4 && (X.2.2 1 (nI k).toNatClampNeg).isNone then aftK (sem PGM (d + 39) yB_taken) 1 (95, [some (.ref 12), some (.int (nI k)), some (.int (nI v)), some (.int (bI (rng (nI v) 0 8))), some (.int (bI (rng (nI v) 10 14))), some (.null), none], [], heapOf g X N T K M dd) (call PGM (d + 39) yB_kindOnShelf [.ref 12, .int (nI k)] (heapOf g X N T K M dd)) else bif inb (nI k) 4 && (X.2.2 1 (nI k).toNatClampNeg).isSome && Nat.ble 12 ((X.2.2 1 (nI k).toNatClampNeg).getD 0) then bif !(Nat.beq ((X.2.2 1 (nI k).toNatClampNeg).getD 0) 9) then bif okI (heapOf g X N T K M dd) ((X.2.2 1 (nI k).toNatClampNeg).getD 0) 4 0 then bif !decide (gI (heapOf g X N T K M dd) ((X.2.2 1 (nI k).toNatClampNeg).getD 0) 0 = nI v - 10) then some (some (.int (-13)), heapOf g X N T K M dd) else bif okN (heapOf g X N T K M dd) ((X.2.2 1 (nI k).toNatClampNeg).getD 0) 4 1 then none else bif okR (heapOf g X N T K M dd) ((X.2.2 1 (nI k).toNatClampNeg).getD 0) 4 1 then bif okL (heapOf g X N T K M dd) (gR (heapOf g X N T K M dd) ((X.2.2 1 (nI k).toNatClampNeg).getD 0) 1) then some (some (.int (nI (lenA (heapOf g X N T K M dd) (gR (heapOf g X N T K M dd) ((X.2.2 1 (nI k).toNatClampNeg).getD 0) 1)))), heapOf g X N T K M dd) else none else none else none else none else none) = some (some (.int (bif decide (10 ≤ v ∧ t = v - 10) then nI nn else -13)), heapOf g X N T K M dd) := by
              have o1' : (some (j + 108)).isNone = false := rfl
              have o2' : (some (j + 108)).isSome = true := rfl
              have o3' : (some (j + 108)).getD 0 = j + 108 := rfl
              rw [ik, nk, s1, o1', o2', o3', b12, b9, z2, z3, cmp]
              cases decide (10 ≤ v ∧ t = v - 10) with
              | false => rfl
              | true =>
                rw [z4, z5, z6, z7, z8]
                rfl
            rw [cB, ha, eB_taken_39]
            revert hr row
            cases rng (nI v) 0 8 <;> cases rng (nI v) 10 14 <;> intro hr row <;> first | exact row | cases hr
          · rw [hM_eq, hM_eq, tm, eM_taken_40, ik, nk, v10]
            show (bif true then bif !decide (M.1 12 k = 2) then _ else bif decide (v ≤ 8) then _ else bif true then bif !decide (M.1 13 k = nI v - 10) then _ else bif true then some (some (Value.int (M.1 14 k)), _) else none else none else none) = _
            rw [s2, s4, s5, cmp]
            by_cases e8 : v ≤ 8
            · have x1 : decide (v ≤ 8) = true := by simp [e8]
              have x2 : decide (10 ≤ v ∧ t = v - 10) = false := by simp; omega
              rw [x1, x2]
              rfl
            · have x1 : decide (v ≤ 8) = false := by simp; omega
              rw [x1]
              cases decide (10 ≤ v ∧ t = v - 10) <;> rfl
      · have kk : decide ((0 : Int32) ≤ nI kd) = true := by rw [l0, dle (by omega) (by omega)]; simp
        have e15 : (mV (mV (tkM M k) 15 (nI kd)) 17 av).2 15 = nI kd := by rw [mV_n (by omega), mV_s]
        have e16 : (mV (mV (tkM M k) 15 (nI kd)) 17 av).2 16 = nI q := by
          rw [mV_n (by omega), mV_n (by omega)]
          unfold tkM
          rw [mV_s, s13]
        refine ⟨bif decide (v ≤ 8) then (bif under (nI kd) (nI v) then nI q else -13) else -13, X, N, T, K, mV (mV (tkM M k) 15 (nI kd)) 17 av, dd, ?_, ?_, tkM_B h rfl (tk2_k M k _ _)⟩
        · rw [cB2 s5]
          show aftK _ 1 _ (call PGM (d + 36 + 3) yB_kindOnShelf _ _) = _
          rw [kb, aft1, eB_taken_95, kk, r8]
          by_cases e8 : v ≤ 8
          · have x1 : decide (v ≤ 8) = true := by simp [e8]
            rw [x1, cB_isA (d + 38) (heapOf_1 g X N T K M dd) (by omega) (by omega), aft1, eB_taken_115, ik, nk, s15]
            cases under (nI kd) (nI v) <;> rfl
          · have x1 : decide (v ≤ 8) = false := by simp; omega
            rw [x1]
            rfl
        · rw [hM_eq, hM_eq, cM, ha, hr, cond_true, cond_true]
          show aftK _ 0 _ (call PGM (d + 36 + 3) yM_takes _ _) = _
          rw [km _ M rfl, aft0, eM_taken_40, ik, nk, v10, e15, kk]
          show (bif true then bif !decide (M.1 12 k = 2) then bif true then bif decide (v ≤ 8) then _ else _ else _ else _ else _) = _
          rw [s12]
          by_cases e8 : v ≤ 8
          · have x1 : decide (v ≤ 8) = true := by simp [e8]
            rw [x1, cM_isUnder (d + 38), aft1, eM_taken_117, e16]
            show (bif decide (bI (under (nI kd) (nI v)) = 0) then _ else _) = _
            cases under (nI kd) (nI v) <;> rfl
          · have x1 : decide (v ≤ 8) = false := by simp; omega
            rw [x1]
            rfl
