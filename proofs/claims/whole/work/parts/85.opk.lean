/-! Calls of both: sheet, put, item. -/
theorem MO_int : MO.toInt = -1 := by decide
theorem srt3 (x : Int32) : x = MO ∨ (∃ t, t ≤ 4 ∧ x = nI t) ∨ ((decide (MO ≤ x) && decide (x ≤ nI 4)) = false ∧ decide (x < MO) = true) ∨ ((decide (MO ≤ x) && decide (x ≤ nI 4)) = false ∧ decide (x < MO) = false ∧ decide (x ≤ nI 4) = false) := by
  rcases rng3 x (lo := 0) (hi := 4) (by omega) (by omega) with ⟨t, _, h4, e⟩ | ⟨_, hc⟩ | ⟨_, hc1, hc2, hc3⟩
  · exact Or.inr (Or.inl ⟨t, h4, e⟩)
  · have hlt := of_decide_eq_true hc
    rw [Int32.lt_iff_toInt_lt, nI_toInt (by omega)] at hlt
    by_cases e : x = MO
    · exact Or.inl e
    · right; right; left
      have hne : x.toInt ≠ -1 := fun h => e (Int32.toInt_inj.mp (h.trans MO_int.symm))
      have l1 : x < MO := by rw [Int32.lt_iff_toInt_lt, MO_int]; omega
      have l2 : ¬ MO ≤ x := by rw [Int32.le_iff_toInt_le, MO_int]; rw [Int32.lt_iff_toInt_lt, MO_int] at l1; omega
      simp [l1, l2]
  · right; right; right
    have h1 : ¬ x < nI 0 := of_decide_eq_false hc1
    have l1 : ¬ x < MO := by
      rw [Int32.lt_iff_toInt_lt, nI_toInt (by omega)] at h1
      rw [Int32.lt_iff_toInt_lt, MO_int]
      omega
    rw [hc3]
    simp [l1]
theorem iH_set {X : XS} {M : MS} {dd : AH} (k : Nat) (o : Option Nat) (s z : Int32) (it : Nat → Int32) (dd' : AH) (hk : k < 4) (h : iH X M dd) (hdd : ∀ j t n f, shA dd j t n f → shA dd' j t n f) (hit : ∀ l j, l < 4 → l ≠ k → j < 40 → it (40 * l + j) = M.1 11 (40 * l + j)) (hnew : ∀ l a, l < 4 → l ≠ k → X.2.2 0 l = some a → o ≠ some a) (ho : (o = none ∧ s = MO) ∨ ∃ j t n f, o = some (j + 108) ∧ shA dd' j t n f ∧ s = nI t ∧ z = nI n ∧ ∀ i, i < n → f i = it (40 * k + i)) : iH (xO X 0 (va_up (X.2.2 0) k o)) (mA (mA (mA M 9 (upd (M.1 9) k s)) 10 (upd (M.1 10) k z)) 11 it) dd' := by
  have q9 : (mA (mA (mA M 9 (upd (M.1 9) k s)) 10 (upd (M.1 10) k z)) 11 it).1 9 = upd (M.1 9) k s := by rw [mA_n (by omega), mA_n (by omega), mA_s]
  have q10 : (mA (mA (mA M 9 (upd (M.1 9) k s)) 10 (upd (M.1 10) k z)) 11 it).1 10 = upd (M.1 10) k z := by rw [mA_n (by omega), mA_s]
  have q11 : (mA (mA (mA M 9 (upd (M.1 9) k s)) 10 (upd (M.1 10) k z)) 11 it).1 11 = it := mA_s _ _ _
  constructor
  · intro l hl
    unfold iH1
    rw [q9, q10, q11, xO_s]
    by_cases e : l = k
    · subst e
      rw [vup_eq, upd_eq, upd_eq]
      exact ho
    · rw [vup_ne e, upd_ne e, upd_ne e]
      rcases h.1 l hl with h1 | ⟨j, t, n, f, h1, h2, h3, h4, h5⟩
      · exact Or.inl h1
      · refine Or.inr ⟨j, t, n, f, h1, hdd _ _ _ _ h2, h3, h4, fun i hi => ?_⟩
        rw [h5 i hi, hit l i hl e (by have := h2.2.1; omega)]
  · intro a b x ha hb hxa hxb
    rw [xO_s] at hxa hxb
    by_cases ea : a = k
    · by_cases eb : b = k
      · omega
      · subst ea
        rw [vup_eq] at hxa
        rw [vup_ne eb] at hxb
        exact absurd hxa (hnew b x hb eb hxb)
    · by_cases eb : b = k
      · subst eb
        rw [vup_eq] at hxb
        rw [vup_ne ea] at hxa
        exact absurd hxb (hnew a x ha ea hxa)
      · rw [vup_ne ea] at hxa
        rw [vup_ne eb] at hxb
        exact h.2 a b x ha hb hxa hxb
theorem iE_keep {X X' : XS} {M M' : MS} {dd dd' : AH} (h : iE X M dd) (x1 : X'.1 14 = X.1 14) (x2 : X'.1 15 = X.1 15) (x3 : X'.2.2 1 = X.2.2 1) (m1 : M'.1 12 = M.1 12) (m2 : M'.1 13 = M.1 13) (m3 : M'.1 14 = M.1 14) (hdd : ∀ j t n f, shA dd j t n f → ∃ f', shA dd' j t n f') : iE X' M' dd' := by
  intro k hk
  unfold iE1
  rw [x1, x2, x3, m1, m2, m3]
  rcases h k hk with h1 | h1 | ⟨j, t, n, f, a1, a2, a3, a4, a5, a6⟩
  · exact Or.inl h1
  · exact Or.inr (Or.inl h1)
  · obtain ⟨f', hf⟩ := hdd j t n f a4
    exact Or.inr (Or.inr ⟨j, t, n, f', a1, a2, a3, hf, a5, a6⟩)
def clr (f : Nat → Int32) (k : Nat) (j : Nat) : Nat → Int32 := fun x => if 40 * k ≤ x ∧ x < 40 * k + j then nI 0 else f x
theorem clr_0 (f : Nat → Int32) (k : Nat) : clr f k 0 = f := by funext x; simp [clr]; omega
theorem clr_s (f : Nat → Int32) (k j : Nat) : upd (clr f k j) (40 * k + j) (nI 0) = clr f k (j + 1) := by
  funext x
  by_cases h : x = 40 * k + j
  · subst h
    rw [upd_eq]
    simp [clr]
  · rw [upd_ne h]
    unfold clr
    by_cases h2 : 40 * k ≤ x ∧ x < 40 * k + j
    · rw [if_pos h2, if_pos (by omega)]
    · rw [if_neg h2, if_neg (by omega)]
theorem mS_clear (d : Nat) (Z : ZT) (M : MS) (k : Nat) (hk : k < 4) (u2 : Option Value) (i3 : Int32) : ∀ m j, j + m = 40 → sem PGM d yM_sheet (69, [some (.ref 91), some (.int (nI k)), u2, some (.int i3), some (.int (nI j))], [], hM Z (mA M 11 (clr (M.1 11) k j))) = some (some (.int 1), hM Z (mA M 11 (clr (M.1 11) k 40))) := by
  intro m
  induction m with
  | zero =>
    intro j hj
    have ej : j = 40 := by omega
    subst ej
    rw [eM_sheet_69]
    simp (disch := omega) only [l0, l1, l2, l3, l4, l5, l6, l7, l8, l9, l10, l11, l12, l13, l14, l15, l16, l17, l18, l19, l20, l21, l22, l23, l24, l25, l26, l27, l28, l29, l30, l31, l40, l48, l52, l57, l60, l65, l97, l99, l100, l102, l119, l122, l179, l197, l200, l201, l237, l436, l437, pk_mul, nI_add, inb_nI, nclamp, dlt, dle, deq, bif_t, bif_f, bif_nt, bif_nf, aft0, aft1, decide_true, decide_false, Bool.not_true, Bool.not_false, cond_true, cond_false, Nat.add_sub_cancel, Nat.add_one_sub_one, ou9, mo1, nI_MO, OU_lt, OU_ge, Nat.not_lt_zero, Bool.or_false, Bool.or_true, Bool.true_or, Bool.false_or, Bool.and_true, Bool.and_false, Bool.true_and, Bool.false_and, bI_0n, bI_1n, Bool.not_not]
  | succ m ih =>
    intro j hj
    have ih' := ih (j + 1) (by omega)
    rw [← clr_s] at ih'
    rw [eM_sheet_69]
    simp (disch := omega) only [l0, l1, l2, l3, l4, l5, l6, l7, l8, l9, l10, l11, l12, l13, l14, l15, l16, l17, l18, l19, l20, l21, l22, l23, l24, l25, l26, l27, l28, l29, l30, l31, l40, l48, l52, l57, l60, l65, l97, l99, l100, l102, l119, l122, l179, l197, l200, l201, l237, l436, l437, pk_mul, nI_add, inb_nI, nclamp, dlt, dle, deq, bif_t, bif_f, bif_nt, bif_nf, aft0, aft1, decide_true, decide_false, Bool.not_true, Bool.not_false, cond_true, cond_false, Nat.add_sub_cancel, Nat.add_one_sub_one, ou9, mo1, nI_MO, OU_lt, OU_ge, Nat.not_lt_zero, Bool.or_false, Bool.or_true, Bool.true_or, Bool.false_or, Bool.and_true, Bool.and_false, Bool.true_and, Bool.false_and, bI_0n, bI_1n, Bool.not_not, mA_s, mA_mA]
    rw [eM_sheet_89, nI_1]
    exact ih'
theorem op_sheet (d i : Nat) (g : GT) (X : XS) (N T K : SS) (M : MS) (dd : AH) (h : INV i X N K M dd) (a b c : Int32) : OPR d i g X N T K M dd yB_sheet yM_sheet [.int a, .int b, .int c] := by
  have h' := h
  obtain ⟨_, hK, hT, hR, hH, hE, hB, hM', hD⟩ := h'
  have cB : call PGM (d + 40) yB_sheet [.ref 12, .int a, .int b, .int c] (heapOf g X N T K M dd) = sem PGM (d + 39) yB_sheet (4, [some (.ref 12), some (.int a), some (.int b), some (.int c)], [.int (bI (hasB a 4))], heapOf g X N T K M dd) := by
    rw [kB_sheet, eB_sheet_0, isB_Holder (d + 38), aft1]
  have cM : ∀ Z : ZT, call PGM (d + 40) yM_sheet [.ref 91, .int a, .int b, .int c] (hM Z M) = bif hasB a 4 then sem PGM (d + 39) yM_sheet (18, [some (.ref 91), some (.int a), some (.int b), some (.int c), none], [.int (bI (decide (MO ≤ b) && decide (b ≤ nI 4)))], hM Z M) else some (some (.int MO), hM Z M) := by
    intro Z
    rw [kM_sheet, eM_sheet_0, cM_isOne (d + 37), aft1, eM_sheet_4, bI_0, wm1, w4, cM_inI (d + 38), aft1]
    cases hasB a 4 <;> rfl
  cases ha : hasB a 4 with
  | false =>
    refine op_ro MO h ?_ ?_
    · rw [cB, ha, eB_sheet_4]
      rfl
    · rw [hM_eq, cM, ha]
      rfl
  | true =>
    obtain ⟨k, hk, rfl⟩ := has_t (by omega) ha
    rcases srt3 b with rfl | ⟨t, ht, rfl⟩ | ⟨hr, hc⟩ | ⟨hr, hc1, hc2⟩
    · -- no row
      refine ⟨1, xO X 0 (va_up (X.2.2 0) k none), N, T, K, mA (mA (mA M 9 (upd (M.1 9) k MO)) 10 (upd (M.1 10) k 0)) 11 (clr (M.1 11) k 40), dd, ?_, ?_, ?_⟩
      · have z1 : decide (MO < -1) = false := by decide
        have z2 : decide (MO ≤ 4) = true := by decide
        have z3 : decide (MO = -1) = true := by decide
        have k4 : decide (k < 4) = true := by simp [hk]
        rw [cB, ha, eB_sheet_4, z1, z2, z3, inb_nI (by omega), k4, nclamp (by omega)]
        rfl
      · have z1 : (decide (MO ≤ MO) && decide (MO ≤ nI 4)) = true := by decide
        have z2 : decide (MO < 0) = true := by decide
        have z3 : decide ((0 : Int32) ≤ MO) = false := by decide
        have k4 : decide (k < 4) = true := by simp [hk]
        rw [hM_eq, cM, ha, z1, cond_true, eM_sheet_18, z2, inb_nI (by omega), k4, nclamp (by omega), eM_sheet_51, z3, inb_nI (by omega), k4, nclamp (by omega)]
        simp only [bI_0, Bool.not_true, cond_true, cond_false]
        rw [eM_sheet_66]
        have := mS_clear (d + 39) (g, xO X 0 (va_up (X.2.2 0) k none), N, T, K, dd) (mA (mA M 9 (upd (M.1 9) k MO)) 10 (upd (M.1 10) k 0)) k hk (some (.int MO)) c 40 0 (by omega)
        rw [clr_0, mA_id] at this
        have e11 : (mA (mA M 9 (upd (M.1 9) k MO)) 10 (upd (M.1 10) k 0)).1 11 = M.1 11 := by rw [mA_n (by omega), mA_n (by omega)]
        have e10 : (mA M 9 (upd (M.1 9) k MO)).1 10 = M.1 10 := mA_n (by omega)
        rw [e11] at this
        rw [e10]
        exact this
      · refine INV_H h (fun _ _ _ => rfl) rfl (fun j hj => by rw [mA_n (by omega), mA_n (by omega), mA_n (by omega)]) rfl (fun _ _ _ hl => hl) (iH_set k none MO 0 (clr (M.1 11) k 40) dd hk hH (fun _ _ _ _ hs => hs) (fun l j hl hne hj => ?_) (fun _ _ _ _ _ hh => by cases hh) (Or.inl ⟨rfl, rfl⟩)) (iE_keep hE rfl rfl (xO_n (by omega)) (by rw [mA_n (by omega), mA_n (by omega), mA_n (by omega)]) (by rw [mA_n (by omega), mA_n (by omega), mA_n (by omega)]) (by rw [mA_n (by omega), mA_n (by omega), mA_n (by omega)]) (fun j t n f hs => ⟨f, hs⟩)) (iD_mono hD)
        unfold clr
        rw [if_neg (by omega)]
    · have z1 : (decide (MO ≤ nI t) && decide (nI t ≤ nI 4)) = true := by
        have : MO ≤ nI t := by rw [Int32.le_iff_toInt_le, MO_int, nI_toInt (by omega)]; omega
        rw [dle (by omega) (by omega)]
        simp [this]
        omega
      have z2 : decide (nI t < -1) = false := by
        have : ¬ nI t < MO := by rw [Int32.lt_iff_toInt_lt, MO_int, nI_toInt (by omega)]; omega
        show decide (nI t < MO) = false
        simp [this]
      have z3 : decide (nI t ≤ 4) = true := by rw [show (4 : Int32) = nI 4 from rfl, dle (by omega) (by omega)]; simp; omega
      have z4 : decide (nI t = -1) = false := by
        have : ¬ nI t = MO := by
          intro e
          have := congrArg Int32.toInt e
          rw [MO_int, nI_toInt (by omega)] at this
          omega
        show decide (nI t = MO) = false
        simp [this]
      have z5 : decide (nI t < 0) = false := by rw [l0, dlt (by omega) (by omega)]; simp
      have z6 : decide ((0 : Int32) ≤ nI t) = true := by rw [l0, dle (by omega) (by omega)]; simp
      rcases rng3 c (lo := 0) (hi := 40) (by omega) (by omega) with ⟨n, _, hn, rfl⟩ | ⟨hr, hc⟩ | ⟨hr, hc1, hc2, hc3⟩
      · have y1 : decide (nI n ≤ 40) = true := by rw [show (40 : Int32) = nI 40 from rfl, dle (by omega) (by omega)]; simp; omega
        have y2 : decide ((0 : Int32) ≤ nI n) = true := by rw [l0, dle (by omega) (by omega)]; simp
        have len := heapOf_len g X N T K M dd
        have hA : 12 ≤ (heapOf g X N T K M dd).length := by rw [len]; omega
        have k4 : decide (k < 4) = true := by simp [hk]
        have ap : heapOf g X N T K M dd ++ [.inr (4, [.int (nI t), .ref ((heapOf g X N T K M dd).length + 1)]), .inl (.int, n, .inl (fun _ => 0))] = heapOf g X N T K M (dd ++ [.inr (4, [.int (nI t), .ref (dd.length + 109)]), .inl (.int, n, .inl (fun _ => 0))]) := by
          rw [heapOf_app, len]
        have sh : shA (dd ++ [.inr (4, [.int (nI t), .ref (dd.length + 109)]), .inl (.int, n, .inl (fun _ => 0))]) dd.length t n (fun _ => 0) := ⟨ht, hn, hat_len dd _, hat_ge dd _ 1⟩
        refine ⟨1, xO X 0 (va_up (X.2.2 0) k (some (dd.length + 108))), N, T, K, mA (mA (mA M 9 (upd (M.1 9) k (nI t))) 10 (upd (M.1 10) k (nI n))) 11 (clr (M.1 11) k 40), dd ++ [.inr (4, [.int (nI t), .ref (dd.length + 109)]), .inl (.int, n, .inl (fun _ => 0))], ?_, ?_, ?_⟩
        · rw [cB, ha, eB_sheet_4, z2, z3, z4, y1, y2, Nat.ble_eq_true_of_le hA, cH_init (d + 38) _ hA (nI t) hn, aft0, ap, eB_sheet_62, len, (sh_ok sh).1, inb_nI (by omega), k4, nclamp (by omega), Nat.ble_eq_true_of_le (show 12 ≤ dd.length + 108 by omega)]
          rfl
        · rw [hM_eq, cM, ha, z1, cond_true, eM_sheet_18, z5, y1, y2, inb_nI (by omega), k4, nclamp (by omega), eM_sheet_51, z6, inb_nI (by omega), k4, nclamp (by omega), eM_sheet_66]
          have := mS_clear (d + 39) (g, xO X 0 (va_up (X.2.2 0) k (some (dd.length + 108))), N, T, K, dd ++ [.inr (4, [.int (nI t), .ref (dd.length + 109)]), .inl (.int, n, .inl (fun _ => 0))]) (mA (mA M 9 (upd (M.1 9) k (nI t))) 10 (upd (M.1 10) k (nI n))) k hk (some (.int (nI t))) (nI n) 40 0 (by omega)
          rw [clr_0, mA_id] at this
          have e11 : (mA (mA M 9 (upd (M.1 9) k (nI t))) 10 (upd (M.1 10) k (nI n))).1 11 = M.1 11 := by rw [mA_n (by omega), mA_n (by omega)]
          have e10 : (mA M 9 (upd (M.1 9) k (nI t))).1 10 = M.1 10 := mA_n (by omega)
          rw [e11] at this
          rw [e10]
          exact this
        · refine INV_H h (fun _ _ _ => rfl) rfl (fun j hj => by rw [mA_n (by omega), mA_n (by omega), mA_n (by omega)]) rfl (fun _ _ _ hl => lawD_app hl) (iH_set k (some (dd.length + 108)) (nI t) (nI n) (clr (M.1 11) k 40) _ hk hH (fun _ _ _ _ hs => shA_app hs) (fun l j hl hne hj => ?_) (fun l x hl hne hx hh => ?_) (Or.inr ⟨dd.length, t, n, fun _ => 0, rfl, sh, rfl, rfl, fun j hj => ?_⟩)) (iE_keep hE rfl rfl (xO_n (by omega)) (by rw [mA_n (by omega), mA_n (by omega), mA_n (by omega)]) (by rw [mA_n (by omega), mA_n (by omega), mA_n (by omega)]) (by rw [mA_n (by omega), mA_n (by omega), mA_n (by omega)]) (fun j t n f hs => ⟨f, shA_app hs⟩)) ?_
          · unfold clr
            rw [if_neg (by omega)]
          · cases hh
            rcases hH.1 l hl with ⟨e, _⟩ | ⟨j, t', n', f', e, hs, _⟩
            · rw [hx] at e
              cases e
            · rw [hx] at e
              have e' : dd.length + 108 = j + 108 := Option.some.inj e
              have := hat_lt hs.2.2.1
              omega
          · unfold clr
            rw [if_pos (by omega)]
            rfl
          · obtain ⟨d1, d2⟩ := hD
            constructor
            · rw [List.length_append]
              show dd.length + 2 ≤ 5 * (i + 1)
              omega
            · rw [sl_app]
              show sl dd + (2 + (n + 0)) ≤ 300 * (i + 1)
              omega
      · have y1 : decide (c ≤ 40) = true := by
          have hlt := of_decide_eq_true hc
          have : c ≤ nI 40 := by
            rw [Int32.lt_iff_toInt_lt, nI_toInt (by omega)] at hlt
            rw [Int32.le_iff_toInt_le, nI_toInt (by omega)]
            omega
          show decide (c ≤ nI 40) = true
          simp [this]
        have y2 : decide ((0 : Int32) ≤ c) = false := by
          rw [le_not_lt]
          show (!decide (c < nI 0)) = false
          rw [hc]
          rfl
        refine op_ro (-14) h ?_ ?_
        · rw [cB, ha, eB_sheet_4, z2, z3, z4, y1, y2]
          rfl
        · rw [hM_eq, cM, ha, z1, cond_true, eM_sheet_18, z5, y1, y2]
          rfl
      · have y1 : decide (c ≤ 40) = false := hc3
        refine op_ro MO h ?_ ?_
        · rw [cB, ha, eB_sheet_4, z2, z3, z4, y1]
          rfl
        · rw [hM_eq, cM, ha, z1, cond_true, eM_sheet_18, z5, y1]
          rfl
    · refine op_ro MO h ?_ ?_
      · have z : decide (b < -1) = true := hc
        rw [cB, ha, eB_sheet_4, z]
        rfl
      · rw [hM_eq, cM, ha, hr, cond_true, eM_sheet_18]
        rfl
    · refine op_ro MO h ?_ ?_
      · have z : decide (b < -1) = false := hc1
        have z' : decide (b ≤ 4) = false := hc2
        rw [cB, ha, eB_sheet_4, z, z']
        rfl
      · rw [hM_eq, cM, ha, hr, cond_true, eM_sheet_18]
        rfl
/-- the row of a sort in a holder -/
theorem hold2 {X : XS} {M : MS} {dd : AH} {k : Nat} (h : iH1 X M dd k) : (X.2.2 0 k = none ∧ M.1 9 k = MO) ∨ ∃ j t n f, X.2.2 0 k = some (j + 108) ∧ shA dd j t n f ∧ M.1 9 k = nI t ∧ M.1 10 k = nI n ∧ ∀ i, i < n → f i = M.1 11 (40 * k + i) := h
theorem lawD_set {dd : AH} {j t n : Nat} {f f' : Nat → Int32} (h : shA dd j t n f) {l m : Nat} {C : Nat → CL} (hl : lawD dd l m C) : lawD (dd.set (j + 1) (.inl (.int, n, .inl f'))) l m C := by
  rcases hl with hl | ⟨q, fw, fa, fe, fs, nu, e, h0, h1, h2, h3, h4, h5⟩
  · exact Or.inl hl
  · have hj := h.2.2.1
    have ne : ∀ x c, hat dd x = some c → (∀ ci fs, c = .inr (ci, fs) → ci = 1) → x ≠ j := by
      intro x c hx hc e
      subst e
      rw [hj] at hx
      have := hc 4 _ (Option.some.inj hx).symm
      omega
    have n0 : q ≠ j := ne q _ h0 (fun ci fs e => by cases e; rfl)
    have n1 : q + 1 ≠ j := ne _ _ h1 (fun ci fs e => by cases e)
    have n2 : q + 2 ≠ j := ne _ _ h2 (fun ci fs e => by cases e)
    have n3 : q + 3 ≠ j := ne _ _ h3 (fun ci fs e => by cases e)
    have nq : q ≠ j + 1 := by
      intro e
      subst e
      rw [h.2.2.2] at h0
      cases h0
    exact Or.inr ⟨q, fw, fa, fe, fs, nu, e, by rw [hat_set_ne nq]; exact h0, by rw [hat_set_ne (by omega)]; exact h1, by rw [hat_set_ne (by omega)]; exact h2, by rw [hat_set_ne (by omega)]; exact h3, by rw [hat_set_ne (by omega)]; exact h4, h5⟩
theorem shA_set {dd : AH} {j t n j' t' n' : Nat} {f f' g' : Nat → Int32} (h : shA dd j t n f) (h' : shA dd j' t' n' f') (hne : j' ≠ j) : shA (dd.set (j + 1) (.inl (.int, n, .inl g'))) j' t' n' f' := by
  have n1 : j' ≠ j + 1 := by
    intro e
    subst e
    have := h'.2.2.1
    rw [h.2.2.2] at this
    cases this
  exact ⟨h'.1, h'.2.1, by rw [hat_set_ne n1]; exact h'.2.2.1, by rw [hat_set_ne (by omega)]; exact h'.2.2.2⟩
theorem shA_self {dd : AH} {j t n : Nat} {f g' : Nat → Int32} (h : shA dd j t n f) : shA (dd.set (j + 1) (.inl (.int, n, .inl g'))) j t n g' :=
  ⟨h.1, h.2.1, by rw [hat_set_ne (by omega)]; exact h.2.2.1, hat_set_eq h.2.2.2⟩
theorem op_put (d i : Nat) (g : GT) (X : XS) (N T K : SS) (M : MS) (dd : AH) (h : INV i X N K M dd) (a b v : Int32) : OPR d i g X N T K M dd yB_put yM_put [.int a, .int b, .int v] := by
  have h' := h
  obtain ⟨_, hK, hT, hR, hH, hE, hB, hM', hD⟩ := h'
  have cB : call PGM (d + 40) yB_put [.ref 12, .int a, .int b, .int v] (heapOf g X N T K M dd) = sem PGM (d + 39) yB_put (4, [some (.ref 12), some (.int a), some (.int b), some (.int v), none], [.int (bI (hasB a 4))], heapOf g X N T K M dd) := by
    rw [kB_put, eB_put_0, isB_Holder (d + 38), aft1]
  have cM : ∀ Z : ZT, call PGM (d + 40) yM_put [.ref 91, .int a, .int b, .int v] (hM Z M) = sem PGM (d + 39) yM_put (4, [some (.ref 91), some (.int a), some (.int b), some (.int v)], [.int (bI (hasB a 4))], hM Z M) := by
    intro Z
    rw [kM_put, eM_put_0, cM_isOne (d + 37), aft1]
  cases ha : hasB a 4 with
  | false =>
    refine op_ro MO h ?_ ?_
    · rw [cB, ha, eB_put_4]
      rfl
    · rw [hM_eq, cM, ha, eM_put_4]
      rfl
  | true =>
    obtain ⟨k, hk, rfl⟩ := has_t (by omega) ha
    have k4 : decide (k < 4) = true := by simp [hk]
    rcases hold2 (hH.1 k hk) with ⟨e1, e2⟩ | ⟨j, t, n, f, e1, hs, e2, e3, e4⟩
    · refine op_ro (-11) h ?_ ?_
      · rw [cB, ha, eB_put_4, inb_nI (by omega), k4, nclamp (by omega), e1]
        rfl
      · rw [hM_eq, cM, ha, eM_put_4, inb_nI (by omega), k4, nclamp (by omega), e2]
        rfl
    · obtain ⟨s1, s2, s3, s4, s5, s6, s7, s8, s9⟩ := sh_ok (g := g) (X := X) (N := N) (T := T) (K := K) (M := M) hs
      have ht := hs.1
      have hn := hs.2.1
      have b9 : Nat.beq (j + 108) 9 = false := by
        cases e : Nat.beq (j + 108) 9 with
        | false => rfl
        | true => have := Nat.eq_of_beq_eq_true e; omega
      have b12 : Nat.ble 12 (j + 108) = true := Nat.ble_eq_true_of_le (by omega)
      have cB2 : call PGM (d + 40) yB_put [.ref 12, .int (nI k), .int b, .int v] (heapOf g X N T K M dd) = sem PGM (d + 39) yB_put (31, [some (.ref 12), some (.int (nI k)), some (.int b), some (.int v), some (.ref (j + 108))], [.int (bI (hasB b n))], heapOf g X N T K M dd) := by
        rw [cB, ha, eB_put_4, inb_nI (by omega), k4, nclamp (by omega), e1]
        show (bif true then bif false then _ else bif true && Nat.ble 12 (j + 108) then bif !(Nat.beq (j + 108) 9) then bif okC (heapOf g X N T K M dd) (j + 108) 4 && true then aftK _ 1 _ (call PGM (d + 39) yH_has [.ref (j + 108), .int b] _) else none else none else none else _) = _
        rw [b9, b12, s1, cH_has (d + 38) g X N T K M hs, aft1]
        rfl
      have z6 : decide ((0 : Int32) ≤ nI t) = true := by rw [l0, dle (by omega) (by omega)]; simp
      have cM2 : ∀ Z : ZT, call PGM (d + 40) yM_put [.ref 91, .int (nI k), .int b, .int v] (hM Z M) = sem PGM (d + 39) yM_put (36, [some (.ref 91), some (.int (nI k)), some (.int b), some (.int v)], [.int (bI (hasB b n))], hM Z M) := by
        intro Z
        rw [cM, ha, eM_put_4, inb_nI (by omega), k4, nclamp (by omega), e2, e3, z6, show (0 : Int64) = (0 : Int32).toInt64 from rfl, cM_inI (d + 38), in_has b (by omega), aft1]
        rfl
      cases hb : hasB b n with
      | false =>
        refine op_ro (-12) h ?_ ?_
        · rw [cB2, hb, eB_put_31]
          rfl
        · rw [hM_eq, cM2, hb, eM_put_36]
          rfl
      | true =>
        obtain ⟨x, hx, rfl⟩ := has_t (by omega) hb
        refine ⟨1, X, N, T, K, mA M 11 (upd (M.1 11) (40 * k + x) (narV (nI t) v)), dd.set (j + 1) (.inl (.int, n, .inl (upd f x (narV (nI t) v)))), ?_, ?_, ?_⟩
        · have b12' : Nat.ble 12 (j + 109) = true := Nat.ble_eq_true_of_le (by omega)
          rw [cB2, hb, eB_put_31, s4, s5, s6, s1, cH_narrowed (d + 38) g X N T K M hs, aft1, aft1, eB_put_49x, (s9 x hx).1, (s9 x hx).2.2, b12']
          rfl
        · have k40 : decide (40 * k + x < 160) = true := by simp; omega
          rw [hM_eq, cM2, hb, eM_put_36, inb_nI (by omega), k4, nclamp (by omega), e2, cM_narrowed (d + 38), aft1, eM_put_62]
          have e40 : (40 : Int32) * nI k + nI x = nI (40 * k + x) := by rw [show (40 : Int32) = nI 40 from rfl, pk_mul, nI_add]
          rw [e40, inb_nI (by omega), k40, nclamp (by omega)]
          rfl
        · refine INV_H h (fun _ _ _ => rfl) rfl (fun q hq => mA_n (by omega)) rfl (fun _ _ _ hl => lawD_set hs hl) ⟨fun l hl => ?_, hH.2⟩ (iE_keep hE rfl rfl rfl (mA_n (by omega)) (mA_n (by omega)) (mA_n (by omega)) (fun j' t' n' f' hs' => ?_)) ⟨by rw [List.length_set]; have := hD.1; omega, by have e := sl_put (c := .inl (.int, n, .inl (upd f x (narV (nI t) v)))) hs.2.2.2 rfl; rw [e]; have := hD.2; omega⟩
          · unfold iH1
            have q9 : (mA M 11 (upd (M.1 11) (40 * k + x) (narV (nI t) v))).1 9 = M.1 9 := mA_n (by omega)
            have q10 : (mA M 11 (upd (M.1 11) (40 * k + x) (narV (nI t) v))).1 10 = M.1 10 := mA_n (by omega)
            rw [q9, q10, mA_s]
            by_cases el : l = k
            · subst el
              refine Or.inr ⟨j, t, n, upd f x (narV (nI t) v), e1, shA_self hs, e2, e3, fun y hy => ?_⟩
              by_cases ey : y = x
              · subst ey; rw [upd_eq, upd_eq]
              · rw [upd_ne ey, upd_ne (by omega)]; exact e4 y hy
            · rcases hold2 (hH.1 l hl) with hh | ⟨j', t', n', f', e1', hs', e2', e3', e4'⟩
              · exact Or.inl hh
              · have jn : j' ≠ j := by
                  intro e
                  subst e
                  exact el (hH.2 l k _ hl hk e1' e1)
                have n40 := hs'.2.1
                refine Or.inr ⟨j', t', n', f', e1', shA_set hs hs' jn, e2', e3', fun y hy => ?_⟩
                rw [upd_ne (by omega)]
                exact e4' y hy
          · by_cases e : j' = j
            · subst e
              have a0 := hs.2.2.1
              have a1 := hs.2.2.2
              rw [hs'.2.2.1] at a0
              rw [hs'.2.2.2] at a1
              have et : nI t' = nI t := by
                have := Option.some.inj a0
                injection this with this
                injection this with _ this
                injection this with this _
                injection this
              have en : n' = n := by
                have := Option.some.inj a1
                injection this with this
                injection this with _ this
                injection this
              have et' : t' = t := (nI_eq (by have := hs'.1; omega) (by omega)).mp et
              subst et' en
              exact ⟨_, shA_self hs⟩
            · exact ⟨f', shA_set hs hs' e⟩
theorem op_item (d i : Nat) (g : GT) (X : XS) (N T K : SS) (M : MS) (dd : AH) (h : INV i X N K M dd) (a b c : Int32) : OPR d i g X N T K M dd yB_item yM_item [.int a, .int b, .int c] := by
  have h' := h
  obtain ⟨_, hK, hT, hR, hH, hE, hB, hM', hD⟩ := h'
  have cB : call PGM (d + 40) yB_item [.ref 12, .int a, .int b, .int c] (heapOf g X N T K M dd) = sem PGM (d + 39) yB_item (4, [some (.ref 12), some (.int a), some (.int b), some (.int c), none], [.int (bI (hasB a 4))], heapOf g X N T K M dd) := by
    rw [kB_item, eB_item_0, isB_Holder (d + 38), aft1]
  have cM : ∀ Z : ZT, call PGM (d + 40) yM_item [.ref 91, .int a, .int b, .int c] (hM Z M) = bif hasB a 4 then sem PGM (d + 39) yM_item (16, [some (.ref 91), some (.int a), some (.int b), some (.int c), none], [.int (bI (rng b 0 4))], hM Z M) else some (some (.int MO), hM Z M) := by
    intro Z
    rw [kM_item, eM_item_0, cM_isOne (d + 37), aft1, eM_item_4, bI_0, w0, w4, cM_rng (d + 38), aft1]
    cases hasB a 4 <;> rfl
  cases ha : hasB a 4 with
  | false =>
    refine op_ro MO h ?_ ?_
    · rw [cB, ha, eB_item_4]
      rfl
    · rw [hM_eq, cM, ha]
      rfl
  | true =>
    obtain ⟨k, hk, rfl⟩ := has_t (by omega) ha
    have k4 : decide (k < 4) = true := by simp [hk]
    rcases rng3 b (lo := 0) (hi := 4) (by omega) (by omega) with ⟨w, _, hw, rfl⟩ | ⟨hr, hc⟩ | ⟨hr, hc1, hc2, hc3⟩
    · have rt : rng (nI w) 0 4 = true := by rw [rng_n (by omega) (by omega) (by omega)]; simp; omega
      have v1 : decide (nI w < 0) = false := by rw [l0, dlt (by omega) (by omega)]; simp
      have v2 : decide (nI w ≤ 4) = true := by rw [show (4 : Int32) = nI 4 from rfl, dle (by omega) (by omega)]; simp; omega
      rcases hold2 (hH.1 k hk) with ⟨e1, e2⟩ | ⟨j, t, n, f, e1, hs, e2, e3, e4⟩
      · refine op_ro (-11) h ?_ ?_
        · rw [cB, ha, eB_item_4, inb_nI (by omega), k4, nclamp (by omega), e1, v1, v2]
          rfl
        · have tk : ∀ Z : ZT, call PGM (d + 39) yM_taking [.ref 91, .int (nI k), .int (nI w)] (hM Z M) = some (some (.int (-11)), hM Z M) := by
            intro Z
            rw [kM_taking, eM_taking_0, inb_nI (by omega), k4, nclamp (by omega), e2]
            rfl
          rw [hM_eq, cM, ha, rt, cond_true, eM_item_16, tk, aft1, eM_item_27]
          rfl
      · obtain ⟨s1, s2, s3, s4, s5, s6, s7, s8, s9⟩ := sh_ok (g := g) (X := X) (N := N) (T := T) (K := K) (M := M) hs
        have ht := hs.1
        have hn := hs.2.1
        have b9 : Nat.beq (j + 108) 9 = false := by
          cases e : Nat.beq (j + 108) 9 with
          | false => rfl
          | true => have := Nat.eq_of_beq_eq_true e; omega
        have b12 : Nat.ble 12 (j + 108) = true := Nat.ble_eq_true_of_le (by omega)
        have z6 : decide ((0 : Int32) ≤ nI t) = true := by rw [l0, dle (by omega) (by omega)]; simp
        have tk : ∀ Z : ZT, call PGM (d + 39) yM_taking [.ref 91, .int (nI k), .int (nI w)] (hM Z M) = some (some (.int (bif decide (t = w) then 0 else -13)), hM Z M) := by
          intro Z
          rw [kM_taking, eM_taking_0, inb_nI (by omega), k4, nclamp (by omega), e2, z6, deq (by omega) (by omega)]
          cases decide (t = w) <;> rfl
        have cB2 : call PGM (d + 40) yB_item [.ref 12, .int (nI k), .int (nI w), .int c] (heapOf g X N T K M dd) = bif decide (t = w) then sem PGM (d + 39) yB_item (52, [some (.ref 12), some (.int (nI k)), some (.int (nI w)), some (.int c), some (.ref (j + 108))], [.int (bI (hasB c n))], heapOf g X N T K M dd) else some (some (.int (-13)), heapOf g X N T K M dd) := by
          rw [cB, ha, eB_item_4, inb_nI (by omega), k4, nclamp (by omega), e1, v1, v2]
          show (bif false then _ else bif false then _ else bif true then bif false then _ else bif true && Nat.ble 12 (j + 108) then bif !(Nat.beq (j + 108) 9) then bif okI (heapOf g X N T K M dd) (j + 108) 4 0 then bif decide (gI (heapOf g X N T K M dd) (j + 108) 0 = nI w) then bif okC (heapOf g X N T K M dd) (j + 108) 4 && true then aftK _ 1 _ (call PGM (d + 39) yH_has [.ref (j + 108), .int c] _) else none else _ else none else none else none else _) = _
          rw [b9, b12, s1, s2, s3, cH_has (d + 38) g X N T K M hs, aft1, deq (by omega) (by omega)]
          rfl
        by_cases etw : t = w
        · have ey : decide (t = w) = true := by simp [etw]
          have cM2 : ∀ Z : ZT, call PGM (d + 40) yM_item [.ref 91, .int (nI k), .int (nI w), .int c] (hM Z M) = sem PGM (d + 39) yM_item (52, [some (.ref 91), some (.int (nI k)), some (.int (nI w)), some (.int c), some (.int 0)], [.int (bI (hasB c n))], hM Z M) := by
            intro Z
            rw [cM, ha, rt, cond_true, eM_item_16, tk, ey, aft1, eM_item_27, inb_nI (by omega), k4, nclamp (by omega), e3, show (0 : Int64) = (0 : Int32).toInt64 from rfl, cM_inI (d + 38), in_has c (by omega), aft1]
            rfl
          cases hb : hasB c n with
          | false =>
            refine op_ro (-12) h ?_ ?_
            · rw [cB2, ey, hb, cond_true, eB_item_52]
              rfl
            · rw [hM_eq, cM2, hb, eM_item_52]
              rfl
          | true =>
            obtain ⟨x, hx, rfl⟩ := has_t (by omega) hb
            refine op_ro (f x) h ?_ ?_
            · rw [cB2, ey, hb, cond_true, eB_item_52, s4, s5, s6, (s9 x hx).1, (s9 x hx).2.1]
              rfl
            · have k40 : decide (40 * k + x < 160) = true := by simp; omega
              have e40 : (40 : Int32) * nI k + nI x = nI (40 * k + x) := by rw [show (40 : Int32) = nI 40 from rfl, pk_mul, nI_add]
              rw [hM_eq, cM2, hb, eM_item_52, e40, inb_nI (by omega), k40, nclamp (by omega), e4 x hx]
              rfl
        · have ey : decide (t = w) = false := by simp [etw]
          refine op_ro (-13) h ?_ ?_
          · rw [cB2, ey]
            rfl
          · rw [hM_eq, cM, ha, rt, cond_true, eM_item_16, tk, ey, aft1, eM_item_27]
            rfl
    · refine op_ro MO h ?_ ?_
      · rw [cB, ha, eB_item_4]
        simp (disch := omega) only [l0, l1, l2, l3, l4, l5, l6, l7, l8, l9, l10, l11, l12, l13, l14, l15, l16, l17, l18, l19, l20, l21, l22, l23, l24, l25, l26, l27, l28, l29, l30, l31, l40, l48, l52, l57, l60, l65, l97, l99, l100, l102, l119, l122, l179, l197, l200, l201, l237, l436, l437, pk_mul, nI_add, inb_nI, nclamp, dlt, dle, deq, bif_t, bif_f, bif_nt, bif_nf, aft0, aft1, decide_true, decide_false, Bool.not_true, Bool.not_false, cond_true, cond_false, Nat.add_sub_cancel, Nat.add_one_sub_one, ou9, mo1, nI_MO, OU_lt, OU_ge, Nat.not_lt_zero, Bool.or_false, Bool.or_true, Bool.true_or, Bool.false_or, Bool.and_true, Bool.and_false, Bool.true_and, Bool.false_and, bI_0n, bI_1n, Bool.not_not, hc]
      · rw [hM_eq, cM, ha, hr, cond_true, eM_item_16]
        rfl
    · refine op_ro MO h ?_ ?_
      · rw [cB, ha, eB_item_4]
        simp (disch := omega) only [l0, l1, l2, l3, l4, l5, l6, l7, l8, l9, l10, l11, l12, l13, l14, l15, l16, l17, l18, l19, l20, l21, l22, l23, l24, l25, l26, l27, l28, l29, l30, l31, l40, l48, l52, l57, l60, l65, l97, l99, l100, l102, l119, l122, l179, l197, l200, l201, l237, l436, l437, pk_mul, nI_add, inb_nI, nclamp, dlt, dle, deq, bif_t, bif_f, bif_nt, bif_nf, aft0, aft1, decide_true, decide_false, Bool.not_true, Bool.not_false, cond_true, cond_false, Nat.add_sub_cancel, Nat.add_one_sub_one, ou9, mo1, nI_MO, OU_lt, OU_ge, Nat.not_lt_zero, Bool.or_false, Bool.or_true, Bool.true_or, Bool.false_or, Bool.and_true, Bool.and_false, Bool.true_and, Bool.false_and, bI_0n, bI_1n, Bool.not_not, hc1, hc3]
      · rw [hM_eq, cM, ha, hr, cond_true, eM_item_16]
        rfl
