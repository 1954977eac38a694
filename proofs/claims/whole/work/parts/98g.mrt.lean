/-! The model reads a TEXT. -/
/-- CLAUSES as they lie in the model's rows -/
def MI (H : Nat → Int32) (L : List CE) : Prop := ∀ j, j < L.length → H (5 * j) = nI (L.getD j ce0).1 ∧ H (5 * j + 1) = nI (L.getD j ce0).2.1 ∧ H (5 * j + 2) = bI (L.getD j ce0).2.2.1 ∧ H (5 * j + 3) = nI (opsN (allO (L.take j))) ∧ H (5 * j + 4) = nI (opsN (allO (L.take (j + 1))))
theorem MI_app {H : Nat → Int32} {L : List CE} (h : MI H L) (e : CE) : MI (wrC H L.length e (opsN (allO L)) (opsN (allO (L ++ [e])))) (L ++ [e]) := by
  intro j hj
  unfold wrC
  by_cases ej : j = L.length
  · subst ej
    rw [getC_end, takeC_end, takeC_app (Nat.le_refl _), List.take_of_length_le (Nat.le_refl _)]
    refine ⟨?_, ?_, ?_, ?_, ?_⟩
    · rw [upd_ne (by omega), upd_ne (by omega), upd_ne (by omega), upd_ne (by omega), upd_eq]
    · rw [upd_ne (by omega), upd_ne (by omega), upd_ne (by omega), upd_eq]
    · rw [upd_ne (by omega), upd_ne (by omega), upd_eq]
    · rw [upd_ne (by omega), upd_eq]
    · rw [upd_eq]
  · have hj' : j < L.length := by rw [List.length_append] at hj; have : j < L.length + 1 := hj; omega
    rw [getC_app hj', takeC_app (by omega), takeC_app (by omega)]
    obtain ⟨a1, a2, a3, a4, a5⟩ := h j hj'
    refine ⟨?_, ?_, ?_, ?_, ?_⟩
    · rw [upd_ne (by omega), upd_ne (by omega), upd_ne (by omega), upd_ne (by omega), upd_ne (by omega)]; exact a1
    · rw [upd_ne (by omega), upd_ne (by omega), upd_ne (by omega), upd_ne (by omega), upd_ne (by omega)]; exact a2
    · rw [upd_ne (by omega), upd_ne (by omega), upd_ne (by omega), upd_ne (by omega), upd_ne (by omega)]; exact a3
    · rw [upd_ne (by omega), upd_ne (by omega), upd_ne (by omega), upd_ne (by omega), upd_ne (by omega)]; exact a4
    · rw [upd_ne (by omega), upd_ne (by omega), upd_ne (by omega), upd_ne (by omega), upd_ne (by omega)]; exact a5
section
variable {n : Nat} {B : Nat → Nat} {M0 : MS} {c : Nat}
theorem tk_m1 (hB : ∀ k, k < n → B k < 256) {f : Nat} (hf : f < n) (h32 : B f ≠ 32) : tkI n B f ≠ -1 := by
  intro q
  have q' := congrArg Int32.toInt q
  have m1 : (-1 : Int32).toInt = -1 := rfl
  have m2 : (-2 : Int32).toInt = -2 := rfl
  have hb := hB f hf
  rw [m1] at q'
  unfold tkI at q'
  rw [if_pos hf] at q'
  split at q'
  · rcases wV_le (txt B f (eo n B f - f)) WL 0 with g | ⟨j, hj, g⟩
    · rw [g, m2] at q'; omega
    · rw [WL_len] at hj
      rw [g, nI_toInt (by omega)] at q'
      omega
  · split at q'
    · split at q'
      · rw [nI_toInt (by omega)] at q'; omega
      · rw [m2] at q'; omega
    · split at q'
      · have s := srt_le (B f)
        have s0 : srt (B f) ≠ 0 := fun z => h32 ((srt_0 _).mp z)
        have tn := tk_num (B := B) hf (show srt (B f) = 2 by omega) (by assumption)
        rw [nI_toInt (by omega)] at q'
        omega
      · rw [m2] at q'; omega
theorem tk_end (hB : ∀ k, k < n → B k < 256) (a : Nat) : decide (Tm n B a = -1) = decide (n ≤ Pp n B a) := by
  rw [decide_eq_decide]
  by_cases h : Pp n B a < n
  · exact ⟨fun e => absurd e (tk_m1 hB h (Pp_ns n B a h)), fun e => by omega⟩
  · refine ⟨fun _ => by omega, fun _ => ?_⟩
    unfold Tm tkI
    rw [if_neg h]
theorem cM_readL (D : Nat) (Z : ZT) (hb : tpM n B M0) (hP : Pp n B c = n) (hc : c ≤ 200) (G0 : Nat → Int32) (u1 : Option Value) : ∀ (m : Nat) (M : MS) (a : Nat) (G H : Nat → Int32) (L : List CE), YM n B M0 M a (opsN (allO L)) L.length false G H → a ≤ c → L.length + m = 8 → opsN (allO L) ≤ a → G = wrL G0 0 (opsM (allO L)) → MI H L → ∃ M' s' k' G' H', sem PGM (D + 18) yM_read (29, [some (.ref 91), u1], [], hM Z M) = sem PGM (D + 18) yM_read (59, [some (.ref 91), u1], [], hM Z (mV M' 1 0)) ∧ YM n B M0 M' (rdP (Tm n B) c m a L).2.1 s' k' (!(rdP (Tm n B) c m a L).1) G' H' ∧ ((rdP (Tm n B) c m a L).1 = true → k' = (rdP (Tm n B) c m a L).2.2.length ∧ s' = opsN (allO (rdP (Tm n B) c m a L).2.2) ∧ G' = wrL G0 0 (opsM (allO (rdP (Tm n B) c m a L).2.2)) ∧ MI H' (rdP (Tm n B) c m a L).2.2) := by
  have hE := Tm_c hP
  have hB : ∀ k, k < n → B k < 256 := fun k hk => (hb.2.2 k hk).1
  have hn := hb.2.1
  intro m
  induction m with
  | zero =>
    intro M a G H L h ha hl ho eG hM'
    have pl := Pp_le n B a
    have ht := (YM_t hb h).1
    rw [eM_read_29, h.2.2.2.2.2.1, ht, h.1, dle (by omega) (by omega), ← tk_end hB, rdP]
    cases e1 : decide (Tm n B a = -1) with
    | true => exact ⟨M, _, _, G, H, rfl, h, fun _ => ⟨rfl, rfl, eG, hM'⟩⟩
    | false =>
      obtain ⟨M1, s1, k1, G1, H1, c1, c2, c3⟩ := cM_oneClause D Z hb hP hc h ha ho (by omega)
      have r0 : oneR (Tm n B) c L.length a = (false, a, ce0) := by
        unfold oneR
        rw [show decide (L.length < 8) = false by simp; omega]
        rfl
      rw [r0] at c2
      show ∃ M' s' k' G' H', aftK _ 0 _ (call PGM (D + 18) yM_oneClause [.ref 91] (hM Z M)) = _ ∧ _
      rw [c1, aft0, eM_read_51, eM_read_29, c2.2.2.2.2.2.1]
      exact ⟨M1, s1, k1, G1, H1, rfl, c2, fun z => by cases z⟩
  | succ m ih =>
    intro M a G H L h ha hl ho eG hM'
    have pl := Pp_le n B a
    have ht := (YM_t hb h).1
    rw [eM_read_29, h.2.2.2.2.2.1, ht, h.1, dle (by omega) (by omega), ← tk_end hB, rdP]
    cases e1 : decide (Tm n B a = -1) with
    | true => exact ⟨M, _, _, G, H, rfl, h, fun _ => ⟨rfl, rfl, eG, hM'⟩⟩
    | false =>
      obtain ⟨M1, s1, k1, G1, H1, c1, c2, c3⟩ := cM_oneClause D Z hb hP hc h ha ho (by omega)
      have r0 : oneR (Tm n B) c L.length a = clsP (Tm n B) c a := by
        unfold oneR
        rw [show decide (L.length < 8) = true by simp; omega]
        rfl
      rw [r0] at c2 c3
      have g := cls_g hE a ha
      show ∃ M' s' k' G' H', aftK _ 0 _ (call PGM (D + 18) yM_oneClause [.ref 91] (hM Z M)) = _ ∧ _
      rw [c1, aft0, eM_read_51, cond_false]
      generalize clsP (Tm n B) c a = p at c2 c3 g
      cases e2 : p.1 with
      | false =>
        rw [e2] at c2
        rw [eM_read_29, c2.2.2.2.2.2.1]
        exact ⟨M1, s1, k1, G1, H1, rfl, c2, fun z => by cases z⟩
      | true =>
        rw [e2] at c2 c3 g
        obtain ⟨t1, t2, t3, t4⟩ := c3 rfl
        have g2 := g.2.2 rfl
        have en : opsN (allO (L ++ [p.2.2])) = s1 := by rw [allO_app, opsN_app, allO_1, t2]
        have len1 : (L ++ [p.2.2]).length = k1 := by rw [List.length_append, t1]; rfl
        rw [cond_true]
        refine ih M1 p.2.1 G1 H1 (L ++ [p.2.2]) ?_ g.2.1 (by rw [len1]; omega) (by rw [en]; omega) ?_ ?_
        · rw [en, len1]
          exact c2
        · rw [t3, allO_app, allO_1, opsM_app, wrL_app, ← eG, Nat.zero_add]
          rfl
        · rw [t4, ← en]
          exact MI_app hM' p.2.2
-- into the row
def rowR (s : Nat → Int32) (k : Nat) (H : Nat → Int32) (st : Nat) (G : Nat → Int32) (j : Nat) : Int32 := if j = 8 then nI k else if 197 ≤ j ∧ j < 237 then (if j - 197 < 5 * k then H (j - 197) else 0) else if 237 ≤ j ∧ j < 437 then (if j - 237 < st then G (j - 237) else 0) else s j
theorem layG (D : Nat) (Z : ZT) {M : MS} {k st : Nat} {G : Nat → Int32} (hst : st ≤ 200) (h5 : M.2 5 = nI st) (h6 : M.2 6 = nI k) (h4 : M.1 4 = G) (g : Nat → Int32) : ∀ (q i : Nat), i + q = 200 → ∀ f : Nat → Int32, (∀ j, (j < 237 + i ∨ 437 ≤ j) → f j = g j) → ∃ f', sem PGM D yM_read (131, [some (.ref 91), some (.int (nI i))], [], hM Z (mA M 0 f)) = some (some (.int (nI k)), hM Z (mA M 0 f')) ∧ (∀ j, (j < 237 + i ∨ 437 ≤ j) → f' j = g j) ∧ ∀ j, 237 + i ≤ j → j < 437 → f' j = if j - 237 < st then G (j - 237) else 0
  | 0, i, hi, f, hf => by
    refine ⟨f, ?_, hf, fun j h1 h2 => by omega⟩
    have y : decide ((200 : Int32) ≤ nI i) = true := by rw [show (200 : Int32) = nI 200 from rfl, dle (by omega) (by omega)]; simp; omega
    have e6 : (mA M 0 f).2 6 = nI k := h6
    rw [eM_read_131, y, cond_true, e6]
  | q + 1, i, hi, f, hf => by
    have y : decide ((200 : Int32) ≤ nI i) = false := by rw [show (200 : Int32) = nI 200 from rfl, dle (by omega) (by omega)]; simp; omega
    have e5 : (mA M 0 f).2 5 = nI st := h5
    have e4 : (mA M 0 f).1 4 = G := by rw [mA_n (by omega)]; exact h4
    have i1 : inb (nI i) 200 = true := by rw [inb_nI (by omega)]; simp; omega
    have p : (237 : Int32) + nI i = nI (237 + i) := by rw [show (237 : Int32) = nI 237 from rfl, nI_add]
    have i2 : inb (nI (237 + i)) 437 = true := by rw [inb_nI (by omega)]; simp; omega
    let v : Int32 := if i < st then G i else 0
    obtain ⟨f', r1, r2, r3⟩ := layG D Z hst h5 h6 h4 (upd g (237 + i) v) q (i + 1) (by omega) (upd f (237 + i) v) (fun j hj => by
      by_cases e : j = 237 + i
      · subst e; rw [upd_eq, upd_eq]
      · rw [upd_ne e, upd_ne e]; exact hf j (by omega))
    refine ⟨f', ?_, fun j hj => ?_, fun j h1 h2 => ?_⟩
    · rw [← nI_1] at r1
      rw [← r1, eM_read_131, y, cond_false, e5, dle (by omega) (by omega), p, i1, i2, show (nI (237 + i)).toNatClampNeg = 237 + i from nclamp (by omega), show (nI i).toNatClampNeg = i from nclamp (by omega), e4, mA_s, mA_mA, mA_mA, eM_read_166, eM_read_166]
      by_cases e : i < st
      · rw [show decide (st ≤ i) = false by simp; omega, show v = G i from if_pos e]
        rfl
      · rw [show decide (st ≤ i) = true by simp; omega, show v = 0 from if_neg e]
        rfl
    · rw [r2 j (by omega), upd_ne (by omega)]
    · by_cases e : j = 237 + i
      · subst e
        rw [r2 _ (by omega), upd_eq, Nat.add_sub_cancel_left]
      · exact r3 j (by omega) h2
theorem layC (D : Nat) (Z : ZT) {M : MS} {k : Nat} {H : Nat → Int32} (hk : k ≤ 8) (h6 : M.2 6 = nI k) (h5 : M.1 5 = H) (g : Nat → Int32) : ∀ (q i : Nat), i + q = 40 → ∀ f : Nat → Int32, (∀ j, (j < 197 + i ∨ 237 ≤ j) → f j = g j) → ∃ f', sem PGM D yM_read (87, [some (.ref 91), some (.int (nI i))], [], hM Z (mA M 0 f)) = sem PGM D yM_read (131, [some (.ref 91), some (.int (nI 0))], [], hM Z (mA M 0 f')) ∧ (∀ j, (j < 197 + i ∨ 237 ≤ j) → f' j = g j) ∧ ∀ j, 197 + i ≤ j → j < 237 → f' j = if j - 197 < 5 * k then H (j - 197) else 0
  | 0, i, hi, f, hf => by
    refine ⟨f, ?_, hf, fun j h1 h2 => by omega⟩
    have y : decide ((40 : Int32) ≤ nI i) = true := by rw [show (40 : Int32) = nI 40 from rfl, dle (by omega) (by omega)]; simp; omega
    rw [eM_read_87, y, cond_true]
    rfl
  | q + 1, i, hi, f, hf => by
    have y : decide ((40 : Int32) ≤ nI i) = false := by rw [show (40 : Int32) = nI 40 from rfl, dle (by omega) (by omega)]; simp; omega
    have e6 : (mA M 0 f).2 6 = nI k := h6
    have e4 : (mA M 0 f).1 5 = H := by rw [mA_n (by omega)]; exact h5
    have i1 : inb (nI i) 40 = true := by rw [inb_nI (by omega)]; simp; omega
    have p5 : (5 : Int32) * nI k = nI (5 * k) := by rw [show (5 : Int32) = nI 5 from rfl, pk_mul]
    have p : (197 : Int32) + nI i = nI (197 + i) := by rw [show (197 : Int32) = nI 197 from rfl, nI_add]
    have i2 : inb (nI (197 + i)) 437 = true := by rw [inb_nI (by omega)]; simp; omega
    let v : Int32 := if i < 5 * k then H i else 0
    obtain ⟨f', r1, r2, r3⟩ := layC D Z hk h6 h5 (upd g (197 + i) v) q (i + 1) (by omega) (upd f (197 + i) v) (fun j hj => by
      by_cases e : j = 197 + i
      · subst e; rw [upd_eq, upd_eq]
      · rw [upd_ne e, upd_ne e]; exact hf j (by omega))
    refine ⟨f', ?_, fun j hj => ?_, fun j h1 h2 => ?_⟩
    · rw [← nI_1] at r1
      rw [← r1, eM_read_87, y, cond_false, e6, p5, dle (by omega) (by omega), p, i1, i2, show (nI (197 + i)).toNatClampNeg = 197 + i from nclamp (by omega), show (nI i).toNatClampNeg = i from nclamp (by omega), e4, mA_s, mA_mA, mA_mA, eM_read_123, eM_read_123]
      by_cases e : i < 5 * k
      · rw [show decide (5 * k ≤ i) = false by simp; omega, show v = H i from if_pos e]
        rfl
      · rw [show decide (5 * k ≤ i) = true by simp; omega, show v = 0 from if_neg e]
        rfl
    · rw [r2 j (by omega), upd_ne (by omega)]
    · by_cases e : j = 197 + i
      · subst e
        rw [r2 _ (by omega), upd_eq, Nat.add_sub_cancel_left]
      · exact r3 j (by omega) h2
end
