/-! The model reads CONDITIONS. -/
/-- a part of the model reads as f does -/
def MSp (n : Nat) (B : Nat → Nat) (c : Nat) (M0 : MS) (D y o : Nat) (f : Nat → PR) : Prop := ∀ (Z : ZT) (M : MS) (a s : Nat) (G : Nat → Int32), QM n B M0 M a s o false G → a ≤ c → s + 3 ≤ a → ∃ M' s' G', call PGM D y [.ref 91] (hM Z M) = some (none, hM Z M') ∧ QM n B M0 M' (f a).2.1 s' o (!(f a).1) G' ∧ ((f a).1 = true → s' = s + opsN (f a).2.2 ∧ G' = wrL G s (opsM (f a).2.2))
theorem Tm_c {n : Nat} {B : Nat → Nat} {c : Nat} (hP : Pp n B c = n) : Tm n B c = -1 := by
  unfold Tm tkI
  rw [hP, if_neg (by omega)]
section
variable {n : Nat} {B : Nat → Nat} {M0 : MS} {c : Nat}
theorem cM_everyL (D : Nat) (Z : ZT) (hb : tpM n B M0) (hP : Pp n B c = n) (hc : c ≤ 200) {k o : Nat} {f : Nat → PR} (hf : MSp n B c M0 (D + 4) yM_single o f) (hg : Gdd c k f) (s0 : Nat) (G0 : Nat → Int32) : ∀ (q : Nat) (M : MS) (a s : Nat) (G : Nat → Int32) (L : List Op), QM n B M0 M a s o false G → a ≤ c → c ≤ a + q → s + 3 ≤ a → s = s0 + opsN L → G = wrL G0 s0 (opsM L) → ∃ M' s' G', sem PGM (D + 4) yM_every (4, [some (.ref 91)], [], hM Z M) = some (none, hM Z M') ∧ QM n B M0 M' (lpP (Tm n B) f 10020 (3, 0, 0) q a L).2.1 s' o (!(lpP (Tm n B) f 10020 (3, 0, 0) q a L).1) G' ∧ ((lpP (Tm n B) f 10020 (3, 0, 0) q a L).1 = true → s' = s0 + opsN (lpP (Tm n B) f 10020 (3, 0, 0) q a L).2.2 ∧ G' = wrL G0 s0 (opsM (lpP (Tm n B) f 10020 (3, 0, 0) q a L).2.2)) := by
  have hE := Tm_c hP
  intro q
  induction q with
  | zero =>
    intro M a s G L h ha hq hs es eG
    have e : a = c := by omega
    have z : decide (Tm n B a = 10020) = false := by rw [e, hE]; decide
    have nm : call PGM (D + 4) yM_isName [.ref 91, .int 97, .int 110, .int 100, .int 0, .int 0, .int 0, .int 0, .int 0] (hM Z M) = some (some (.int (bI (!false && decide (Tm n B a = 10020)))), hM Z M) := cM_name (D + 1) Z hb h 20 (by omega)
    refine ⟨M, s, G, ?_, h, fun _ => ⟨es, eG⟩⟩
    rw [eM_every_4, nm, z, aft1, eM_every_19]
    rfl
  | succ q ih =>
    intro M a s G L h ha hq hs es eG
    have nm : call PGM (D + 4) yM_isName [.ref 91, .int 97, .int 110, .int 100, .int 0, .int 0, .int 0, .int 0, .int 0] (hM Z M) = some (some (.int (bI (!false && decide (Tm n B a = 10020)))), hM Z M) := cM_name (D + 1) Z hb h 20 (by omega)
    rw [eM_every_4, nm, aft1, eM_every_19, bI_0, lpP]
    cases e1 : decide (Tm n B a = 10020) with
    | false => exact ⟨M, s, G, rfl, h, fun _ => ⟨es, eG⟩⟩
    | true =>
      have lt := tk_lt hE ha (of_decide_eq_true e1) (by decide)
      obtain ⟨M1, n1, q1⟩ := cM_needs1 D Z hb h
      obtain ⟨M2, s2, G2, r1, r2, r3⟩ := hf Z _ _ _ _ q1 (by omega) (by omega)
      have g := hg (a + 1) (by omega)
      show ∃ M' s' G', aftK _ 0 _ (call PGM (D + 4) yM_needs [.ref 91, .int 1] (hM Z M)) = _ ∧ _
      rw [n1, aft0, eM_every_27, r1, aft0, eM_every_31]
      generalize f (a + 1) = p at r1 r2 r3 g
      cases e2 : p.1 with
      | false =>
        rw [e2] at r2
        refine ⟨M2, s2, G2, ?_, r2, fun z => by cases z⟩
        rw [cM_emitsW (D + 3) Z r2.2.2.2.2.1, aft0, eM_every_38, eM_every_4, cM_isNameW (D + 3) Z r2.2.2.2.2.1, aft1, eM_every_19]
        rfl
      | true =>
        rw [e2] at r2 r3 g
        obtain ⟨t1, t2⟩ := r3 rfl
        have g2 := (g.2.2 rfl).1
        rw [cM_emits (D + 3) Z r2 (by omega), aft0, eM_every_38, cond_true, cond_true]
        have op1 : opsN [((3, 0, 0) : Op)] = 1 := rfl
        refine ih _ p.2.1 (s2 + 1) _ (L ++ p.2.2 ++ [(3, 0, 0)]) (QM_e r2 10011) g.2.1 (by omega) (by omega) ?_ ?_
        · rw [opsN_app, opsN_app, op1]
          omega
        · rw [opsM_app, opsM_app, wrL_app, wrL_app, ← eG, List.length_append]
          have e3 : s0 + (opsM L).length = s := by rw [es]; rfl
          have e4 : s0 + ((opsM L).length + (opsM p.2.2).length) = s2 := by
            have : s2 = s + (opsM p.2.2).length := t1
            omega
          rw [e3, e4, ← t2]
          rfl
theorem cM_every (D : Nat) (hb : tpM n B M0) (hP : Pp n B c = n) (hc : c ≤ 200) {k o : Nat} {f : Nat → PR} (hf : MSp n B c M0 (D + 4) yM_single o f) (hg : Gdd c k f) : MSp n B c M0 (D + 5) yM_every o (sqP (Tm n B) c f 10020 (3, 0, 0)) := by
  intro Z M a s G h ha hs
  obtain ⟨M2, s2, G2, r1, r2, r3⟩ := hf Z _ _ _ _ h ha hs
  have g := hg a ha
  rw [kM_every, eM_every_0, r1, aft0]
  unfold sqP
  generalize f a = p at r1 r2 r3 g
  cases e2 : p.1 with
  | false =>
    rw [e2] at r2
    refine ⟨M2, s2, G2, ?_, r2, fun z => by cases z⟩
    rw [eM_every_4, cM_isNameW (D + 3) Z r2.2.2.2.2.1, aft1, eM_every_19]
    rfl
  | true =>
    rw [e2] at r2 r3 g
    obtain ⟨t1, t2⟩ := r3 rfl
    have g2 := (g.2.2 rfl).1
    rw [cond_true]
    exact cM_everyL D Z hb hP hc hf hg s G (c - p.2.1) M2 p.2.1 s2 G2 p.2.2 r2 g.2.1 (by omega) (by omega) t1 t2
theorem cM_conditionL (D : Nat) (Z : ZT) (hb : tpM n B M0) (hP : Pp n B c = n) (hc : c ≤ 200) {k o : Nat} {f : Nat → PR} (hf : MSp n B c M0 (D + 4) yM_every o f) (hg : Gdd c k f) (s0 : Nat) (G0 : Nat → Int32) : ∀ (q : Nat) (M : MS) (a s : Nat) (G : Nat → Int32) (L : List Op), QM n B M0 M a s o false G → a ≤ c → c ≤ a + q → s + 3 ≤ a → s = s0 + opsN L → G = wrL G0 s0 (opsM L) → ∃ M' s' G', sem PGM (D + 4) yM_condition (4, [some (.ref 91)], [], hM Z M) = some (none, hM Z M') ∧ QM n B M0 M' (lpP (Tm n B) f 10019 (4, 0, 0) q a L).2.1 s' o (!(lpP (Tm n B) f 10019 (4, 0, 0) q a L).1) G' ∧ ((lpP (Tm n B) f 10019 (4, 0, 0) q a L).1 = true → s' = s0 + opsN (lpP (Tm n B) f 10019 (4, 0, 0) q a L).2.2 ∧ G' = wrL G0 s0 (opsM (lpP (Tm n B) f 10019 (4, 0, 0) q a L).2.2)) := by
  have hE := Tm_c hP
  intro q
  induction q with
  | zero =>
    intro M a s G L h ha hq hs es eG
    have e : a = c := by omega
    have z : decide (Tm n B a = 10019) = false := by rw [e, hE]; decide
    have nm : call PGM (D + 4) yM_isName [.ref 91, .int 111, .int 114, .int 0, .int 0, .int 0, .int 0, .int 0, .int 0] (hM Z M) = some (some (.int (bI (!false && decide (Tm n B a = 10019)))), hM Z M) := cM_name (D + 1) Z hb h 19 (by omega)
    refine ⟨M, s, G, ?_, h, fun _ => ⟨es, eG⟩⟩
    rw [eM_condition_4, nm, z, aft1, eM_condition_18]
    rfl
  | succ q ih =>
    intro M a s G L h ha hq hs es eG
    have nm : call PGM (D + 4) yM_isName [.ref 91, .int 111, .int 114, .int 0, .int 0, .int 0, .int 0, .int 0, .int 0] (hM Z M) = some (some (.int (bI (!false && decide (Tm n B a = 10019)))), hM Z M) := cM_name (D + 1) Z hb h 19 (by omega)
    rw [eM_condition_4, nm, aft1, eM_condition_18, bI_0, lpP]
    cases e1 : decide (Tm n B a = 10019) with
    | false => exact ⟨M, s, G, rfl, h, fun _ => ⟨es, eG⟩⟩
    | true =>
      have lt := tk_lt hE ha (of_decide_eq_true e1) (by decide)
      obtain ⟨M1, n1, q1⟩ := cM_needs1 D Z hb h
      obtain ⟨M2, s2, G2, r1, r2, r3⟩ := hf Z _ _ _ _ q1 (by omega) (by omega)
      have g := hg (a + 1) (by omega)
      show ∃ M' s' G', aftK _ 0 _ (call PGM (D + 4) yM_needs [.ref 91, .int 1] (hM Z M)) = _ ∧ _
      rw [n1, aft0, eM_condition_26, r1, aft0, eM_condition_30]
      generalize f (a + 1) = p at r1 r2 r3 g
      cases e2 : p.1 with
      | false =>
        rw [e2] at r2
        refine ⟨M2, s2, G2, ?_, r2, fun z => by cases z⟩
        rw [cM_emitsW (D + 3) Z r2.2.2.2.2.1, aft0, eM_condition_37, eM_condition_4, cM_isNameW (D + 3) Z r2.2.2.2.2.1, aft1, eM_condition_18]
        rfl
      | true =>
        rw [e2] at r2 r3 g
        obtain ⟨t1, t2⟩ := r3 rfl
        have g2 := (g.2.2 rfl).1
        rw [cM_emits (D + 3) Z r2 (by omega), aft0, eM_condition_37, cond_true, cond_true]
        have op1 : opsN [((4, 0, 0) : Op)] = 1 := rfl
        refine ih _ p.2.1 (s2 + 1) _ (L ++ p.2.2 ++ [(4, 0, 0)]) (QM_e r2 10012) g.2.1 (by omega) (by omega) ?_ ?_
        · rw [opsN_app, opsN_app, op1]
          omega
        · rw [opsM_app, opsM_app, wrL_app, wrL_app, ← eG, List.length_append]
          have e3 : s0 + (opsM L).length = s := by rw [es]; rfl
          have e4 : s0 + ((opsM L).length + (opsM p.2.2).length) = s2 := by
            have : s2 = s + (opsM p.2.2).length := t1
            omega
          rw [e3, e4, ← t2]
          rfl
theorem cM_condition (D : Nat) (hb : tpM n B M0) (hP : Pp n B c = n) (hc : c ≤ 200) {k o : Nat} {f : Nat → PR} (hf : MSp n B c M0 (D + 4) yM_every o f) (hg : Gdd c k f) : MSp n B c M0 (D + 5) yM_condition o (sqP (Tm n B) c f 10019 (4, 0, 0)) := by
  intro Z M a s G h ha hs
  obtain ⟨M2, s2, G2, r1, r2, r3⟩ := hf Z _ _ _ _ h ha hs
  have g := hg a ha
  rw [kM_condition, eM_condition_0, r1, aft0]
  unfold sqP
  generalize f a = p at r1 r2 r3 g
  cases e2 : p.1 with
  | false =>
    rw [e2] at r2
    refine ⟨M2, s2, G2, ?_, r2, fun z => by cases z⟩
    rw [eM_condition_4, cM_isNameW (D + 3) Z r2.2.2.2.2.1, aft1, eM_condition_18]
    rfl
  | true =>
    rw [e2] at r2 r3 g
    obtain ⟨t1, t2⟩ := r3 rfl
    have g2 := (g.2.2 rfl).1
    rw [cond_true]
    exact cM_conditionL D Z hb hP hc hf hg s G (c - p.2.1) M2 p.2.1 s2 G2 p.2.2 r2 g.2.1 (by omega) (by omega) t1 t2
theorem cM_notsL (D : Nat) (Z : ZT) (hb : tpM n B M0) (hP : Pp n B c = n) {o s : Nat} {G : Nat → Int32} (u2 : Option Value) : ∀ (q : Nat) (M : MS) (a : Nat) (b : Bool), QM n B M0 M a s o false G → a + q = c → ∃ M', sem PGM (D + 4) yM_single (2, [some (.ref 91), some (.int (bI b)), u2], [], hM Z M) = sem PGM (D + 4) yM_single (54, [some (.ref 91), some (.int (bI (nots (Tm n B) q a b).2)), u2], [.int (bv n B (Pp n B (nots (Tm n B) q a b).1))], hM Z M') ∧ QM n B M0 M' (nots (Tm n B) q a b).1 s o false G := by
  have hE := Tm_c hP
  intro q
  induction q with
  | zero =>
    intro M a b h hq
    have e : a = c := by omega
    have z : decide (Tm n B a = 10021) = false := by rw [e, hE]; decide
    have nm : call PGM (D + 4) yM_isName [.ref 91, .int 110, .int 111, .int 116, .int 0, .int 0, .int 0, .int 0, .int 0] (hM Z M) = some (some (.int (bI (!false && decide (Tm n B a = 10021)))), hM Z M) := cM_name (D + 1) Z hb h 21 (by omega)
    refine ⟨M, ?_, h⟩
    rw [eM_single_2, nm, z, aft1, eM_single_17, h.2.2.2.2.1]
    show aftK _ 1 _ (call PGM (D + 4) yM_byteAt [.ref 91, .int (M.2 2)] (hM Z M)) = _
    rw [cM_sign (D + 3) Z hb h, aft1]
    rfl
  | succ q ih =>
    intro M a b h hq
    have nm : call PGM (D + 4) yM_isName [.ref 91, .int 110, .int 111, .int 116, .int 0, .int 0, .int 0, .int 0, .int 0] (hM Z M) = some (some (.int (bI (!false && decide (Tm n B a = 10021)))), hM Z M) := cM_name (D + 1) Z hb h 21 (by omega)
    rw [eM_single_2, nm, aft1, eM_single_17, nots]
    by_cases e1 : Tm n B a = 10021
    · have z : decide (Tm n B a = 10021) = true := by simp [e1]
      obtain ⟨M1, n1, q1⟩ := cM_needs1 D Z hb h
      obtain ⟨M', r1, r2⟩ := ih M1 (a + 1) (!b) q1 (by omega)
      rw [if_pos e1]
      refine ⟨M', ?_, r2⟩
      rw [← r1, z, n1, aft0, aft0, eM_single_35, eM_single_35]
      cases b <;> rfl
    · have z : decide (Tm n B a = 10021) = false := by simp [e1]
      rw [if_neg e1]
      refine ⟨M, ?_, h⟩
      rw [z, h.2.2.2.2.1]
      show aftK _ 1 _ (call PGM (D + 4) yM_byteAt [.ref 91, .int (M.2 2)] (hM Z M)) = _
      rw [cM_sign (D + 3) Z hb h, aft1]
theorem cM_single (D : Nat) (hb : tpM n B M0) (hP : Pp n B c = n) (hc : c ≤ 200) {k : Nat} {cn : Nat → PR} (o : Nat) (ho : o ≤ 3) (hf : o < 3 → MSp n B c M0 (D + 5) yM_condition (o + 1) cn) (hg : o < 3 → Gdd c k cn) : MSp n B c M0 (D + 6) yM_single o (oneP (Tm n B) c cn (decide (o < 3))) := by
  intro Z M a s G h ha hs
  have hE := Tm_c hP
  obtain ⟨M1, r1, q1⟩ := cM_notsL (D + 1) Z hb hP none (c - a) M a false h (by omega)
  obtain ⟨n1, n2, n3, _⟩ := nots_g hE (c - a) a false (by omega)
  rw [kM_single, eM_single_0]
  show ∃ M' s' G', sem PGM (D + 5) yM_single (2, [some (.ref 91), some (.int (bI false)), none], [], hM Z M) = _ ∧ _
  rw [r1, eM_single_54]
  unfold oneP
  generalize nots (Tm n B) (c - a) a false = r at n1 n2 n3 q1
  have nb : r.2 = true → a + 1 ≤ r.1 := fun e => n3 (by rw [e]; decide)
  have z40 : decide (bv n B (Pp n B r.1) = 40) = decide (Tm n B r.1 = 20040) := bv_sign hb r.1 40 (by omega) rfl
  have e10 : ∀ b : Bool, decide (bI b = 0) = !b := fun b => by cases b <;> rfl
  -- what is turned
  have turn : ∀ (M2 : MS) (a2 s2 : Nat) (G2 : Nat → Int32) (l : List Op) (lb : Nat) (u2 : Option Value), lb = 178 ∨ lb = 122 → QM n B M0 M2 a2 s2 o false G2 → (r.2 = true → s2 < 200) → s2 = s + opsN l → G2 = wrL G s (opsM l) → ∃ M' s' G', sem PGM (D + 5) yM_single (lb, [some (.ref 91), some (.int (bI r.2)), u2], [], hM Z M2) = some (none, hM Z M') ∧ QM n B M0 M' a2 s' o (!true) G' ∧ (true = true → s' = s + opsN (l ++ ntL r.2) ∧ G' = wrL G s (opsM (l ++ ntL r.2))) := by
    intro M2 a2 s2 G2 l lb u2 hlb h2 hs2 e1 e2
    cases e : r.2 with
    | false =>
      refine ⟨M2, s2, G2, ?_, h2, fun _ => ?_⟩
      · rcases hlb with rfl | rfl
        · rw [eM_single_178]; rfl
        · rw [eM_single_122]; rfl
      · rw [show l ++ ntL false = l from List.append_nil l]
        exact ⟨e1, e2⟩
    | true =>
      have em := cM_emits (D + 4) Z h2 (hs2 e) 10010
      refine ⟨_, s2 + 1, _, ?_, QM_e h2 10010, fun _ => ⟨?_, ?_⟩⟩
      · rcases hlb with rfl | rfl
        · rw [eM_single_178]
          show aftK _ 0 _ (call PGM (D + 5) yM_emits [.ref 91, .int 10010] (hM Z M2)) = _
          rw [em, aft0, eM_single_189]
        · rw [eM_single_122]
          show aftK _ 0 _ (call PGM (D + 5) yM_emits [.ref 91, .int 10010] (hM Z M2)) = _
          rw [em, aft0, eM_single_189]
      · rw [opsN_app, e1]; rfl
      · rw [opsM_app, wrL_app, ← e2, show s + (opsM l).length = s2 from e1.symm]; rfl
  -- one who is wrong goes to the end
  have wrong : ∀ (M2 : MS) (lb : Nat) (u2 : Option Value), lb = 178 ∨ lb = 122 → M2.2 7 = bI true → sem PGM (D + 5) yM_single (lb, [some (.ref 91), some (.int (bI r.2)), u2], [], hM Z M2) = some (none, hM Z M2) := by
    intro M2 lb u2 hlb h2
    rcases hlb with rfl | rfl
    · rw [eM_single_178, e10, cM_emitsW (D + 4) Z h2, aft0, eM_single_189]
      cases r.2 <;> rfl
    · rw [eM_single_122, e10, cM_emitsW (D + 4) Z h2, aft0, eM_single_189]
      cases r.2 <;> rfl
  rw [z40]
  cases e1 : decide (Tm n B r.1 = 20040) with
  | false =>
    show ∃ M' s' G', aftK _ 0 _ (call PGM (D + 5) yM_value [.ref 91] (hM Z M1)) = _ ∧ _
    rw [cond_false]
    obtain ⟨M2, G2, v1, v2, v3⟩ := cM_value D Z hb q1 (by omega)
    rw [v1, aft0, eM_single_129]
    unfold cmpP
    cases i1 : isV (Tm n B r.1) with
    | false =>
      have q2 := v3 i1
      refine ⟨M2, s + 1, G2, ?_, q2, fun z => by cases z⟩
      have w2 := q2.2.2.2.2.1
      rw [cM_sign (D + 4) Z hb q2, aft1, eM_single_137, cM_needsW (D + 4) Z w2, cM_needsW (D + 4) Z w2, aft0, eM_single_165, cM_valueW (D + 4) Z w2, aft0, eM_single_169, cM_emitsW (D + 4) Z w2, aft0, wrong M2 178 _ (Or.inl rfl) w2]
      cases decide (bv n B (Pp n B r.1) = 60) <;> cases decide (bv n B (Pp n B r.1) = 61) <;> cases decide (bv n B (Pp n B r.1) = 62) <;> rfl
    | true =>
      have q2 := v2 i1
      have lt1 := tk_V hE n2 i1
      have z60 : decide (bv n B (Pp n B (r.1 + 1)) = 60) = decide (Tm n B (r.1 + 1) = 20060) := bv_sign hb (r.1 + 1) 60 (by omega) rfl
      have z61 : decide (bv n B (Pp n B (r.1 + 1)) = 61) = decide (Tm n B (r.1 + 1) = 20061) := bv_sign hb (r.1 + 1) 61 (by omega) rfl
      have z62 : decide (bv n B (Pp n B (r.1 + 1)) = 62) = decide (Tm n B (r.1 + 1) = 20062) := bv_sign hb (r.1 + 1) 62 (by omega) rfl
      have sg : sem PGM (D + 5) yM_single (137, [some (.ref 91), some (.int (bI r.2)), none], [.int (bv n B (Pp n B (r.1 + 1)))], hM Z M2) = aftK (sem PGM (D + 5) yM_single) 0 (165, [some (.ref 91), some (.int (bI r.2)), some (.int (bv n B (Pp n B (r.1 + 1))))], [], hM Z M2) (call PGM (D + 5) yM_needs [.ref 91, .int (bI (isS (Tm n B (r.1 + 1))))] (hM Z M2)) := by
        rw [eM_single_137, z60, z61, z62, isS]
        cases decide (Tm n B (r.1 + 1) = 20060) <;> cases decide (Tm n B (r.1 + 1) = 20061) <;> cases decide (Tm n B (r.1 + 1) = 20062) <;> rfl
      rw [cM_sign (D + 4) Z hb q2, aft1, sg]
      cases i2 : isS (Tm n B (r.1 + 1)) with
      | false =>
        obtain ⟨M3, m1, q3⟩ := cM_needs0 (D + 4) Z q2
        have w3 := q3.2.2.2.2.1
        refine ⟨M3, s + 1, _, ?_, q3, fun z => by cases z⟩
        show aftK _ 0 _ (call PGM (D + 5) yM_needs [.ref 91, .int 0] (hM Z M2)) = _
        rw [m1, aft0, eM_single_165, cM_valueW (D + 4) Z w3, aft0, eM_single_169, cM_emitsW (D + 4) Z w3, aft0, wrong M3 178 _ (Or.inl rfl) w3]
      | true =>
        have lt2 := tk_S hE (by omega) i2
        obtain ⟨M3, m1, q3⟩ := cM_needs1 (D + 1) Z hb q2
        obtain ⟨M4, G4, x1, x2, x3⟩ := cM_value D Z hb q3 (by omega)
        show ∃ M' s' G', aftK _ 0 _ (call PGM (D + 5) yM_needs [.ref 91, .int 1] (hM Z M2)) = _ ∧ _
        rw [m1, aft0, eM_single_165, x1, aft0, eM_single_169]
        cases i3 : isV (Tm n B (r.1 + 1 + 1)) with
        | false =>
          have q4 := x3 i3
          have w4 := q4.2.2.2.2.1
          have i3' : isV (Tm n B (r.1 + 2)) = false := i3
          refine ⟨M4, s + 1 + 1, G4, ?_, q4, fun z => by cases z⟩
          rw [cM_emitsW (D + 4) Z w4, aft0, wrong M4 178 _ (Or.inl rfl) w4]
        | true =>
          have q4 := x2 i3
          have lt3 := tk_V hE (show r.1 + 1 + 1 ≤ c by omega) i3
          have i3' : isV (Tm n B (r.1 + 2)) = true := i3
          obtain ⟨l, hl, el⟩ := isV_n i1
          obtain ⟨v, hv, ev⟩ := isS_n i2
          obtain ⟨x, hx, ex⟩ := isV_n i3'
          have bvv : bv n B (Pp n B (r.1 + 1)) = nI (60 + v) := by
            have e3 : v = 0 ∨ v = 1 ∨ v = 2 := by omega
            rcases e3 with e | e | e <;> subst e
            · have : decide (bv n B (Pp n B (r.1 + 1)) = 60) = true := by rw [z60, ev]; decide
              exact of_decide_eq_true this
            · have : decide (bv n B (Pp n B (r.1 + 1)) = 61) = true := by rw [z61, ev]; decide
              exact of_decide_eq_true this
            · have : decide (bv n B (Pp n B (r.1 + 1)) = 62) = true := by rw [z62, ev]; decide
              exact of_decide_eq_true this
          have e20 : (10020 : Int32) + nI (60 + v) = nI (10080 + v) := by
            rw [show (10020 : Int32) = nI 10020 from rfl, nI_add]
            congr 1
            omega
          rw [cM_emits (D + 4) Z q4 (by omega), aft0, bvv, e20]
          have opv : opsM [(v, l, x)] = [nI l, nI x, nI (10080 + v)] := by
            show opM (v, l, x) ++ [] = _
            unfold opM
            rw [if_pos hv]
            rfl
          have cl : ((Tm n B (r.1 + 1)).toNatClampNeg - 20060, (Tm n B r.1).toNatClampNeg, (Tm n B (r.1 + 2)).toNatClampNeg) = (v, l, x) := by
            rw [el, ev, ex, nclamp (by omega), nclamp (by omega), nclamp (by omega), show 20060 + v - 20060 = v by omega]
          have q5 := QM_e q4 (nI (10080 + v))
          show ∃ M' s' G', _ = _ ∧ QM n B M0 M' (r.1 + 3) s' o (!true) G' ∧ (true = true → s' = s + opsN ([((Tm n B (r.1 + 1)).toNatClampNeg - 20060, (Tm n B r.1).toNatClampNeg, (Tm n B (r.1 + 2)).toNatClampNeg)] ++ ntL r.2) ∧ G' = wrL G s (opsM ([((Tm n B (r.1 + 1)).toNatClampNeg - 20060, (Tm n B r.1).toNatClampNeg, (Tm n B (r.1 + 2)).toNatClampNeg)] ++ ntL r.2)))
          rw [cl]
          refine turn _ (r.1 + 3) (s + 1 + 1 + 1) _ [(v, l, x)] 178 _ (Or.inl rfl) q5 (fun e => by have := nb e; omega) ?_ ?_
          · unfold opsN
            rw [opv]
            rfl
          · rw [opv, show Tm n B (r.1 + 1 + 1) = nI x from ex, el]
            rfl
  | true =>
    have lt := tk_lt hE n2 (of_decide_eq_true e1) (by decide)
    have z3 : decide ((3 : Int32) ≤ nI o) = !decide (o < 3) := by
      rw [show (3 : Int32) = nI 3 from rfl, dle (by omega) (by omega)]
      by_cases e : o < 3
      · simp [e]
      · simp [e]; omega
    have osub : nI (o + 1) - 1 = nI o := by rw [← nI_1, Int32.add_sub_cancel]
    rw [q1.2.2.1, z3, Bool.not_true, cond_false, cond_true]
    cases e2 : decide (o < 3) with
    | false =>
      obtain ⟨M2, m1, q2⟩ := cM_needs0 (D + 4) Z q1
      have q3 := QM_o q2 (o + 1)
      have w3 := q3.2.2.2.2.1
      have q4 := QM_o q3 o
      refine ⟨_, s, G, ?_, q4, fun z => by cases z⟩
      rw [Bool.not_false, cond_true, m1, aft0, eM_single_76, q2.2.2.1, nI_1, cM_conditionW (D + 1) Z w3, aft0, eM_single_90, cM_sign (D + 4) Z hb q3, aft1, eM_single_99, cM_needsW (D + 4) Z w3, cM_needsW (D + 4) Z w3, aft0, eM_single_112, q3.2.2.1, osub, wrong _ 122 _ (Or.inr rfl) q4.2.2.2.2.1]
      cases decide (bv n B (Pp n B r.1) = 41) <;> rfl
    | true =>
      have ho3 : o < 3 := of_decide_eq_true e2
      obtain ⟨M2, m1, q2⟩ := cM_needs1 (D + 1) Z hb q1
      have q3 := QM_o q2 (o + 1)
      obtain ⟨M4, s4, G4, x1, q4, x3⟩ := hf ho3 Z _ _ _ _ q3 (by omega) (by omega)
      have g := hg ho3 (r.1 + 1) (by omega)
      rw [Bool.not_true, cond_false, m1, aft0, eM_single_76, q2.2.2.1, nI_1, x1, aft0, eM_single_90, cond_true]
      generalize cn (r.1 + 1) = p at x1 q4 x3 g
      have z41 : decide (bv n B (Pp n B p.2.1) = 41) = decide (Tm n B p.2.1 = 20041) := bv_sign hb p.2.1 41 (by omega) rfl
      rw [cM_sign (D + 4) Z hb q4, aft1, eM_single_99, z41]
      cases e3 : p.1 with
      | false =>
        rw [e3] at q4
        have w4 := q4.2.2.2.2.1
        have q5 := QM_o q4 o
        refine ⟨_, s4, G4, ?_, q5, fun z => by cases z⟩
        rw [cM_needsW (D + 4) Z w4, cM_needsW (D + 4) Z w4, aft0, eM_single_112, q4.2.2.1, osub, wrong _ 122 _ (Or.inr rfl) q5.2.2.2.2.1]
        cases decide (Tm n B p.2.1 = 20041) <;> rfl
      | true =>
        rw [e3] at q4 x3 g
        obtain ⟨t1, t2⟩ := x3 rfl
        have g2 := (g.2.2 rfl).1
        rw [cond_true]
        cases e4 : decide (Tm n B p.2.1 = 20041) with
        | false =>
          obtain ⟨M5, m5, q5⟩ := cM_needs0 (D + 4) Z q4
          have q6 := QM_o q5 o
          refine ⟨_, s4, G4, ?_, q6, fun z => by cases z⟩
          rw [Bool.not_false, cond_true, m5, aft0, eM_single_112, q5.2.2.1, osub, wrong _ 122 _ (Or.inr rfl) q6.2.2.2.2.1]
        | true =>
          have lt2 := tk_lt hE g.2.1 (of_decide_eq_true e4) (by decide)
          obtain ⟨M5, m5, q5⟩ := cM_needs1 (D + 1) Z hb q4
          have q6 := QM_o q5 o
          rw [Bool.not_true, cond_false, m5, aft0, eM_single_112, q5.2.2.1, osub]
          exact turn _ (p.2.1 + 1) s4 G4 p.2.2 122 _ (Or.inr rfl) q6 (fun e => by have := nb e; omega) t1 t2
theorem cM_cond (D : Nat) (hb : tpM n B M0) (hP : Pp n B c = n) (hc : c ≤ 200) : ∀ o, o ≤ 3 → MSp n B c M0 (D + 3 * o + 8) yM_condition (3 - o) (cndP (Tm n B) c o)
  | 0, _ => by
    have hE := Tm_c hP
    have h1 := cM_single D hb hP hc (k := 0) (cn := fun a => (false, a, [])) 3 (by omega) (fun h => by omega) (fun h => by omega)
    have g1 : Gdd c 0 (oneP (Tm n B) c (fun a => (false, a, [])) false) := one_g hE false (fun h => by cases h)
    exact cM_condition (D + 3) hb hP hc (cM_every (D + 2) hb hP hc h1 g1) (all_g (k := 0) hE false (fun h => by cases h))
  | o + 1, ho => by
    have hE := Tm_c hP
    have ih := cM_cond D hb hP hc o (by omega)
    have gi := cnd_g hE o
    have e : 3 - o = 3 - (o + 1) + 1 := by omega
    rw [e] at ih
    have lt : 3 - (o + 1) < 3 := by omega
    have h1 := cM_single (D + 3 * o + 3) hb hP hc (3 - (o + 1)) (by omega) (fun _ => ih) (fun _ => gi)
    have et : decide (3 - (o + 1) < 3) = true := decide_eq_true lt
    rw [et] at h1
    have g1 := one_g hE true (fun _ => gi)
    have h2 := cM_every (D + 3 * o + 5) hb hP hc h1 g1
    have h3 := cM_condition (D + 3 * o + 6) hb hP hc h2 (all_g hE true (fun _ => gi))
    rw [show D + 3 * (o + 1) + 8 = D + 3 * o + 6 + 5 by omega]
    exact h3
end
