/-! The model reads CLAUSES, a TEXT. -/
section
variable {n : Nat} {B : Nat → Nat} {M0 : MS} {c : Nat}
theorem oc_102 (D : Nat) (Z : ZT) {M : MS} (h : M.2 7 = bI true) (i1 i2 i3 i4 : Int32) (u5 : Option Value) : sem PGM D yM_oneClause (102, [some (.ref 91), some (.int i1), some (.int i2), some (.int i3), some (.int i4), u5], [], hM Z M) = some (none, hM Z M) := by
  rw [eM_oneClause_102, h]
  rfl
theorem oc_B (D : Nat) (Z : ZT) (hb : tpM n B M0) {M : MS} {a s k : Nat} {G H : Nat → Int32} (h : YM n B M0 M a s k true G H) (i1 i2 i3 i4 : Int32) (u5 : Option Value) : aftK (sem PGM (D + 1) yM_oneClause) 1 (89, [some (.ref 91), some (.int i1), some (.int i2), some (.int i3), some (.int i4), u5], [.ref 91], hM Z M) (call PGM (D + 1) yM_byteAt [.ref 91, .int (M.2 2)] (hM Z M)) = some (none, hM Z M) := by
  have w := h.2.2.2.2.2.1
  rw [cM_sign D Z (YM_t hb h) (YM_Q h), aft1, eM_oneClause_89, cM_needsW D Z w, cM_needsW D Z w, aft0, oc_102 (D + 1) Z w]
  cases decide (bv n B (Pp n B a) = 59) <;> rfl
theorem oc_50 (D : Nat) (Z : ZT) (hb : tpM n B M0) {M : MS} {a s k : Nat} {G H : Nat → Int32} (h : YM n B M0 M a s k true G H) (i1 i2 i3 : Int32) (u5 : Option Value) : sem PGM (D + 1) yM_oneClause (50, [some (.ref 91), some (.int i1), some (.int i2), some (.int i3), none, u5], [], hM Z M) = some (none, hM Z M) := by
  have w := h.2.2.2.2.2.1
  rw [eM_oneClause_50, cM_isNameW D Z w, aft1, eM_oneClause_64]
  exact oc_B D Z hb h i1 i2 i3 0 u5
theorem oc_32 (D : Nat) (Z : ZT) (hb : tpM n B M0) {M : MS} {a s k : Nat} {G H : Nat → Int32} (h : YM n B M0 M a s k true G H) (i1 i2 : Int32) (u5 : Option Value) : sem PGM (D + 2) yM_oneClause (32, [some (.ref 91), some (.int i1), some (.int i2), none, none, u5], [], hM Z M) = some (none, hM Z M) := by
  have w := h.2.2.2.2.2.1
  have z : decide ((-1 : Int32) < 0) = true := by decide
  rw [eM_oneClause_32, cM_actHereW D Z w, aft1, eM_oneClause_36, z, cond_true, cM_needsW (D + 1) Z w, aft0]
  exact oc_50 (D + 1) Z hb h i1 i2 (-1) u5
theorem oc_end (D : Nat) (Z : ZT) (hb : tpM n B M0) {M : MS} {a s s' k : Nat} {G H : Nat → Int32} (h : YM n B M0 M a s' k false G H) (hk : k < 8) (w x : Nat) (bb : Bool) (l : List Op) (u5 : Option Value) : ∃ M', sem PGM D yM_oneClause (102, [some (.ref 91), some (.int (nI w)), some (.int (nI s)), some (.int (nI x)), some (.int (bI bb)), u5], [], hM Z M) = some (none, hM Z M') ∧ YM n B M0 M' a s' (k + 1) false G (wrC H k (w, x, bb, l) s s') := by
  have e5 : (5 : Int32) * nI k = nI (5 * k) := by rw [show (5 : Int32) = nI 5 from rfl, pk_mul]
  have ib : ∀ j, j < 5 → inb (nI (5 * k + j)) 40 = true := fun j hj => by rw [inb_nI (by omega)]; simp; omega
  have p1 : nI (5 * k) + 1 = nI (5 * k + 1) := nI_1 _
  have p2 : nI (5 * k) + 2 = nI (5 * k + 2) := by rw [show (2 : Int32) = nI 2 from rfl, nI_add]
  have p3 : nI (5 * k) + 3 = nI (5 * k + 3) := by rw [show (3 : Int32) = nI 3 from rfl, nI_add]
  have p4 : nI (5 * k) + 4 = nI (5 * k + 4) := by rw [show (4 : Int32) = nI 4 from rfl, nI_add]
  have y1 := YM_H h (upd H (5 * k) (nI w))
  have y2 := YM_H y1 (upd (upd H (5 * k) (nI w)) (5 * k + 1) (nI x))
  have y3 := YM_H y2 (upd (upd (upd H (5 * k) (nI w)) (5 * k + 1) (nI x)) (5 * k + 2) (bI bb))
  have y4 := YM_H y3 (upd (upd (upd (upd H (5 * k) (nI w)) (5 * k + 1) (nI x)) (5 * k + 2) (bI bb)) (5 * k + 3) (nI s))
  have y5 := YM_H y4 (wrC H k (w, x, bb, l) s s')
  refine ⟨_, ?_, YM_k y5 (k + 1)⟩
  have i0 : inb (nI (5 * k)) 40 = true := ib 0 (by omega)
  rw [eM_oneClause_102, h.2.2.2.2.2.1, h.2.2.2.2.1, e5, i0, nclamp (by omega), h.2.2.2.2.2.2.2.1]
  show sem PGM D yM_oneClause (125, _, [], hM Z (mA M 5 (upd H (5 * k) (nI w)))) = _
  rw [eM_oneClause_125, p1, ib 1 (by omega), nclamp (by omega), y1.2.2.2.2.2.2.2.1, cond_true, eM_oneClause_135, p2, ib 2 (by omega), nclamp (by omega), y2.2.2.2.2.2.2.2.1, cond_true]
  have bb' : (bif decide (bI bb = 0) then sem PGM D yM_oneClause (154, [some (.ref 91), some (.int (nI w)), some (.int (nI s)), some (.int (nI x)), some (.int (bI bb)), some (.int (nI (5 * k)))], [], hM Z (mA (mA (mA M 5 (upd H (5 * k) (nI w))) 5 (upd (upd H (5 * k) (nI w)) (5 * k + 1) (nI x))) 5 (upd (upd (upd H (5 * k) (nI w)) (5 * k + 1) (nI x)) (5 * k + 2) 0))) else sem PGM D yM_oneClause (154, [some (.ref 91), some (.int (nI w)), some (.int (nI s)), some (.int (nI x)), some (.int (bI bb)), some (.int (nI (5 * k)))], [], hM Z (mA (mA (mA M 5 (upd H (5 * k) (nI w))) 5 (upd (upd H (5 * k) (nI w)) (5 * k + 1) (nI x))) 5 (upd (upd (upd H (5 * k) (nI w)) (5 * k + 1) (nI x)) (5 * k + 2) 1)))) = sem PGM D yM_oneClause (154, [some (.ref 91), some (.int (nI w)), some (.int (nI s)), some (.int (nI x)), some (.int (bI bb)), some (.int (nI (5 * k)))], [], hM Z (mA (mA (mA M 5 (upd H (5 * k) (nI w))) 5 (upd (upd H (5 * k) (nI w)) (5 * k + 1) (nI x))) 5 (upd (upd (upd H (5 * k) (nI w)) (5 * k + 1) (nI x)) (5 * k + 2) (bI bb)))) := by
    cases bb <;> rfl
  rw [cond_true, bb', eM_oneClause_154, p3, ib 3 (by omega), nclamp (by omega), y3.2.2.2.2.2.2.2.1, cond_true, eM_oneClause_164, p4, ib 4 (by omega), nclamp (by omega), y4.2.2.2.2.2.2.2.1, y4.2.2.2.1, cond_true, eM_oneClause_177]
  have := y5.2.2.2.2.1
  unfold wrC at this ⊢
  rw [this, nI_1]
def oneR (T : Nat → Int32) (c k a : Nat) : PC := bif decide (k < 8) then clsP T c a else (false, a, ce0)
theorem cM_oneClause (D : Nat) (Z : ZT) (hb : tpM n B M0) (hP : Pp n B c = n) (hc : c ≤ 200) {M : MS} {a s k : Nat} {G H : Nat → Int32} (h : YM n B M0 M a s k false G H) (ha : a ≤ c) (hs : s ≤ a) (hk : k ≤ 8) : ∃ M' s' k' G' H', call PGM (D + 18) yM_oneClause [.ref 91] (hM Z M) = some (none, hM Z M') ∧ YM n B M0 M' (oneR (Tm n B) c k a).2.1 s' k' (!(oneR (Tm n B) c k a).1) G' H' ∧ ((oneR (Tm n B) c k a).1 = true → k' = k + 1 ∧ s' = s + opsN (oneR (Tm n B) c k a).2.2.2.2.2 ∧ G' = wrL G s (opsM (oneR (Tm n B) c k a).2.2.2.2.2) ∧ H' = wrC H k (oneR (Tm n B) c k a).2.2 s s') := by
  have hE := Tm_c hP
  have hbM := YM_t hb h
  have q0 := YM_Q h
  have k8 : decide ((8 : Int32) ≤ nI k) = !decide (k < 8) := by
    rw [show (8 : Int32) = nI 8 from rfl, dle (by omega) (by omega)]
    by_cases e : k < 8
    · simp [e]
    · simp [e]; omega
  have n0 := cM_needs0 (D + 16) Z q0
  -- wrong from the first on
  have bad : ∀ i1 : Int32, ∃ M' s' k' G' H', aftK (sem PGM (D + 17) yM_oneClause) 0 (32, [some (.ref 91), some (.int i1), some (.int (nI s)), none, none, none], [], hM Z M) (call PGM (D + 17) yM_needs [.ref 91, .int 0] (hM Z M)) = some (none, hM Z M') ∧ YM n B M0 M' a s' k' true G' H' := by
    intro i1
    obtain ⟨M1, m1, q1⟩ := n0
    have y1 := YM_b h q1
    refine ⟨M1, s, k, G, H, ?_, y1⟩
    rw [m1, aft0]
    exact oc_32 (D + 15) Z hb y1 i1 (nI s) none
  rw [kM_oneClause, eM_oneClause_0, cM_whoHere (D + 13) Z hbM q0, aft1, eM_oneClause_4, h.2.2.2.1, h.2.2.2.2.1, k8]
  unfold oneR
  rcases whoI_c (Tm n B a) with ⟨w, hw, ew, iw, bw⟩ | ⟨bw, iw⟩
  · have y : decide (nI w < 0) = false := by rw [l0, dlt (by omega) (by omega)]; simp
    rw [iw, y, cond_false]
    cases e8 : decide (k < 8) with
    | false =>
      obtain ⟨M', s', k', G', H', b1, b2⟩ := bad (nI w)
      exact ⟨M', s', k', G', H', b1, b2, fun z => by cases z⟩
    | true =>
      have hk8 : k < 8 := of_decide_eq_true e8
      have l1 := tk_W hE ha bw
      obtain ⟨M1, m1, q1⟩ := cM_needs1 (D + 13) Z hbM q0
      have y1 := YM_b h q1
      have hb1 := YM_t hb y1
      have q1' := YM_Q y1
      have cw : (Tm n B a).toNatClampNeg - 10006 = w := by rw [ew, nclamp (by omega), Nat.add_sub_cancel_left]
      rw [Bool.not_true, cond_false, m1, aft0, eM_oneClause_32, cM_actHere (D + 13) Z hb1 q1', aft1, eM_oneClause_36, cond_true]
      unfold clsP
      rw [bw, cond_true]
      rcases actI_c (Tm n B (a + 1)) with ⟨x, hx, ex, ix, bx⟩ | ⟨bx, ix⟩
      · have y' : decide (nI x < 0) = false := by rw [l0, dlt (by omega) (by omega)]; simp
        have l2 := tk_A hE (by omega) bx
        obtain ⟨M2, m2, q2⟩ := cM_needs1 (D + 13) Z hb1 q1'
        have y2 := YM_b y1 q2
        have hb2 := YM_t hb y2
        have q2' := YM_Q y2
        have cx : (Tm n B (a + 1)).toNatClampNeg - 10014 = x := by rw [ex, nclamp (by omega), Nat.add_sub_cancel_left]
        have nm : call PGM (D + 17) yM_isName [.ref 91, .int 105, .int 102, .int 0, .int 0, .int 0, .int 0, .int 0, .int 0] (hM Z M2) = some (some (.int (bI (!false && decide (Tm n B (a + 2) = 10018)))), hM Z M2) := cM_name (D + 14) Z hb2 q2' 18 (by omega)
        rw [ix, y', cond_false, m2, aft0, eM_oneClause_50, nm, aft1, eM_oneClause_64, bI_0, bx, cond_true]
        -- the end
        have en : ∀ (M3 : MS) (b s3 : Nat) (G3 : Nat → Int32) (bb : Bool) (l : List Op), YM n B M0 M3 b s3 k false G3 H → s3 = s + opsN l → G3 = wrL G s (opsM l) → ∃ M' s' k' G' H', aftK (sem PGM (D + 17) yM_oneClause) 1 (89, [some (.ref 91), some (.int (nI w)), some (.int (nI s)), some (.int (nI x)), some (.int (bI bb)), none], [.ref 91], hM Z M3) (call PGM (D + 17) yM_byteAt [.ref 91, .int (M3.2 2)] (hM Z M3)) = some (none, hM Z M') ∧ YM n B M0 M' (clE (Tm n B) a b bb l).2.1 s' k' (!(clE (Tm n B) a b bb l).1) G' H' ∧ ((clE (Tm n B) a b bb l).1 = true → k' = k + 1 ∧ s' = s + opsN (clE (Tm n B) a b bb l).2.2.2.2.2 ∧ G' = wrL G s (opsM (clE (Tm n B) a b bb l).2.2.2.2.2) ∧ H' = wrC H k (clE (Tm n B) a b bb l).2.2 s s') := by
          intro M3 b s3 G3 bb l hy e1 e2
          have hb3 := YM_t hb hy
          have q3 := YM_Q hy
          have z59 : decide (bv n B (Pp n B b) = 59) = decide (Tm n B b = 20059) := bv_sign hb b 59 (by omega) rfl
          rw [cM_sign (D + 16) Z hb3 q3, aft1, eM_oneClause_89, z59]
          unfold clE
          cases h5 : decide (Tm n B b = 20059) with
          | false =>
            obtain ⟨M4, m4, q4⟩ := cM_needs0 (D + 16) Z q3
            have y4 := YM_b hy q4
            refine ⟨M4, s3, k, G3, H, ?_, y4, fun z => by cases z⟩
            rw [Bool.not_false, cond_true, m4, aft0]
            exact oc_102 (D + 17) Z y4.2.2.2.2.2.1 _ _ _ _ _
          | true =>
            obtain ⟨M4, m4, q4⟩ := cM_needs1 (D + 13) Z hb3 q3
            have y4 := YM_b hy q4
            obtain ⟨M5, m5, y5⟩ := oc_end (D + 17) Z hb (s := s) y4 hk8 w x bb l none
            refine ⟨M5, s3, k + 1, G3, _, ?_, y5, fun _ => ⟨rfl, e1, e2, ?_⟩⟩
            · rw [Bool.not_true, cond_false, m4, aft0]
              exact m5
            · show _ = wrC H k ((Tm n B a).toNatClampNeg - 10006, (Tm n B (a + 1)).toNatClampNeg - 10014, bb, l) s s3
              rw [cw, cx]
        cases h3 : decide (Tm n B (a + 2) = 10018) with
        | false => exact en M2 (a + 2) s G false [] y2 rfl rfl
        | true =>
          have l3 := tk_lt hE (show a + 2 ≤ c by omega) (of_decide_eq_true h3) (by decide)
          obtain ⟨M3, m3, q3⟩ := cM_needs1 (D + 13) Z hb2 q2'
          have y3 := YM_b y2 q3
          have hb3 := YM_t hb y3
          have q3' := YM_Q y3
          have cc := cM_cond D hb3 hP hc 3 (by omega)
          obtain ⟨M4, s4, G4, c1, c2, c3⟩ := cc Z _ _ _ _ q3' (show a + 2 + 1 ≤ c by omega) (show s + 3 ≤ a + 2 + 1 by omega)
          have y4 := YM_b y3 c2
          show ∃ M' s' k' G' H', aftK _ 0 _ (call PGM (D + 17) yM_needs [.ref 91, .int 1] (hM Z M2)) = _ ∧ _
          rw [m3, aft0, eM_oneClause_76, c1, aft0, eM_oneClause_80]
          show ∃ M' s' k' G' H', _ ∧ YM n B M0 M' (bif (cndP (Tm n B) c 3 (a + 2 + 1)).1 then clE (Tm n B) a (cndP (Tm n B) c 3 (a + 2 + 1)).2.1 true (cndP (Tm n B) c 3 (a + 2 + 1)).2.2 else (false, (cndP (Tm n B) c 3 (a + 2 + 1)).2.1, ce0)).2.1 s' k' (!(bif (cndP (Tm n B) c 3 (a + 2 + 1)).1 then clE (Tm n B) a (cndP (Tm n B) c 3 (a + 2 + 1)).2.1 true (cndP (Tm n B) c 3 (a + 2 + 1)).2.2 else (false, (cndP (Tm n B) c 3 (a + 2 + 1)).2.1, ce0)).1) G' H' ∧ ((bif (cndP (Tm n B) c 3 (a + 2 + 1)).1 then clE (Tm n B) a (cndP (Tm n B) c 3 (a + 2 + 1)).2.1 true (cndP (Tm n B) c 3 (a + 2 + 1)).2.2 else (false, (cndP (Tm n B) c 3 (a + 2 + 1)).2.1, ce0)).1 = true → k' = k + 1 ∧ s' = s + opsN (bif (cndP (Tm n B) c 3 (a + 2 + 1)).1 then clE (Tm n B) a (cndP (Tm n B) c 3 (a + 2 + 1)).2.1 true (cndP (Tm n B) c 3 (a + 2 + 1)).2.2 else (false, (cndP (Tm n B) c 3 (a + 2 + 1)).2.1, ce0)).2.2.2.2.2 ∧ G' = wrL G s (opsM (bif (cndP (Tm n B) c 3 (a + 2 + 1)).1 then clE (Tm n B) a (cndP (Tm n B) c 3 (a + 2 + 1)).2.1 true (cndP (Tm n B) c 3 (a + 2 + 1)).2.2 else (false, (cndP (Tm n B) c 3 (a + 2 + 1)).2.1, ce0)).2.2.2.2.2) ∧ H' = wrC H k (bif (cndP (Tm n B) c 3 (a + 2 + 1)).1 then clE (Tm n B) a (cndP (Tm n B) c 3 (a + 2 + 1)).2.1 true (cndP (Tm n B) c 3 (a + 2 + 1)).2.2 else (false, (cndP (Tm n B) c 3 (a + 2 + 1)).2.1, ce0)).2.2 s s')
          generalize cndP (Tm n B) c 3 (a + 2 + 1) = p at c2 c3 y4
          cases h4 : p.1 with
          | false =>
            rw [h4] at y4
            exact ⟨M4, s4, k, G4, H, oc_B (D + 16) Z hb y4 _ _ _ _ _, y4, fun z => by cases z⟩
          | true =>
            rw [h4] at y4 c3
            obtain ⟨t1, t2⟩ := c3 rfl
            exact en M4 p.2.1 s4 G4 true p.2.2 y4 t1 t2
      · have y' : decide ((-1 : Int32) < 0) = true := by decide
        obtain ⟨M2, m2, q2⟩ := cM_needs0 (D + 16) Z q1'
        have y2 := YM_b y1 q2
        rw [ix, y', cond_true, m2, aft0, bx]
        exact ⟨M2, s, k, G, H, oc_50 (D + 16) Z hb y2 _ _ _ _, y2, fun z => by cases z⟩
  · have y : decide ((-1 : Int32) < 0) = true := by decide
    obtain ⟨M', s', k', G', H', b1, b2⟩ := bad (-1)
    have cl : (bif decide (k < 8) then clsP (Tm n B) c a else (false, a, ce0)) = (false, a, ce0) := by
      unfold clsP
      rw [bw]
      cases decide (k < 8) <;> rfl
    rw [iw, y, cond_true, cl]
    exact ⟨M', s', k', G', H', b1, b2, fun z => by cases z⟩
end
