/-! CLAUSES; how the class reads them. -/
def whoB (t : Int32) : Bool := !decide (t < 10006) && decide (t < 10014)
def actB (t : Int32) : Bool := !decide (t < 10014) && decide (t < 10018)
abbrev CE : Type := Nat × Nat × Bool × List Op
abbrev PC : Type := Bool × Nat × CE
def ce0 : CE := (0, 0, false, [])
def clE (T : Nat → Int32) (a0 a : Nat) (b : Bool) (l : List Op) : PC := bif decide (T a = 20059) then (true, a + 1, ((T a0).toNatClampNeg - 10006, (T (a0 + 1)).toNatClampNeg - 10014, b, l)) else (false, a, ce0)
def clsP (T : Nat → Int32) (c a : Nat) : PC := bif whoB (T a) then (bif actB (T (a + 1)) then (bif decide (T (a + 2) = 10018) then (bif (cndP T c 3 (a + 3)).1 then clE T a (cndP T c 3 (a + 3)).2.1 true (cndP T c 3 (a + 3)).2.2 else (false, (cndP T c 3 (a + 3)).2.1, ce0)) else clE T a (a + 2) false []) else (false, a + 1, ce0)) else (false, a, ce0)
theorem rg_n {t : Int32} {lo hi : Nat} (hl : lo < 2147483648) (hh : hi < 2147483648) (h : (!decide (t < nI lo) && decide (t < nI hi)) = true) : ∃ v, lo ≤ v ∧ v < hi ∧ t = nI v := by
  rw [Bool.and_eq_true, Bool.not_eq_true', decide_eq_false_iff_not, decide_eq_true_eq] at h
  have h1 := h.1
  have h2 := Int32.lt_iff_toInt_lt.mp h.2
  rw [Int32.lt_iff_toInt_lt, nI_toInt hl] at h1
  rw [nI_toInt hh] at h2
  refine ⟨t.toInt.toNat, by omega, by omega, ?_⟩
  apply Int32.toInt_inj.mp
  rw [nI_toInt (by omega)]
  omega
theorem whoB_n {t : Int32} (h : whoB t = true) : ∃ v, v < 8 ∧ t = nI (10006 + v) := by
  obtain ⟨v, h1, h2, e⟩ := rg_n (t := t) (lo := 10006) (hi := 10014) (by omega) (by omega) h
  exact ⟨v - 10006, by omega, by rw [e, Nat.add_sub_cancel' h1]⟩
theorem actB_n {t : Int32} (h : actB t = true) : ∃ v, v < 4 ∧ t = nI (10014 + v) := by
  obtain ⟨v, h1, h2, e⟩ := rg_n (t := t) (lo := 10014) (hi := 10018) (by omega) (by omega) h
  exact ⟨v - 10014, by omega, by rw [e, Nat.add_sub_cancel' h1]⟩
theorem whoB_e : whoB (-1) = false := by decide
theorem actB_e : actB (-1) = false := by decide
theorem tk_W {T : Nat → Int32} {c : Nat} (hT : T c = -1) {a : Nat} (ha : a ≤ c) (h : whoB (T a) = true) : a < c := by
  by_cases e : a = c
  · rw [e, hT, whoB_e] at h; cases h
  · omega
theorem tk_A {T : Nat → Int32} {c : Nat} (hT : T c = -1) {a : Nat} (ha : a ≤ c) (h : actB (T a) = true) : a < c := by
  by_cases e : a = c
  · rw [e, hT, actB_e] at h; cases h
  · omega
/-- a CLAUSE as it should be -/
def okC' (e : CE) : Prop := e.1 < 8 ∧ e.2.1 < 4 ∧ (e.2.2.1 = true → okS e.2.2.2 0) ∧ (e.2.2.1 = false → e.2.2.2 = [])
theorem cls_g {T : Nat → Int32} {c : Nat} (hT : T c = -1) (a : Nat) (ha : a ≤ c) : a ≤ (clsP T c a).2.1 ∧ (clsP T c a).2.1 ≤ c ∧ ((clsP T c a).1 = true → a + 3 + opsN (clsP T c a).2.2.2.2.2 ≤ (clsP T c a).2.1 ∧ okC' (clsP T c a).2.2) := by
  unfold clsP
  cases h1 : whoB (T a) with
  | false => exact ⟨Nat.le_refl _, ha, fun z => by cases z⟩
  | true =>
    have l1 := tk_W hT ha h1
    cases h2 : actB (T (a + 1)) with
    | false => exact ⟨by show a ≤ a + 1; omega, by show a + 1 ≤ c; omega, fun z => by cases z⟩
    | true =>
      have l2 := tk_A hT (by omega) h2
      obtain ⟨w, hw, ew⟩ := whoB_n h1
      obtain ⟨x, hx, ex⟩ := actB_n h2
      have cw : (T a).toNatClampNeg - 10006 = w := by rw [ew, nclamp (by omega), Nat.add_sub_cancel_left]
      have cx : (T (a + 1)).toNatClampNeg - 10014 = x := by rw [ex, nclamp (by omega), Nat.add_sub_cancel_left]
      -- the end
      have en : ∀ (b : Nat) (bb : Bool) (l : List Op), a + 2 + opsN l ≤ b → b ≤ c → (bb = true → okS l 0) → (bb = false → l = []) → a ≤ (clE T a b bb l).2.1 ∧ (clE T a b bb l).2.1 ≤ c ∧ ((clE T a b bb l).1 = true → a + 3 + opsN (clE T a b bb l).2.2.2.2.2 ≤ (clE T a b bb l).2.1 ∧ okC' (clE T a b bb l).2.2) := by
        intro b bb l hb hbc ho hn
        unfold clE
        cases h3 : decide (T b = 20059) with
        | false => exact ⟨by show a ≤ b; omega, hbc, fun z => by cases z⟩
        | true =>
          have l3 := tk_lt hT hbc (of_decide_eq_true h3) (by decide)
          refine ⟨by show a ≤ b + 1; omega, by show b + 1 ≤ c; omega, fun _ => ⟨by show a + 3 + opsN l ≤ b + 1; omega, ?_⟩⟩
          show okC' ((T a).toNatClampNeg - 10006, (T (a + 1)).toNatClampNeg - 10014, bb, l)
          rw [cw, cx]
          exact ⟨hw, hx, ho, hn⟩
      cases h3 : decide (T (a + 2) = 10018) with
      | false => exact en (a + 2) false [] (Nat.le_refl _) (by omega) (fun z => by cases z) (fun _ => rfl)
      | true =>
        have l3 := tk_lt hT (show a + 2 ≤ c by omega) (of_decide_eq_true h3) (by decide)
        have g := cnd_g hT 3 (a + 3) (by omega)
        generalize cndP T c 3 (a + 3) = p at g
        cases h4 : p.1 with
        | false => exact ⟨by show a ≤ p.2.1; omega, g.2.1, fun z => by cases z⟩
        | true =>
          rw [h4] at g
          have g2 := g.2.2 rfl
          refine en p.2.1 true p.2.2 (by omega) g.2.1 (fun _ => ?_) (fun z => by cases z)
          have := g2.2 0 [] (by omega) rfl
          rw [List.append_nil] at this
          exact this
def RX (X0 X : XS) (a k u : Nat) (F fw fa fe : Nat → Int32) : Prop := X.2.1 3 = nI a ∧ X.2.1 4 = nI k ∧ X.2.1 5 = nI u ∧ X.1 7 = F ∧ X.1 4 = fw ∧ X.1 5 = fa ∧ X.1 6 = fe ∧ (∀ j, j ≠ 4 → j ≠ 5 → j ≠ 6 → j ≠ 7 → X.1 j = X0.1 j) ∧ (∀ j, j ≠ 3 → j ≠ 4 → j ≠ 5 → X.2.1 j = X0.2.1 j) ∧ X.2.2 = X0.2.2
section
variable {T : Nat → Int32} {c : Nat} {X0 : XS}
theorem RX_t {X : XS} {a k u : Nat} {F fw fa fe : Nat → Int32} (hT : tkX T c X0) (h : RX X0 X a k u F fw fa fe) : tkX T c X := by
  obtain ⟨h1, h2, h3, h4, h5, h6, h7, h8, h9, h10⟩ := h
  exact ⟨(h9 2 (by omega) (by omega) (by omega)).trans hT.1, hT.2.1, by rw [h8 1 (by omega) (by omega) (by omega) (by omega)]; exact hT.2.2.1, hT.2.2.2⟩
theorem RX_Q {X : XS} {a k u : Nat} {F fw fa fe : Nat → Int32} (h : RX X0 X a k u F fw fa fe) : QX X X a u F := ⟨h.1, h.2.2.1, h.2.2.2.1, fun _ _ => rfl, fun _ _ _ => rfl, rfl⟩
theorem RX_b {X X' : XS} {a a' k u u' : Nat} {F F' fw fa fe : Nat → Int32} (h : RX X0 X a k u F fw fa fe) (q : QX X X' a' u' F') : RX X0 X' a' k u' F' fw fa fe := by
  obtain ⟨h1, h2, h3, h4, h5, h6, h7, h8, h9, h10⟩ := h
  obtain ⟨q1, q2, q3, q4, q5, q6⟩ := q
  exact ⟨q1, (q5 4 (by omega) (by omega)).trans h2, q2, q3, (q4 4 (by omega)).trans h5, (q4 5 (by omega)).trans h6, (q4 6 (by omega)).trans h7, fun j j4 j5 j6 j7 => (q4 j j7).trans (h8 j j4 j5 j6 j7), fun j j3 j4 j5 => (q5 j j3 j5).trans (h9 j j3 j4 j5), q6.trans h10⟩
theorem RX_at {X : XS} {a k u : Nat} {F fw fa fe : Nat → Int32} (h : RX X0 X a k u F fw fa fe) (a' : Nat) : RX X0 (xV X 3 (nI a')) a' k u F fw fa fe := RX_b h (QX_at (RX_Q h) a')
theorem RX_w {X : XS} {a k u : Nat} {F fw fa fe : Nat → Int32} (h : RX X0 X a k u F fw fa fe) (f : Nat → Int32) : RX X0 (xA X 4 f) a k u F f fa fe := by
  obtain ⟨h1, h2, h3, h4, h5, h6, h7, h8, h9, h10⟩ := h
  exact ⟨h1, h2, h3, by rw [xA_n (by omega)]; exact h4, xA_s _ _ _, by rw [xA_n (by omega)]; exact h6, by rw [xA_n (by omega)]; exact h7, fun j j4 j5 j6 j7 => by rw [xA_n j4]; exact h8 j j4 j5 j6 j7, h9, h10⟩
theorem RX_a {X : XS} {a k u : Nat} {F fw fa fe : Nat → Int32} (h : RX X0 X a k u F fw fa fe) (f : Nat → Int32) : RX X0 (xA X 5 f) a k u F fw f fe := by
  obtain ⟨h1, h2, h3, h4, h5, h6, h7, h8, h9, h10⟩ := h
  exact ⟨h1, h2, h3, by rw [xA_n (by omega)]; exact h4, by rw [xA_n (by omega)]; exact h5, xA_s _ _ _, by rw [xA_n (by omega)]; exact h7, fun j j4 j5 j6 j7 => by rw [xA_n j5]; exact h8 j j4 j5 j6 j7, h9, h10⟩
theorem RX_e {X : XS} {a k u : Nat} {F fw fa fe : Nat → Int32} (h : RX X0 X a k u F fw fa fe) (f : Nat → Int32) : RX X0 (xA X 6 f) a k u F fw fa f := by
  obtain ⟨h1, h2, h3, h4, h5, h6, h7, h8, h9, h10⟩ := h
  exact ⟨h1, h2, h3, by rw [xA_n (by omega)]; exact h4, by rw [xA_n (by omega)]; exact h5, by rw [xA_n (by omega)]; exact h6, xA_s _ _ _, fun j j4 j5 j6 j7 => by rw [xA_n j6]; exact h8 j j4 j5 j6 j7, h9, h10⟩
theorem cR_clause (D : Nat) (Z : WT) (hT : tkX T c X0) {X : XS} {a k u : Nat} {F fw fa fe : Nat → Int32} (h : RX X0 X a k u F fw fa fe) (ha : a ≤ c) (hk : k < 8) (hu : u ≤ a) : ∃ X' u' F' fw' fa' fe', call PGM (D + 15) yR_clause [.ref 14] (hR Z X) = some (some (.int (bI (clsP T c a).1)), hR Z X') ∧ RX X0 X' (clsP T c a).2.1 k u' F' fw' fa' fe' ∧ ((clsP T c a).1 = true → u' = u + (clsP T c a).2.2.2.2.2.length ∧ F' = wrO F u (clsP T c a).2.2.2.2.2 ∧ fw' = upd fw k (nI (clsP T c a).2.2.1) ∧ fa' = upd fa k (nI (clsP T c a).2.2.2.1) ∧ fe' = upd fe k (nI u')) := by
  have hE := hT.2.2.2
  have i8 : inb (nI k) 8 = true := by rw [inb_nI (by omega)]; simp; omega
  have nk : (nI k).toNatClampNeg = k := nclamp (by omega)
  rw [kR_clause, eR_clause_0, cR_token (D + 13) Z (RX_t hT h) (RX_Q h) ha, aft1, eR_clause_4, cR_token (D + 13) Z (RX_t hT h) (RX_Q h) ha, aft1, eR_clause_14, cR_token (D + 13) Z (RX_t hT h) (RX_Q h) ha, aft1, eR_clause_34, h.2.1, i8, nk]
  unfold clsP
  cases h1 : whoB (T a) with
  | false =>
    refine ⟨X, u, F, fw, fa, fe, ?_, h, fun z => by cases z⟩
    unfold whoB at h1
    revert h1
    cases decide (T a < 10006) <;> cases decide (T a < 10014) <;> intro h1 <;> first | rfl | cases h1
  | true =>
    have l1 := tk_W hE ha h1
    obtain ⟨w, hw, ew⟩ := whoB_n h1
    have y1 : decide (T a < 10006) = false := by unfold whoB at h1; revert h1; cases decide (T a < 10006) <;> simp
    have y2 : decide (T a < 10014) = true := by unfold whoB at h1; revert h1; cases decide (T a < 10014) <;> simp
    have sw : T a - 10006 = nI w := by
      rw [ew, show nI (10006 + w) = nI w + nI 10006 by rw [nI_add, Nat.add_comm]]
      show nI w + nI 10006 - nI 10006 = nI w
      rw [Int32.add_sub_cancel]
    have cw : (T a).toNatClampNeg - 10006 = w := by rw [ew, nclamp (by omega), Nat.add_sub_cancel_left]
    have r1 := RX_w h (upd fw k (nI w))
    have r2 := RX_at r1 (a + 1)
    rw [y1, y2, sw, h.2.2.2.2.1]
    simp only [cond_true, cond_false]
    rw [cR_pass (D + 13) Z (RX_t hT r1) (RX_Q r1) l1, aft0, eR_clause_43, cR_token (D + 13) Z (RX_t hT r2) (RX_Q r2) (by omega), aft1, eR_clause_47, cR_token (D + 13) Z (RX_t hT r2) (RX_Q r2) (by omega), aft1, eR_clause_57, cR_token (D + 13) Z (RX_t hT r2) (RX_Q r2) (by omega), aft1, eR_clause_77, r2.2.1, i8, nk]
    cases h2 : actB (T (a + 1)) with
    | false =>
      refine ⟨_, u, F, _, fa, fe, ?_, r2, fun z => by cases z⟩
      unfold actB at h2
      revert h2
      cases decide (T (a + 1) < 10014) <;> cases decide (T (a + 1) < 10018) <;> intro h2 <;> first | rfl | cases h2
    | true =>
      have l2 := tk_A hE (by omega) h2
      obtain ⟨x, hx, ex⟩ := actB_n h2
      have y3 : decide (T (a + 1) < 10014) = false := by unfold actB at h2; revert h2; cases decide (T (a + 1) < 10014) <;> simp
      have y4 : decide (T (a + 1) < 10018) = true := by unfold actB at h2; revert h2; cases decide (T (a + 1) < 10018) <;> simp
      have sx : T (a + 1) - 10014 = nI x := by
        rw [ex, show nI (10014 + x) = nI x + nI 10014 by rw [nI_add, Nat.add_comm]]
        show nI x + nI 10014 - nI 10014 = nI x
        rw [Int32.add_sub_cancel]
      have cx : (T (a + 1)).toNatClampNeg - 10014 = x := by rw [ex, nclamp (by omega), Nat.add_sub_cancel_left]
      have r3 := RX_a r2 (upd fa k (nI x))
      have r4 := RX_at r3 (a + 2)
      rw [y3, y4, sx, r2.2.2.2.2.2.1]
      simp only [cond_true, cond_false]
      rw [cR_pass (D + 13) Z (RX_t hT r3) (RX_Q r3) l2, aft0, eR_clause_86, cR_passes (D + 13) Z (RX_t hT r4) (RX_Q r4) (by omega) 10018 (by decide)]
      -- the end
      have en : ∀ (X2 : XS) (b u2 : Nat) (F2 : Nat → Int32) (bb : Bool) (l : List Op), RX X0 X2 b k u2 F2 (upd fw k (nI w)) (upd fa k (nI x)) fe → b ≤ c → u2 = u + l.length → F2 = wrO F u l → ∃ X' u' F' fw' fa' fe', aftK (sem PGM (D + 14) yR_clause) 1 (126, [some (.ref 14)], [], hR Z (xA X2 6 (upd (X2.1 6) k (X2.2.1 5)))) (call PGM (D + 14) yR_passes [.ref 14, .int 20059] (hR Z (xA X2 6 (upd (X2.1 6) k (X2.2.1 5))))) = some (some (.int (bI (clE T a b bb l).1)), hR Z X') ∧ RX X0 X' (clE T a b bb l).2.1 k u' F' fw' fa' fe' ∧ ((clE T a b bb l).1 = true → u' = u + (clE T a b bb l).2.2.2.2.2.length ∧ F' = wrO F u (clE T a b bb l).2.2.2.2.2 ∧ fw' = upd fw k (nI (clE T a b bb l).2.2.1) ∧ fa' = upd fa k (nI (clE T a b bb l).2.2.2.1) ∧ fe' = upd fe k (nI u')) := by
        intro X2 b u2 F2 bb l hr hb e1 e2
        have r5 := RX_e hr (upd (X2.1 6) k (X2.2.1 5))
        have r5' : RX X0 (xA X2 6 (upd (X2.1 6) k (X2.2.1 5))) b k u2 F2 (upd fw k (nI w)) (upd fa k (nI x)) (upd fe k (nI u2)) := by
          rw [hr.2.2.2.2.2.2.1, hr.2.2.1] at r5 ⊢
          exact r5
        rw [cR_passes (D + 13) Z (RX_t hT r5') (RX_Q r5') hb 20059 (by decide)]
        unfold clE
        cases h5 : decide (T b = 20059) with
        | false =>
          refine ⟨_, u2, F2, _, _, _, ?_, r5', fun z => by cases z⟩
          rw [cond_false, aft1, eR_clause_126]
          rfl
        | true =>
          refine ⟨_, u2, F2, _, _, _, ?_, RX_at r5' (b + 1), fun _ => ⟨e1, e2, ?_, ?_, rfl⟩⟩
          · rw [cond_true, aft1, eR_clause_126]
            rfl
          · show _ = upd fw k (nI ((T a).toNatClampNeg - 10006))
            rw [cw]
          · show _ = upd fa k (nI ((T (a + 1)).toNatClampNeg - 10014))
            rw [cx]
      cases h3 : decide (T (a + 2) = 10018) with
      | false =>
        rw [cond_false, cond_false, aft1, eR_clause_93, r4.2.1, i8, nk]
        exact en _ (a + 2) u F false [] r4 (by omega) rfl rfl
      | true =>
        have l3 := tk_lt hE (show a + 2 ≤ c by omega) (of_decide_eq_true h3) (by decide)
        have r5 := RX_at r4 (a + 3)
        have hc := cR_cond D (RX_t hT r5) 3 (by omega)
        obtain ⟨X2, u2, F2, c1, c2, c3⟩ := hc Z _ _ _ _ (RX_Q r5) (show a + 3 ≤ c by omega) (show u ≤ a + 3 by omega)
        have c1' : call PGM (D + 14) yR_condition [.ref 14, .int 0] (hR Z (xV (xV (xA (xV (xA X 4 (upd fw k (nI w))) 3 (nI (a + 1))) 5 (upd fa k (nI x))) 3 (nI (a + 2))) 3 (nI (a + 3)))) = _ := c1
        have g := cnd_g hE 3 (a + 3) (by omega)
        have r6 := RX_b r5 c2
        rw [cond_true, cond_true, aft1, eR_clause_93]
        show ∃ X' u' F' fw' fa' fe', aftK _ 1 _ (call PGM (D + 14) yR_condition [.ref 14, .int 0] (hR Z (xV (xV (xA (xV (xA X 4 (upd fw k (nI w))) 3 (nI (a + 1))) 5 (upd fa k (nI x))) 3 (nI (a + 2))) 3 (nI (a + 3))))) = _ ∧ _
        rw [c1', aft1, eR_clause_101, bI_0, r6.2.1, i8, nk]
        generalize cndP T c 3 (a + 3) = p at g c3 r6
        cases h4 : p.1 with
        | false => exact ⟨X2, u2, F2, _, _, _, rfl, r6, fun z => by cases z⟩
        | true =>
          rw [h4] at c3 g
          obtain ⟨t1, t2⟩ := c3 rfl
          exact en X2 p.2.1 u2 F2 true p.2.2 r6 g.2.1 t1 t2
end
