/-! The class reads CONDITIONS. -/
def wrO : (Nat → Int32) → Nat → List Op → Nat → Int32
  | F, _, [] => F
  | F, u, x :: l => wrO (upd F u (opC x)) (u + 1) l
theorem wrO_app : ∀ (l l' : List Op) (F : Nat → Int32) (u : Nat), wrO F u (l ++ l') = wrO (wrO F u l) (u + l.length) l'
  | [], l', F, u => rfl
  | x :: l, l', F, u => by
    show wrO (upd F u (opC x)) (u + 1) (l ++ l') = wrO (wrO (upd F u (opC x)) (u + 1) l) (u + (l.length + 1)) l'
    rw [wrO_app l l', show u + (l.length + 1) = u + 1 + l.length by omega]
def QX (X0 X : XS) (a u : Nat) (F : Nat → Int32) : Prop := X.2.1 3 = nI a ∧ X.2.1 5 = nI u ∧ X.1 7 = F ∧ (∀ k, k ≠ 7 → X.1 k = X0.1 k) ∧ (∀ k, k ≠ 3 → k ≠ 5 → X.2.1 k = X0.2.1 k) ∧ X.2.2 = X0.2.2
def tkX (T : Nat → Int32) (c : Nat) (X0 : XS) : Prop := X0.2.1 2 = nI c ∧ c ≤ 200 ∧ (∀ t, t ≤ c → X0.1 1 t = T t) ∧ T c = -1
theorem QX_at {X0 X : XS} {a u : Nat} {F : Nat → Int32} (h : QX X0 X a u F) (a' : Nat) : QX X0 (xV X 3 (nI a')) a' u F := by
  obtain ⟨h1, h2, h3, h4, h5, h6⟩ := h
  exact ⟨xV_s _ _ _, by rw [xV_n (by omega)]; exact h2, h3, h4, fun k k3 k5 => by rw [xV_n k3]; exact h5 k k3 k5, h6⟩
theorem QX_add {X0 X : XS} {a u : Nat} {F : Nat → Int32} (h : QX X0 X a u F) (v : Int32) : QX X0 (xV (xA X 7 (upd F u v)) 5 (nI (u + 1))) a (u + 1) (upd F u v) := by
  obtain ⟨h1, h2, h3, h4, h5, h6⟩ := h
  refine ⟨by rw [xV_n (by omega)]; exact h1, xV_s _ _ _, by show (xA X 7 (upd F u v)).1 7 = _; exact xA_s _ _ _, fun k k7 => ?_, fun k k3 k5 => by rw [xV_n k5]; exact h5 k k3 k5, h6⟩
  show (xA X 7 (upd F u v)).1 k = _
  rw [xA_n k7]
  exact h4 k k7
section
variable {T : Nat → Int32} {c : Nat} {X0 : XS}
theorem cR_token (d : Nat) (Z : WT) (hT : tkX T c X0) {X : XS} {a u : Nat} {F : Nat → Int32} (h : QX X0 X a u F) (ha : a ≤ c) : call PGM (d + 1) yR_token [.ref 14] (hR Z X) = some (some (.int (T a)), hR Z X) := by
  have hc := hT.2.1
  have y : inb (nI a) 201 = true := by rw [inb_nI (by omega)]; simp; omega
  rw [kR_token, eR_token_0, h.1, y, cond_true, nclamp (by omega), h.2.2.2.1 1 (by omega), hT.2.2.1 a ha]
theorem cR_pass (d : Nat) (Z : WT) (hT : tkX T c X0) {X : XS} {a u : Nat} {F : Nat → Int32} (h : QX X0 X a u F) (ha : a < c) : call PGM (d + 1) yR_pass [.ref 14] (hR Z X) = some (none, hR Z (xV X 3 (nI (a + 1)))) := by
  have hc := hT.2.1
  have y : decide (nI c ≤ nI a) = false := by rw [dle (by omega) (by omega)]; simp; omega
  rw [kR_pass, eR_pass_0, h.1, h.2.2.2.2.1 2 (by omega) (by omega), hT.1, y, cond_false, nI_1]
theorem cR_passes (d : Nat) (Z : WT) (hT : tkX T c X0) {X : XS} {a u : Nat} {F : Nat → Int32} (h : QX X0 X a u F) (ha : a ≤ c) (tok : Int32) (ht : tok ≠ -1) : call PGM (d + 1) yR_passes [.ref 14, .int tok] (hR Z X) = bif decide (T a = tok) then some (some (.int 1), hR Z (xV X 3 (nI (a + 1)))) else some (some (.int 0), hR Z X) := by
  have hc := hT.2.1
  have y : inb (nI a) 201 = true := by rw [inb_nI (by omega)]; simp; omega
  rw [kR_passes, eR_passes_0, h.1, y, cond_true, nclamp (by omega), h.2.2.2.1 1 (by omega), hT.2.2.1 a ha, h.2.2.2.2.1 2 (by omega) (by omega), hT.1, nI_1]
  cases e : decide (T a = tok) with
  | false => rfl
  | true =>
    have lt := tk_lt hT.2.2.2 ha (of_decide_eq_true e) ht
    have y : decide (nI c ≤ nI a) = false := by rw [dle (by omega) (by omega)]; simp; omega
    rw [y]
    rfl
theorem pk_or {i a b : Nat} (h : b < 2 ^ i) : 2 ^ i * a ||| b = 2 ^ i * a + b := (Nat.two_pow_add_eq_or_of_lt h a).symm
theorem pk_op {t l r : Nat} (ht : t < 6) (hl : l < 16384) (hr : r < 16384) : ((nI t <<< ((28 : Int32) &&& 31)) ||| (nI l <<< ((14 : Int32) &&& 31))) ||| nI r = opC (t, l, r) := by
  have bn : ∀ k : Nat, (nI k).toBitVec.toNat = k % 2 ^ 32 := by
    intro k
    show (BitVec.ofInt 32 (k : Int)).toNat = _
    rw [BitVec.toNat_ofInt]
    omega
  have s28 : (nI t <<< ((28 : Int32) &&& 31)).toBitVec.toNat = t * 268435456 := by
    show ((nI t).toBitVec <<< (28 : Nat)).toNat = _
    rw [BitVec.toNat_shiftLeft, bn, Nat.shiftLeft_eq]
    omega
  have s14 : (nI l <<< ((14 : Int32) &&& 31)).toBitVec.toNat = l * 16384 := by
    show ((nI l).toBitVec <<< (14 : Nat)).toNat = _
    rw [BitVec.toNat_shiftLeft, bn, Nat.shiftLeft_eq]
    omega
  apply Int32.toBitVec_inj.mp
  apply BitVec.eq_of_toNat_eq
  rw [Int32.toBitVec_or, Int32.toBitVec_or, BitVec.toNat_or, BitVec.toNat_or, s28, s14, bn]
  unfold opC
  rw [bn]
  have e1 : t * 268435456 ||| l * 16384 = t * 268435456 + l * 16384 := by
    have := pk_or (i := 28) (a := t) (b := l * 16384) (by omega)
    rw [show (2 : Nat) ^ 28 = 268435456 from rfl, Nat.mul_comm 268435456 t] at this
    exact this
  have e2 : (t * 268435456 + l * 16384) ||| r = t * 268435456 + l * 16384 + r := by
    have := pk_or (i := 14) (a := t * 16384 + l) (b := r) (by omega)
    rw [show (2 : Nat) ^ 14 = 16384 from rfl, show 16384 * (t * 16384 + l) = t * 268435456 + l * 16384 by omega] at this
    exact this
  rw [e1, show r % 2 ^ 32 = r by omega, e2]
  show _ = (t * 268435456 + l * 16384 + r) % 2 ^ 32
  omega
theorem cR_addStep (d : Nat) (Z : WT) {X : XS} {a u : Nat} {F : Nat → Int32} (h : QX X0 X a u F) (hu : u < 200) {t l r : Nat} (ht : t < 6) (hl : l < 16384) (hr : r < 16384) : call PGM (d + 1) yR_addStep [.ref 14, .int (nI t), .int (nI l), .int (nI r)] (hR Z X) = some (none, hR Z (xV (xA X 7 (upd F u (opC (t, l, r)))) 5 (nI (u + 1)))) := by
  have x : decide (nI u < nI 200) = true := by rw [dlt (by omega) (by omega)]; simp; omega
  have y : inb (nI u) 200 = true := by rw [inb_nI (by omega)]; simp; omega
  have z : ∀ f, (xA X 7 f).2.1 5 = nI u := fun f => h.2.1
  rw [kR_addStep, eR_addStep_0, h.2.1, x, cond_true, y, cond_true, nclamp (by omega), h.2.2.1, pk_op ht hl hr, eR_addStep_33, z, nI_1]
theorem cR_isValue (d : Nat) (Z : WT) (X : XS) (t : Int32) : call PGM (d + 1) yR_isValue [.int t] (hR Z X) = some (some (.int (bI (isV t))), hR Z X) := by
  rw [kR_isValue, eR_isValue_0, isV, le_not_lt 0 t, le_not_lt 10006 t]
  cases decide (t < 0) <;> cases decide (t < 10006) <;> rfl
/-- a part of the class reads as f does -/
def CSp (T : Nat → Int32) (c : Nat) (X0 : XS) (D y : Nat) (as : List Value) (f : Nat → PR) : Prop := ∀ (Z : WT) (X : XS) (a u : Nat) (F : Nat → Int32), QX X0 X a u F → a ≤ c → u ≤ a → ∃ X' u' F', call PGM D y (.ref 14 :: as) (hR Z X) = some (some (.int (bI (f a).1)), hR Z X') ∧ QX X0 X' (f a).2.1 u' F' ∧ ((f a).1 = true → u' = u + (f a).2.2.length ∧ F' = wrO F u (f a).2.2)
theorem sub60 (t : Int32) : (∃ v, v < 3 ∧ isS t = true ∧ t = nI (20060 + v) ∧ t - 20000 - 60 = nI v) ∨ (isS t = false ∧ (decide (t - 20000 - 60 < 0) = true ∨ decide (t - 20000 - 60 < 0) = false ∧ decide (t - 20000 - 60 ≤ 2) = false)) := by
  cases h : isS t with
  | true =>
    obtain ⟨v, hv, e⟩ := isS_n h
    refine Or.inl ⟨v, hv, rfl, e, ?_⟩
    rw [e, show nI (20060 + v) = nI v + nI 60 + nI 20000 by rw [nI_add, nI_add]; congr 1; omega]
    show nI v + nI 60 + nI 20000 - nI 20000 - nI 60 = nI v
    rw [Int32.add_sub_cancel, Int32.add_sub_cancel]
  | false =>
    refine Or.inr ⟨rfl, ?_⟩
    cases h1 : decide (t - 20000 - 60 < 0) with
    | true => exact Or.inl rfl
    | false =>
      refine Or.inr ⟨rfl, ?_⟩
      cases h2 : decide (t - 20000 - 60 ≤ 2) with
      | false => rfl
      | true =>
        exfalso
        have h1' := of_decide_eq_false h1
        have h2' := of_decide_eq_true h2
        have z : (0 : Int32).toInt = 0 := rfl
        have z2 : (2 : Int32).toInt = 2 := rfl
        rw [Int32.lt_iff_toInt_lt, z] at h1'
        rw [Int32.le_iff_toInt_le, z2] at h2'
        have ex : t - 20000 - 60 = nI (t - 20000 - 60).toInt.toNat := by
          apply Int32.toInt_inj.mp
          rw [nI_toInt (by omega)]
          omega
        have et : t = (t - 20000 - 60) + nI 60 + nI 20000 := by
          show t = t - nI 20000 - nI 60 + nI 60 + nI 20000
          rw [Int32.sub_add_cancel, Int32.sub_add_cancel]
        rw [ex, nI_add, nI_add] at et
        have hv : (t - 20000 - 60).toInt.toNat < 3 := by omega
        generalize (t - 20000 - 60).toInt.toNat = v at et hv
        subst et
        have e3 : v = 0 ∨ v = 1 ∨ v = 2 := by omega
        rcases e3 with e | e | e <;> subst e <;> revert h <;> decide
theorem cR_comparison (d : Nat) (hT : tkX T c X0) : CSp T c X0 (d + 2) yR_comparison [] (cmpP T) := by
  intro Z X a u F h ha hu
  have hc := hT.2.1
  have hE := hT.2.2.2
  rw [kR_comparison, eR_comparison_0, cR_token d Z hT h ha, aft1, eR_comparison_4, cR_isValue d, aft1, eR_comparison_9, bI_0]
  unfold cmpP
  cases h1 : isV (T a) with
  | false => exact ⟨X, u, F, rfl, h, fun z => by cases z⟩
  | true =>
    have a1 := tk_V hE ha h1
    have q1 := QX_at h (a + 1)
    show ∃ X' u' F', aftK _ 0 _ (call PGM (d + 1) yR_pass [.ref 14] (hR Z X)) = _ ∧ _
    rw [cR_pass d Z hT h a1, aft0, eR_comparison_18, cR_token d Z hT q1 (by omega), aft1, eR_comparison_22]
    rcases sub60 (T (a + 1)) with ⟨v, hv, e1, e2, e3⟩ | ⟨e1, e2⟩
    · have a2 := tk_S hE (by omega) e1
      have q2 := QX_at q1 (a + 2)
      have y1 : decide (nI v < 0) = false := by rw [l0, dlt (by omega) (by omega)]; simp
      have y2 : decide (nI v ≤ 2) = true := by rw [show (2 : Int32) = nI 2 from rfl, dle (by omega) (by omega)]; simp; omega
      rw [e3, y1, y2, e1]
      show ∃ X' u' F', aftK _ 0 _ (call PGM (d + 1) yR_pass [.ref 14] (hR Z (xV X 3 (nI (a + 1))))) = _ ∧ _
      rw [cR_pass d Z hT q1 a2, aft0, eR_comparison_45, cR_token d Z hT q2 (by omega), aft1, eR_comparison_49, cR_isValue d, aft1, eR_comparison_54, bI_0]
      cases h3 : isV (T (a + 2)) with
      | false => exact ⟨_, u, F, rfl, q2, fun z => by cases z⟩
      | true =>
        have a3 := tk_V hE (by omega) h3
        have q3 := QX_at q2 (a + 3)
        obtain ⟨l, hl, el⟩ := isV_n h1
        obtain ⟨r, hr, er⟩ := isV_n h3
        show ∃ X' u' F', aftK _ 0 _ (call PGM (d + 1) yR_pass [.ref 14] (hR Z (xV (xV X 3 (nI (a + 1))) 3 (nI (a + 2))))) = _ ∧ _
        rw [cR_pass d Z hT q2 a3, aft0, eR_comparison_63, el, er, cR_addStep d Z q3 (by omega) (by omega) (by omega) (by omega), aft0, eR_comparison_70, e2]
        refine ⟨_, u + 1, _, rfl, QX_add q3 _, fun _ => ⟨rfl, ?_⟩⟩
        show _ = wrO F u [((nI (20060 + v)).toNatClampNeg - 20060, (nI l).toNatClampNeg, (nI r).toNatClampNeg)]
        rw [nclamp (by omega), nclamp (by omega), nclamp (by omega), show 20060 + v - 20060 = v by omega]
        rfl
    · rw [e1]
      refine ⟨_, u, F, ?_, q1, fun z => by cases z⟩
      rcases e2 with e2 | ⟨e2, e3⟩
      · rw [e2]; rfl
      · rw [e2, e3]; rfl
theorem cR_allOfL (D : Nat) (Z : WT) (hT : tkX T c X0) {k : Nat} {f : Nat → PR} (i1 : Int32) (hf : CSp T c X0 (D + 1) yR_oneOf [.int i1] f) (hg : Gdd c k f) (u0 : Nat) (F0 : Nat → Int32) : ∀ (q : Nat) (X : XS) (a u : Nat) (F : Nat → Int32) (turn : Nat) (L : List Op), QX X0 X a u F → a ≤ c → c ≤ a + q → turn ≤ a → u ≤ a → u = u0 + L.length → F = wrO F0 u0 L → ∃ X' u' F', sem PGM (D + 1) yR_allOf (12, [some (.ref 14), some (.int i1), some (.int (nI turn))], [], hR Z X) = some (some (.int (bI (lpP T f 10020 (3, 0, 0) q a L).1)), hR Z X') ∧ QX X0 X' (lpP T f 10020 (3, 0, 0) q a L).2.1 u' F' ∧ ((lpP T f 10020 (3, 0, 0) q a L).1 = true → u' = u0 + (lpP T f 10020 (3, 0, 0) q a L).2.2.length ∧ F' = wrO F0 u0 (lpP T f 10020 (3, 0, 0) q a L).2.2) := by
  have hc := hT.2.1
  have hE := hT.2.2.2
  intro q
  induction q with
  | zero =>
    intro X a u F turn L h ha hq ht hu eu eF
    have e : a = c := by omega
    have z : decide (T a = 10020) = false := by rw [e, hE]; decide
    refine ⟨X, u, F, ?_, h, fun _ => ⟨eu, eF⟩⟩
    rw [eR_allOf_12, h.2.2.2.2.1 2 (by omega) (by omega), hT.1, cR_passes D Z hT h ha 10020 (by decide), z, cond_false, aft1, eR_allOf_27]
    cases decide (nI c ≤ nI turn) <;> rfl
  | succ q ih =>
    intro X a u F turn L h ha hq ht hu eu eF
    rw [eR_allOf_12, h.2.2.2.2.1 2 (by omega) (by omega), hT.1, cR_passes D Z hT h ha 10020 (by decide), lpP]
    cases e1 : decide (T a = 10020) with
    | false =>
      refine ⟨X, u, F, ?_, h, fun _ => ⟨eu, eF⟩⟩
      rw [cond_false, aft1, eR_allOf_27]
      cases decide (nI c ≤ nI turn) <;> rfl
    | true =>
      have lt := tk_lt hE ha (of_decide_eq_true e1) (by decide)
      have y : decide (nI c ≤ nI turn) = false := by rw [dle (by omega) (by omega)]; simp; omega
      have q1 := QX_at h (a + 1)
      obtain ⟨X2, u2, F2, r1, r2, r3⟩ := hf Z _ _ _ _ q1 (by omega) (by omega)
      have g := hg (a + 1) (by omega)
      rw [y, cond_false, cond_true, aft1, eR_allOf_27]
      show ∃ X' u' F', aftK _ 1 _ (call PGM (D + 1) yR_oneOf [.ref 14, .int i1] (hR Z (xV X 3 (nI (a + 1))))) = _ ∧ _
      rw [r1, aft1, eR_allOf_35, bI_0]
      generalize f (a + 1) = p at r1 r2 r3 g
      cases e2 : p.1 with
      | false => exact ⟨X2, u2, F2, rfl, r2, fun z => by cases z⟩
      | true =>
        rw [e2] at r3 g
        obtain ⟨s1, s2⟩ := r3 rfl
        have g2 := (g.2.2 rfl).1
        have ll := len_ops p.2.2
        have as := cR_addStep D Z r2 (show u2 < 200 by omega) (show 3 < 6 by omega) (show 0 < 16384 by omega) (show 0 < 16384 by omega)
        have as' : call PGM (D + 1) yR_addStep [.ref 14, .int 3, .int 0, .int 0] (hR Z X2) = _ := as
        show ∃ X' u' F', aftK _ 0 _ (call PGM (D + 1) yR_addStep [.ref 14, .int 3, .int 0, .int 0] (hR Z X2)) = _ ∧ _
        rw [as', aft0, eR_allOf_47, nI_1, cond_true, cond_true]
        refine ih _ p.2.1 (u2 + 1) _ (turn + 1) (L ++ p.2.2 ++ [(3, 0, 0)]) (QX_add r2 _) g.2.1 (by omega) (by omega) (by omega) ?_ ?_
        · rw [s1, eu, List.length_append, List.length_append]
          show u0 + L.length + p.2.2.length + 1 = u0 + (L.length + p.2.2.length + 1)
          omega
        · rw [wrO_app, wrO_app, ← eF, ← eu, ← s2, List.length_append, show u0 + (L.length + p.2.2.length) = u2 by omega]
          rfl
theorem cR_allOf (D : Nat) (hT : tkX T c X0) {k : Nat} {f : Nat → PR} (i1 : Int32) (hf : CSp T c X0 (D + 1) yR_oneOf [.int i1] f) (hg : Gdd c k f) : CSp T c X0 (D + 2) yR_allOf [.int i1] (sqP T c f 10020 (3, 0, 0)) := by
  intro Z X a u F h ha hu
  obtain ⟨X2, u2, F2, r1, r2, r3⟩ := hf Z _ _ _ _ h ha hu
  have g := hg a ha
  rw [kR_allOf, eR_allOf_0, r1, aft1, eR_allOf_5, bI_0]
  unfold sqP
  generalize f a = p at r1 r2 r3 g
  cases e2 : p.1 with
  | false => exact ⟨X2, u2, F2, rfl, r2, fun z => by cases z⟩
  | true =>
    rw [e2] at r3 g
    obtain ⟨s1, s2⟩ := r3 rfl
    have g2 := (g.2.2 rfl).1
    have ll := len_ops p.2.2
    rw [cond_true]
    exact cR_allOfL D Z hT i1 hf hg u F (c - p.2.1) X2 p.2.1 u2 F2 0 p.2.2 r2 g.2.1 (by omega) (by omega) (by omega) s1 s2
theorem cR_conditionL (D : Nat) (Z : WT) (hT : tkX T c X0) {k : Nat} {f : Nat → PR} (i1 : Int32) (hf : CSp T c X0 (D + 1) yR_allOf [.int i1] f) (hg : Gdd c k f) (u0 : Nat) (F0 : Nat → Int32) : ∀ (q : Nat) (X : XS) (a u : Nat) (F : Nat → Int32) (turn : Nat) (L : List Op), QX X0 X a u F → a ≤ c → c ≤ a + q → turn ≤ a → u ≤ a → u = u0 + L.length → F = wrO F0 u0 L → ∃ X' u' F', sem PGM (D + 1) yR_condition (12, [some (.ref 14), some (.int i1), some (.int (nI turn))], [], hR Z X) = some (some (.int (bI (lpP T f 10019 (4, 0, 0) q a L).1)), hR Z X') ∧ QX X0 X' (lpP T f 10019 (4, 0, 0) q a L).2.1 u' F' ∧ ((lpP T f 10019 (4, 0, 0) q a L).1 = true → u' = u0 + (lpP T f 10019 (4, 0, 0) q a L).2.2.length ∧ F' = wrO F0 u0 (lpP T f 10019 (4, 0, 0) q a L).2.2) := by
  have hc := hT.2.1
  have hE := hT.2.2.2
  intro q
  induction q with
  | zero =>
    intro X a u F turn L h ha hq ht hu eu eF
    have e : a = c := by omega
    have z : decide (T a = 10019) = false := by rw [e, hE]; decide
    refine ⟨X, u, F, ?_, h, fun _ => ⟨eu, eF⟩⟩
    rw [eR_condition_12, h.2.2.2.2.1 2 (by omega) (by omega), hT.1, cR_passes D Z hT h ha 10019 (by decide), z, cond_false, aft1, eR_condition_27]
    cases decide (nI c ≤ nI turn) <;> rfl
  | succ q ih =>
    intro X a u F turn L h ha hq ht hu eu eF
    rw [eR_condition_12, h.2.2.2.2.1 2 (by omega) (by omega), hT.1, cR_passes D Z hT h ha 10019 (by decide), lpP]
    cases e1 : decide (T a = 10019) with
    | false =>
      refine ⟨X, u, F, ?_, h, fun _ => ⟨eu, eF⟩⟩
      rw [cond_false, aft1, eR_condition_27]
      cases decide (nI c ≤ nI turn) <;> rfl
    | true =>
      have lt := tk_lt hE ha (of_decide_eq_true e1) (by decide)
      have y : decide (nI c ≤ nI turn) = false := by rw [dle (by omega) (by omega)]; simp; omega
      have q1 := QX_at h (a + 1)
      obtain ⟨X2, u2, F2, r1, r2, r3⟩ := hf Z _ _ _ _ q1 (by omega) (by omega)
      have g := hg (a + 1) (by omega)
      rw [y, cond_false, cond_true, aft1, eR_condition_27]
      show ∃ X' u' F', aftK _ 1 _ (call PGM (D + 1) yR_allOf [.ref 14, .int i1] (hR Z (xV X 3 (nI (a + 1))))) = _ ∧ _
      rw [r1, aft1, eR_condition_35, bI_0]
      generalize f (a + 1) = p at r1 r2 r3 g
      cases e2 : p.1 with
      | false => exact ⟨X2, u2, F2, rfl, r2, fun z => by cases z⟩
      | true =>
        rw [e2] at r3 g
        obtain ⟨s1, s2⟩ := r3 rfl
        have g2 := (g.2.2 rfl).1
        have ll := len_ops p.2.2
        have as := cR_addStep D Z r2 (show u2 < 200 by omega) (show 4 < 6 by omega) (show 0 < 16384 by omega) (show 0 < 16384 by omega)
        have as' : call PGM (D + 1) yR_addStep [.ref 14, .int 4, .int 0, .int 0] (hR Z X2) = _ := as
        show ∃ X' u' F', aftK _ 0 _ (call PGM (D + 1) yR_addStep [.ref 14, .int 4, .int 0, .int 0] (hR Z X2)) = _ ∧ _
        rw [as', aft0, eR_condition_47, nI_1, cond_true, cond_true]
        refine ih _ p.2.1 (u2 + 1) _ (turn + 1) (L ++ p.2.2 ++ [(4, 0, 0)]) (QX_add r2 _) g.2.1 (by omega) (by omega) (by omega) ?_ ?_
        · rw [s1, eu, List.length_append, List.length_append]
          show u0 + L.length + p.2.2.length + 1 = u0 + (L.length + p.2.2.length + 1)
          omega
        · rw [wrO_app, wrO_app, ← eF, ← eu, ← s2, List.length_append, show u0 + (L.length + p.2.2.length) = u2 by omega]
          rfl
theorem cR_condition (D : Nat) (hT : tkX T c X0) {k : Nat} {f : Nat → PR} (i1 : Int32) (hf : CSp T c X0 (D + 1) yR_allOf [.int i1] f) (hg : Gdd c k f) : CSp T c X0 (D + 2) yR_condition [.int i1] (sqP T c f 10019 (4, 0, 0)) := by
  intro Z X a u F h ha hu
  obtain ⟨X2, u2, F2, r1, r2, r3⟩ := hf Z _ _ _ _ h ha hu
  have g := hg a ha
  rw [kR_condition, eR_condition_0, r1, aft1, eR_condition_5, bI_0]
  unfold sqP
  generalize f a = p at r1 r2 r3 g
  cases e2 : p.1 with
  | false => exact ⟨X2, u2, F2, rfl, r2, fun z => by cases z⟩
  | true =>
    rw [e2] at r3 g
    obtain ⟨s1, s2⟩ := r3 rfl
    have g2 := (g.2.2 rfl).1
    have ll := len_ops p.2.2
    rw [cond_true]
    exact cR_conditionL D Z hT i1 hf hg u F (c - p.2.1) X2 p.2.1 u2 F2 0 p.2.2 r2 g.2.1 (by omega) (by omega) (by omega) s1 s2
theorem cR_notsL (D : Nat) (Z : WT) (hT : tkX T c X0) (i1 : Int32) : ∀ (q : Nat) (X : XS) (a u : Nat) (F : Nat → Int32) (turn : Nat) (b : Bool), QX X0 X a u F → a + q = c → turn ≤ a → ∃ X' u3, sem PGM (D + 1) yR_oneOf (4, [some (.ref 14), some (.int i1), some (.int (bI b)), some (.int (nI turn))], [], hR Z X) = sem PGM (D + 1) yR_oneOf (42, [some (.ref 14), some (.int i1), some (.int (bI (nots T q a b).2)), u3], [.int (T (nots T q a b).1)], hR Z X') ∧ QX X0 X' (nots T q a b).1 u F := by
  have hc := hT.2.1
  have hE := hT.2.2.2
  intro q
  induction q with
  | zero =>
    intro X a u F turn b h hq ht
    have e : a = c := by omega
    have z : decide (T a = 10021) = false := by rw [e, hE]; decide
    refine ⟨X, some (.int (nI turn)), ?_, h⟩
    rw [eR_oneOf_4, h.2.2.2.2.1 2 (by omega) (by omega), hT.1, cR_passes D Z hT h (by omega) 10021 (by decide), z, cond_false, aft1, eR_oneOf_19, cR_token D Z hT h (by omega), aft1]
    cases decide (nI c ≤ nI turn) <;> rfl
  | succ q ih =>
    intro X a u F turn b h hq ht
    rw [eR_oneOf_4, h.2.2.2.2.1 2 (by omega) (by omega), hT.1, cR_passes D Z hT h (by omega) 10021 (by decide), nots]
    by_cases e1 : T a = 10021
    · have lt := tk_lt hE (by omega) e1 (by decide)
      have y : decide (nI c ≤ nI turn) = false := by rw [dle (by omega) (by omega)]; simp; omega
      have z : decide (T a = 10021) = true := by simp [e1]
      obtain ⟨X', u3, r1, r2⟩ := ih _ (a + 1) u F (turn + 1) (!b) (QX_at h (a + 1)) (by omega) (by omega)
      rw [if_pos e1]
      refine ⟨X', u3, ?_, r2⟩
      rw [← r1, y, z, cond_false, cond_true, aft1, eR_oneOf_19, nI_1]
      cases b <;> rfl
    · have z : decide (T a = 10021) = false := by simp [e1]
      rw [if_neg e1]
      refine ⟨X, some (.int (nI turn)), ?_, h⟩
      rw [z, cond_false, aft1, eR_oneOf_19, cR_token D Z hT h (by omega), aft1]
      cases decide (nI c ≤ nI turn) <;> rfl
theorem cR_oneOf (D : Nat) (hT : tkX T c X0) {k : Nat} {cn : Nat → PR} (o : Nat) (ho : o ≤ 3) (hf : o < 3 → CSp T c X0 (D + 2) yR_condition [.int (nI (o + 1))] cn) (hg : o < 3 → Gdd c k cn) : CSp T c X0 (D + 3) yR_oneOf [.int (nI o)] (oneP T c cn (decide (o < 3))) := by
  intro Z X a u F h ha hu
  have hc := hT.2.1
  have hE := hT.2.2.2
  obtain ⟨X1, u3, r1, q1⟩ := cR_notsL (D + 1) Z hT (nI o) (c - a) X a u F 0 false h (by omega) (by omega)
  obtain ⟨n1, n2, n3, _⟩ := nots_g hE (c - a) a false (by omega)
  rw [kR_oneOf, eR_oneOf_0]
  show ∃ X' u' F', sem PGM (D + 2) yR_oneOf (4, [some (.ref 14), some (.int (nI o)), some (.int (bI false)), some (.int (nI 0))], [], hR Z X) = _ ∧ _
  rw [r1, eR_oneOf_42]
  unfold oneP
  generalize nots T (c - a) a false = r at n1 n2 n3 q1
  have nb : r.2 = true → a + 1 ≤ r.1 := fun e => n3 (by rw [e]; decide)
  -- what is turned
  have turn : ∀ (X2 : XS) (a2 u2 : Nat) (F2 : Nat → Int32) (l : List Op) (lb : Nat), lb = 85 ∨ lb = 76 → QX X0 X2 a2 u2 F2 → (r.2 = true → u2 < 200) → u2 = u + l.length → F2 = wrO F u l → ∃ X' u' F', sem PGM (D + 2) yR_oneOf (lb, [some (.ref 14), some (.int (nI o)), some (.int (bI r.2)), u3], [.int 1], hR Z X2) = some (some (.int 1), hR Z X') ∧ QX X0 X' a2 u' F' ∧ (true = true → u' = u + (l ++ ntL r.2).length ∧ F' = wrO F u (l ++ ntL r.2)) := by
    intro X2 a2 u2 F2 l lb hlb h2 hu2 e1 e2
    have z : decide ((1 : Int32) = 0) = false := by decide
    cases e : r.2 with
    | false =>
      refine ⟨X2, u2, F2, ?_, h2, fun _ => ?_⟩
      · rcases hlb with rfl | rfl
        · rw [eR_oneOf_85, z]; rfl
        · rw [eR_oneOf_76, z]; rfl
      · rw [show l ++ ntL false = l from List.append_nil l]
        exact ⟨e1, e2⟩
    | true =>
      have as := cR_addStep (D + 1) Z h2 (hu2 e) (show 5 < 6 by omega) (show 0 < 16384 by omega) (show 0 < 16384 by omega)
      have as' : call PGM (D + 2) yR_addStep [.ref 14, .int 5, .int 0, .int 0] (hR Z X2) = _ := as
      refine ⟨_, u2 + 1, _, ?_, QX_add h2 (opC (5, 0, 0)), fun _ => ⟨?_, ?_⟩⟩
      · rcases hlb with rfl | rfl
        · rw [eR_oneOf_85, z]
          show aftK _ 0 _ (call PGM (D + 2) yR_addStep [.ref 14, .int 5, .int 0, .int 0] (hR Z X2)) = _
          rw [as', aft0, eR_oneOf_101]
        · rw [eR_oneOf_76, z]
          show aftK _ 0 _ (call PGM (D + 2) yR_addStep [.ref 14, .int 5, .int 0, .int 0] (hR Z X2)) = _
          rw [as', aft0, eR_oneOf_101]
      · rw [List.length_append, e1]; rfl
      · rw [wrO_app, ← e2, ← e1]; rfl
  cases e1 : decide (T r.1 = 20040) with
  | false =>
    have hcm := cR_comparison D hT
    obtain ⟨X2, u2, F2, s1, s2, s3⟩ := hcm Z _ _ _ _ q1 n2 (by omega)
    have g := cmp_g hE r.1 n2
    show ∃ X' u' F', aftK _ 1 _ (call PGM (D + 2) yR_comparison [.ref 14] (hR Z X1)) = _ ∧ _
    rw [s1, aft1]
    rw [cond_false]
    generalize cmpP T r.1 = p at s2 s3 g
    unfold oneE
    cases e2 : p.1 with
    | false =>
      rw [eR_oneOf_85]
      exact ⟨X2, u2, F2, rfl, s2, fun z => by cases z⟩
    | true =>
      rw [e2] at s3 g
      obtain ⟨t1, t2⟩ := s3 rfl
      have g2 := (g.2.2 rfl).1
      have ll := len_ops p.2.2
      exact turn X2 p.2.1 u2 F2 p.2.2 85 (Or.inl rfl) s2 (fun e => by have := nb e; omega) t1 t2
  | true =>
    have lt := tk_lt hE n2 (of_decide_eq_true e1) (by decide)
    have z3 : decide (nI o < 3) = decide (o < 3) := by rw [show (3 : Int32) = nI 3 from rfl, dlt (by omega) (by omega)]
    rw [z3, Bool.not_true, cond_false, cond_true]
    cases e2 : decide (o < 3) with
    | false => exact ⟨X1, u, F, rfl, q1, fun z => by cases z⟩
    | true =>
      have ho3 : o < 3 := of_decide_eq_true e2
      have q2 := QX_at q1 (r.1 + 1)
      obtain ⟨X2, u2, F2, s1, s2, s3⟩ := hf ho3 Z _ _ _ _ q2 (by omega) (by omega)
      have g := hg ho3 (r.1 + 1) (by omega)
      rw [cond_true, cR_pass (D + 1) Z hT q1 lt, aft0, eR_oneOf_59, nI_1, s1, aft1, eR_oneOf_66, bI_0, cond_true]
      generalize cn (r.1 + 1) = p at s1 s2 s3 g
      cases e3 : p.1 with
      | false => exact ⟨X2, u2, F2, rfl, s2, fun z => by cases z⟩
      | true =>
        rw [e3] at s3 g
        obtain ⟨t1, t2⟩ := s3 rfl
        have g2 := (g.2.2 rfl).1
        have ll := len_ops p.2.2
        rw [Bool.not_true, cond_false, cond_true, cR_passes (D + 1) Z hT s2 g.2.1 20041 (by decide)]
        cases e4 : decide (T p.2.1 = 20041) with
        | false =>
          rw [cond_false, aft1, eR_oneOf_76]
          exact ⟨X2, u2, F2, rfl, s2, fun z => by cases z⟩
        | true =>
          have lt2 := tk_lt hE g.2.1 (of_decide_eq_true e4) (by decide)
          rw [cond_true, aft1]
          exact turn _ (p.2.1 + 1) u2 F2 p.2.2 76 (Or.inr rfl) (QX_at s2 (p.2.1 + 1)) (fun e => by have := nb e; omega) t1 t2
theorem cR_cond (D : Nat) (hT : tkX T c X0) : ∀ o, o ≤ 3 → CSp T c X0 (D + 3 * o + 5) yR_condition [.int (nI (3 - o))] (cndP T c o)
  | 0, _ => by
    have h1 := cR_oneOf D hT (k := 0) (cn := fun a => (false, a, [])) 3 (by omega) (fun h => by omega) (fun h => by omega)
    have g1 : Gdd c 0 (oneP T c (fun a => (false, a, [])) false) := one_g hT.2.2.2 false (fun h => by cases h)
    exact cR_condition (D + 3) hT (nI 3) (cR_allOf (D + 2) hT (nI 3) h1 g1) (all_g (k := 0) hT.2.2.2 false (fun h => by cases h))
  | o + 1, ho => by
    have ih := cR_cond D hT o (by omega)
    have gi := cnd_g hT.2.2.2 o (T := T) (c := c)
    have e : 3 - o = 3 - (o + 1) + 1 := by omega
    rw [e] at ih
    have lt : 3 - (o + 1) < 3 := by omega
    have h1 := cR_oneOf (D + 3 * o + 3) hT (3 - (o + 1)) (by omega) (fun _ => ih) (fun _ => gi)
    have et : decide (3 - (o + 1) < 3) = true := decide_eq_true lt
    rw [et] at h1
    have g1 := one_g hT.2.2.2 true (fun _ => gi)
    have h2 := cR_allOf (D + 3 * o + 5) hT _ h1 g1
    have h3 := cR_condition (D + 3 * o + 6) hT _ h2 (all_g hT.2.2.2 true (fun _ => gi))
    rw [show D + 3 * (o + 1) + 5 = D + 3 * o + 6 + 2 by omega]
    exact h3
end
