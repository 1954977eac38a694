/-! TEXTS; how the class reads them. -/
def rdP (T : Nat → Int32) (c : Nat) : Nat → Nat → List CE → Bool × Nat × List CE
  | 0, a, L => (decide (T a = -1), a, L)
  | m + 1, a, L => bif decide (T a = -1) then (true, a, L) else bif (clsP T c a).1 then rdP T c m (clsP T c a).2.1 (L ++ [(clsP T c a).2.2]) else (false, (clsP T c a).2.1, L)
def allO : List CE → List Op
  | [] => []
  | e :: L => e.2.2.2 ++ allO L
theorem allO_app : ∀ L L' : List CE, allO (L ++ L') = allO L ++ allO L'
  | [], L' => rfl
  | e :: L, L' => by
    show e.2.2.2 ++ allO (L ++ L') = e.2.2.2 ++ allO L ++ allO L'
    rw [allO_app L L', List.append_assoc]
theorem allO_1 (e : CE) : allO [e] = e.2.2.2 := List.append_nil _
theorem rd_g {T : Nat → Int32} {c : Nat} (hT : T c = -1) : ∀ (m a : Nat) (L : List CE), a ≤ c → L.length + m = 8 → opsN (allO L) ≤ a → (∀ e ∈ L, okC' e) → (rdP T c m a L).2.1 ≤ c ∧ (rdP T c m a L).2.2.length ≤ 8 ∧ opsN (allO (rdP T c m a L).2.2) ≤ c ∧ ∀ e ∈ (rdP T c m a L).2.2, okC' e
  | 0, a, L, ha, hl, ho, hk => ⟨ha, by show L.length ≤ 8; omega, by show opsN (allO L) ≤ c; omega, hk⟩
  | m + 1, a, L, ha, hl, ho, hk => by
    rw [rdP]
    cases e1 : decide (T a = -1) with
    | true => exact ⟨ha, by show L.length ≤ 8; omega, by show opsN (allO L) ≤ c; omega, hk⟩
    | false =>
      have g := cls_g hT a ha
      rw [cond_false]
      generalize clsP T c a = p at g
      cases e2 : p.1 with
      | false => exact ⟨g.2.1, by show L.length ≤ 8; omega, by show opsN (allO L) ≤ c; omega, hk⟩
      | true =>
        rw [e2] at g
        have g2 := g.2.2 rfl
        rw [cond_true]
        refine rd_g hT m p.2.1 (L ++ [p.2.2]) g.2.1 (by rw [List.length_append]; show L.length + 1 + m = 8; omega) (by rw [allO_app, opsN_app, allO_1]; omega) ?_
        intro e he
        rw [List.mem_append] at he
        rcases he with he | he
        · exact hk e he
        · rw [List.mem_singleton] at he
          rw [he]
          exact g2.2
/-- CLAUSES as they lie in the class's rows -/
def CI (fw fa fe : Nat → Int32) (L : List CE) : Prop := ∀ j, j < L.length → fw j = nI (L.getD j ce0).1 ∧ fa j = nI (L.getD j ce0).2.1 ∧ fe j = nI (allO (L.take (j + 1))).length
theorem getC_app {L : List CE} {e : CE} {j : Nat} (h : j < L.length) : (L ++ [e]).getD j ce0 = L.getD j ce0 := by
  rw [List.getD_eq_getElem?_getD, List.getD_eq_getElem?_getD, List.getElem?_append_left h]
theorem getC_end (L : List CE) (e : CE) : (L ++ [e]).getD L.length ce0 = e := by
  rw [List.getD_eq_getElem?_getD, List.getElem?_append_right (Nat.le_refl _), Nat.sub_self]
  rfl
theorem takeC_app {L : List CE} {e : CE} {j : Nat} (h : j ≤ L.length) : (L ++ [e]).take j = L.take j := List.take_append_of_le_length h
theorem takeC_end (L : List CE) (e : CE) : (L ++ [e]).take (L.length + 1) = L ++ [e] := List.take_of_length_le (by rw [List.length_append]; exact Nat.le_refl _)
theorem CI_app {fw fa fe : Nat → Int32} {L : List CE} (h : CI fw fa fe L) (e : CE) : CI (upd fw L.length (nI e.1)) (upd fa L.length (nI e.2.1)) (upd fe L.length (nI (allO (L ++ [e])).length)) (L ++ [e]) := by
  intro j hj
  by_cases ej : j = L.length
  · subst ej
    rw [upd_eq, upd_eq, upd_eq, getC_end, takeC_end]
    exact ⟨rfl, rfl, rfl⟩
  · have hj' : j < L.length := by rw [List.length_append] at hj; have : j < L.length + 1 := hj; omega
    rw [upd_ne ej, upd_ne ej, upd_ne ej, getC_app hj', takeC_app (by omega)]
    exact h j hj'
section
variable {T : Nat → Int32} {c : Nat} {X0 : XS}
theorem RX_k {X : XS} {a k u : Nat} {F fw fa fe : Nat → Int32} (h : RX X0 X a k u F fw fa fe) (k' : Nat) : RX X0 (xV X 4 (nI k')) a k' u F fw fa fe := by
  obtain ⟨h1, h2, h3, h4, h5, h6, h7, h8, h9, h10⟩ := h
  exact ⟨by rw [xV_n (by omega)]; exact h1, xV_s _ _ _, by rw [xV_n (by omega)]; exact h3, h4, h5, h6, h7, h8, fun j j3 j4 j5 => by rw [xV_n j4]; exact h9 j j3 j4 j5, h10⟩
theorem cR_readsL (D : Nat) (Z : WT) (hT : tkX T c X0) (F0 : Nat → Int32) (u1 u2 : Option Value) : ∀ (m : Nat) (X : XS) (a u : Nat) (F fw fa fe : Nat → Int32) (L : List CE), RX X0 X a L.length u F fw fa fe → a ≤ c → L.length + m = 8 → u = (allO L).length → opsN (allO L) ≤ a → F = wrO F0 0 (allO L) → CI fw fa fe L → ∃ X' k' u' F' fw' fa' fe', sem PGM (D + 15) yR_reads (21, [some (.ref 14), u1, u2], [], hR Z X) = some (some (.int (bI (rdP T c m a L).1)), hR Z X') ∧ RX X0 X' (rdP T c m a L).2.1 k' u' F' fw' fa' fe' ∧ ((rdP T c m a L).1 = true → k' = (rdP T c m a L).2.2.length ∧ u' = (allO (rdP T c m a L).2.2).length ∧ F' = wrO F0 0 (allO (rdP T c m a L).2.2) ∧ CI fw' fa' fe' (rdP T c m a L).2.2)
  | 0, X, a, u, F, fw, fa, fe, L, h, ha, hl, eu, ho, eF, hC => by
    have e8 : L.length = 8 := by omega
    refine ⟨X, L.length, u, F, fw, fa, fe, ?_, h, fun _ => ⟨rfl, eu, eF, hC⟩⟩
    have y : decide ((8 : Int32) ≤ nI 8) = true := by decide
    rw [eR_reads_21, h.2.1, e8, y, cond_true, cR_token (D + 14) Z (RX_t hT h) (RX_Q h) ha, aft1, eR_reads_64, rdP]
    cases decide (T a = -1) <;> rfl
  | m + 1, X, a, u, F, fw, fa, fe, L, h, ha, hl, eu, ho, eF, hC => by
    have hE := hT.2.2.2
    have hc := hT.2.1
    have y : decide ((8 : Int32) ≤ nI L.length) = false := by rw [show (8 : Int32) = nI 8 from rfl, dle (by omega) (by omega)]; simp; omega
    rw [eR_reads_21, h.2.1, y, cond_false, cR_token (D + 14) Z (RX_t hT h) (RX_Q h) ha, aft1, eR_reads_34, rdP]
    cases e1 : decide (T a = -1) with
    | true =>
      refine ⟨X, L.length, u, F, fw, fa, fe, ?_, h, fun _ => ⟨rfl, eu, eF, hC⟩⟩
      rw [cond_true, cR_token (D + 14) Z (RX_t hT h) (RX_Q h) ha, aft1, eR_reads_64, e1]
      rfl
    | false =>
      have ll := len_ops (allO L)
      obtain ⟨X1, u', F', fw', fa', fe', c1, c2, c3⟩ := cR_clause D Z hT h ha (by omega) (by omega)
      have g := cls_g hE a ha
      rw [cond_false, cond_false, c1, aft1, eR_reads_42, bI_0]
      generalize clsP T c a = p at c2 c3 g
      cases e2 : p.1 with
      | false => exact ⟨X1, L.length, u', F', fw', fa', fe', rfl, c2, fun z => by cases z⟩
      | true =>
        rw [e2] at c3 g
        obtain ⟨t1, t2, t3, t4, t5⟩ := c3 rfl
        have g2 := g.2.2 rfl
        have en : u' = (allO (L ++ [p.2.2])).length := by rw [allO_app, allO_1, List.length_append, t1, eu]
        have len1 : (L ++ [p.2.2]).length = L.length + 1 := by rw [List.length_append]; rfl
        have r2 : RX X0 (xV X1 4 (nI (L.length + 1))) p.2.1 (L ++ [p.2.2]).length u' F' fw' fa' fe' := by
          rw [len1]
          exact RX_k c2 (L.length + 1)
        have := cR_readsL D Z hT F0 u1 u2 m _ p.2.1 u' F' fw' fa' fe' (L ++ [p.2.2]) r2 g.2.1 (by rw [len1]; omega) en (by rw [allO_app, opsN_app, allO_1]; omega) (by rw [t2, allO_app, allO_1, wrO_app, ← eF, ← eu, Nat.zero_add]) (by rw [t3, t4, t5, en]; exact CI_app hC p.2.2)
        show ∃ X' k' u' F' fw' fa' fe', sem PGM (D + 15) yR_reads (57, _, [], hR Z (xV X1 4 (X1.2.1 4 + 1))) = _ ∧ _
        rw [eR_reads_57, c2.2.1, nI_1]
        exact this
end
theorem cR_reads (D : Nat) (Z : WT) {X : XS} {n : Nat} {B : Nat → Nat} (hX : tpX n B X) : ∃ X' c k' u' F' fw' fa' fe', call PGM (D + 16) yR_reads [.ref 14, .ref 13, .int (nI n)] (hR Z X) = some (some (.int (bI (rdP (Tm n B) c 8 0 []).1)), hR Z X') ∧ c ≤ 200 ∧ Pp n B c = n ∧ (∀ t, t < c → Pp n B t < n) ∧ X'.2.1 3 = nI (rdP (Tm n B) c 8 0 []).2.1 ∧ X'.2.1 4 = nI k' ∧ X'.2.1 5 = nI u' ∧ X'.1 7 = F' ∧ X'.1 4 = fw' ∧ X'.1 5 = fa' ∧ X'.1 6 = fe' ∧ (∀ t, t ≤ c → X'.1 2 t = nI (Pp n B t)) ∧ (∀ j, 8 ≤ j ∨ j = 0 → X'.1 j = X.1 j) ∧ (∀ j, j ≠ 2 → j ≠ 3 → j ≠ 4 → j ≠ 5 → X'.2.1 j = X.2.1 j) ∧ X'.2.2 = X.2.2 ∧ ((rdP (Tm n B) c 8 0 []).1 = true → k' = (rdP (Tm n B) c 8 0 []).2.2.length ∧ u' = (allO (rdP (Tm n B) c 8 0 []).2.2).length ∧ F' = wrO (X.1 7) 0 (allO (rdP (Tm n B) c 8 0 []).2.2) ∧ CI fw' fa' fe' (rdP (Tm n B) c 8 0 []).2.2) := by
  obtain ⟨X1, c, p1, F1, P1⟩ := cR_part (D + 8) Z hX
  obtain ⟨a1, a2, a3, a4, a5, a6⟩ := P1
  have hT : tkX (Tm n B) c X1 := ⟨a1, by omega, fun t ht => (a6 t ht).2, Tm_c a4⟩
  let X2 := xV (xV (xV X1 3 0) 5 0) 4 0
  have hT2 : tkX (Tm n B) c X2 := hT
  have r0 : RX X2 X2 0 ([] : List CE).length 0 (X1.1 7) (X1.1 4) (X1.1 5) (X1.1 6) := ⟨by show (xV _ 4 0).2.1 3 = _; rw [xV_n (by omega), xV_n (by omega), xV_s]; rfl, xV_s _ _ _, by show (xV _ 4 0).2.1 5 = _; rw [xV_n (by omega), xV_s]; rfl, rfl, rfl, rfl, rfl, fun _ _ _ _ _ => rfl, fun _ _ _ _ => rfl, rfl⟩
  obtain ⟨X', k', u', F', fw', fa', fe', q1, q2, q3⟩ := cR_readsL D Z hT2 (X1.1 7) (some (.ref 13)) (some (.int (nI n))) 8 X2 0 0 _ _ _ _ [] r0 (by omega) (by rfl) rfl (Nat.le_refl _) rfl (fun j hj => by cases hj)
  obtain ⟨b1, b2, b3, b4, b5, b6, b7, b8, b9, b10⟩ := q2
  have f7 : X1.1 7 = X.1 7 := F1.1 7 (by omega) (by omega) (by omega)
  refine ⟨X', c, k', u', F', fw', fa', fe', ?_, by omega, a4, a5, b1, b2, b3, b4, b5, b6, b7, ?_, ?_, ?_, ?_, ?_⟩
  · rw [kR_reads, eR_reads_0, p1, aft0, eR_reads_6, eR_reads_11, eR_reads_16]
    exact q1
  · intro t ht
    rw [b8 2 (by omega) (by omega) (by omega) (by omega)]
    exact (a6 t ht).1
  · intro j hj
    rw [b8 j (by omega) (by omega) (by omega) (by omega)]
    exact F1.1 j (by omega) (by omega) (by omega)
  · intro j j2 j3 j4 j5
    rw [b9 j j3 j4 j5]
    show (xV (xV (xV X1 3 0) 5 0) 4 0).2.1 j = _
    rw [xV_n j4, xV_n j5, xV_n j3]
    exact F1.2.1 j j2
  · rw [b10]
    exact F1.2.2
  · intro hr
    rw [← f7]
    exact q3 hr
