/-! The model reads a CLAUSE. -/
def whoI (t : Int32) : Int32 := bif decide (t = nI 10006) then 0 else bif decide (t = nI 10008) then 2 else bif decide (t = nI 10007) then 1 else bif decide (t = nI 10009) then 3 else bif decide (t = nI 10010) then 4 else bif decide (t = nI 10011) then 5 else bif decide (t = nI 10012) then 6 else bif decide (t = nI 10013) then 7 else -1
def actI (t : Int32) : Int32 := bif decide (t = nI 10014) then 0 else bif decide (t = nI 10015) then 1 else bif decide (t = nI 10016) then 2 else bif decide (t = nI 10017) then 3 else -1
theorem whoI_c (t : Int32) : (∃ i, i < 8 ∧ t = nI (10006 + i) ∧ whoI t = nI i ∧ whoB t = true) ∨ (whoB t = false ∧ whoI t = -1) := by
  cases h : whoB t with
  | true =>
    obtain ⟨v, hv, e⟩ := whoB_n h
    refine Or.inl ⟨v, hv, e, ?_, rfl⟩
    have e8 : v = 0 ∨ v = 1 ∨ v = 2 ∨ v = 3 ∨ v = 4 ∨ v = 5 ∨ v = 6 ∨ v = 7 := by omega
    rcases e8 with e' | e' | e' | e' | e' | e' | e' | e' <;> subst e' <;> subst e <;> decide
  | false =>
    refine Or.inr ⟨rfl, ?_⟩
    have no : ∀ i, i < 8 → ¬ t = nI (10006 + i) := by
      intro i hi e
      have e8 : i = 0 ∨ i = 1 ∨ i = 2 ∨ i = 3 ∨ i = 4 ∨ i = 5 ∨ i = 6 ∨ i = 7 := by omega
      rcases e8 with e' | e' | e' | e' | e' | e' | e' | e' <;> subst e' <;> subst e <;> revert h <;> decide
    have n0 := no 0 (by omega)
    have n1 := no 1 (by omega)
    have n2 := no 2 (by omega)
    have n3 := no 3 (by omega)
    have n4 := no 4 (by omega)
    have n5 := no 5 (by omega)
    have n6 := no 6 (by omega)
    have n7 := no 7 (by omega)
    unfold whoI
    rw [decide_eq_false n0, decide_eq_false n1, decide_eq_false n2, decide_eq_false n3, decide_eq_false n4, decide_eq_false n5, decide_eq_false n6, decide_eq_false n7]
    rfl
theorem actI_c (t : Int32) : (∃ i, i < 4 ∧ t = nI (10014 + i) ∧ actI t = nI i ∧ actB t = true) ∨ (actB t = false ∧ actI t = -1) := by
  cases h : actB t with
  | true =>
    obtain ⟨v, hv, e⟩ := actB_n h
    refine Or.inl ⟨v, hv, e, ?_, rfl⟩
    have e8 : v = 0 ∨ v = 1 ∨ v = 2 ∨ v = 3 := by omega
    rcases e8 with e' | e' | e' | e' <;> subst e' <;> subst e <;> decide
  | false =>
    refine Or.inr ⟨rfl, ?_⟩
    have no : ∀ i, i < 4 → ¬ t = nI (10014 + i) := by
      intro i hi e
      have e8 : i = 0 ∨ i = 1 ∨ i = 2 ∨ i = 3 := by omega
      rcases e8 with e' | e' | e' | e' <;> subst e' <;> subst e <;> revert h <;> decide
    have n0 := no 0 (by omega)
    have n1 := no 1 (by omega)
    have n2 := no 2 (by omega)
    have n3 := no 3 (by omega)
    unfold actI
    rw [decide_eq_false n0, decide_eq_false n1, decide_eq_false n2, decide_eq_false n3]
    rfl
section
variable {n : Nat} {B : Nat → Nat} {M0 : MS} {c : Nat}
theorem cM_actHere (d : Nat) (Z : ZT) (hb : tpM n B M0) {M : MS} {a s o : Nat} {G : Nat → Int32} (h : QM n B M0 M a s o false G) : call PGM (d + 4) yM_actHere [.ref 91] (hM Z M) = some (some (.int (actI (Tm n B a))), hM Z M) := by
  have r0 : call PGM (d + 3) yM_isName [.ref 91, .int 114, .int 117, .int 110, .int 0, .int 0, .int 0, .int 0, .int 0] (hM Z M) = some (some (.int (bI (!false && decide (Tm n B a = nI 10014)))), hM Z M) := cM_name d Z hb h 14 (by omega)
  have r1 : call PGM (d + 3) yM_isName [.ref 91, .int 115, .int 116, .int 97, .int 110, .int 100, .int 0, .int 0, .int 0] (hM Z M) = some (some (.int (bI (!false && decide (Tm n B a = nI 10015)))), hM Z M) := cM_name d Z hb h 15 (by omega)
  have r2 : call PGM (d + 3) yM_isName [.ref 91, .int 108, .int 101, .int 97, .int 118, .int 101, .int 0, .int 0, .int 0] (hM Z M) = some (some (.int (bI (!false && decide (Tm n B a = nI 10016)))), hM Z M) := cM_name d Z hb h 16 (by omega)
  have r3 : call PGM (d + 3) yM_isName [.ref 91, .int 100, .int 111, .int 119, .int 110, .int 0, .int 0, .int 0, .int 0] (hM Z M) = some (some (.int (bI (!false && decide (Tm n B a = nI 10017)))), hM Z M) := cM_name d Z hb h 17 (by omega)
  rw [kM_actHere, eM_actHere_0, r0, aft1, eM_actHere_15, bI_0, r1, aft1, eM_actHere_39, bI_0, r2, aft1, eM_actHere_63, bI_0, r3, aft1, eM_actHere_86, bI_0]
  unfold actI
  cases decide (Tm n B a = nI 10014) with
  | true => rfl
  | false =>
    cases decide (Tm n B a = nI 10015) with
    | true => rfl
    | false =>
      cases decide (Tm n B a = nI 10016) with
      | true => rfl
      | false => cases decide (Tm n B a = nI 10017) <;> rfl
theorem cM_actHereW (d : Nat) (Z : ZT) {M : MS} (h : M.2 7 = bI true) : call PGM (d + 2) yM_actHere [.ref 91] (hM Z M) = some (some (.int (-1)), hM Z M) := by
  have z : decide ((0 : Int32) = 0) = true := by decide
  rw [kM_actHere, eM_actHere_0, cM_isNameW d Z h, aft1, eM_actHere_15, z, cond_true, cM_isNameW d Z h, aft1, eM_actHere_39, z, cond_true, cM_isNameW d Z h, aft1, eM_actHere_63, z, cond_true, cM_isNameW d Z h, aft1, eM_actHere_86, z, cond_true]
theorem cM_whoHere (d : Nat) (Z : ZT) (hb : tpM n B M0) {M : MS} {a s o : Nat} {G : Nat → Int32} (h : QM n B M0 M a s o false G) : call PGM (d + 4) yM_whoHere [.ref 91] (hM Z M) = some (some (.int (whoI (Tm n B a))), hM Z M) := by
  have hn := hb.2.1
  have hB : ∀ k, k < n → B k < 256 := fun k hk => (hb.2.2 k hk).1
  have pl := Pp_le n B a
  have el := Ee_le n B a
  have r0 : call PGM (d + 3) yM_isName [.ref 91, .int 97, .int 108, .int 108, .int 0, .int 0, .int 0, .int 0, .int 0] (hM Z M) = some (some (.int (bI (!false && decide (Tm n B a = nI 10006)))), hM Z M) := cM_name d Z hb h 6 (by omega)
  have r1 : call PGM (d + 3) yM_isName [.ref 91, .int 114, .int 117, .int 110, .int 110, .int 105, .int 110, .int 103, .int 0] (hM Z M) = some (some (.int (bI (!false && decide (Tm n B a = nI 10007)))), hM Z M) := cM_name d Z hb h 7 (by omega)
  have r2 : call PGM (d + 3) yM_isName [.ref 91, .int 115, .int 116, .int 97, .int 110, .int 100, .int 105, .int 110, .int 103] (hM Z M) = some (some (.int (bI (!false && decide (Tm n B a = nI 10008)))), hM Z M) := cM_name d Z hb h 8 (by omega)
  have r3 : call PGM (d + 3) yM_isName [.ref 91, .int 102, .int 97, .int 108, .int 108, .int 101, .int 110, .int 0, .int 0] (hM Z M) = some (some (.int (bI (!false && decide (Tm n B a = nI 10009)))), hM Z M) := cM_name d Z hb h 9 (by omega)
  have r4 : call PGM (d + 3) yM_isName [.ref 91, .int 116, .int 111, .int 117, .int 99, .int 104, .int 105, .int 110, .int 103] (hM Z M) = some (some (.int (bI (!false && decide (Tm n B a = nI 10010)))), hM Z M) := cM_name d Z hb h 10 (by omega)
  have r5 : call PGM (d + 3) yM_isName [.ref 91, .int 110, .int 101, .int 119, .int 0, .int 0, .int 0, .int 0, .int 0] (hM Z M) = some (some (.int (bI (!false && decide (Tm n B a = nI 10011)))), hM Z M) := cM_name d Z hb h 11 (by omega)
  have r6 : call PGM (d + 3) yM_isName [.ref 91, .int 104, .int 101, .int 97, .int 112, .int 101, .int 100, .int 0, .int 0] (hM Z M) = some (some (.int (bI (!false && decide (Tm n B a = nI 10012)))), hM Z M) := cM_name d Z hb h 12 (by omega)
  have r7 : call PGM (d + 3) yM_isName [.ref 91, .int 108, .int 101, .int 97, .int 118, .int 105, .int 110, .int 103, .int 0] (hM Z M) = some (some (.int (bI (!false && decide (Tm n B a = nI 10013)))), hM Z M) := cM_name d Z hb h 13 (by omega)
  have bt : call PGM (d + 3) yM_byteAt [.ref 91, .int (M.2 2 + 7)] (hM Z M) = some (some (.int (bv n B (Pp n B a + 7))), hM Z M) := by
    rw [h.1, show (7 : Int32) = nI 7 from rfl, nI_add, cM_byteAt (d + 2) Z (QM_tp hb h) _ (by omega)]
  have g : decide (Tm n B a = nI 10008) = true → decide (bv n B (Pp n B a + 7) = 103) = true := by
    intro e
    have tw := tk_word pl hB (Pp_ns n B a) 8 (by omega)
    have e' : decide (tkI n B (Pp n B a) = nI (10000 + 8)) = true := e
    rw [e'] at tw
    have tx := (txt_eq B _ _ _).mp (of_decide_eq_true tw)
    have l8 : (WL.getD 8 []).length = 8 := by decide
    have b7 := tx.2 7 (by rw [l8]; omega)
    have t1 := tx.1
    rw [l8] at t1
    have g7 : (WL.getD 8 []).getD 7 0 = 103 := by decide
    rw [g7] at b7
    have el' : Pp n B a ≤ eo n B (Pp n B a) ∧ eo n B (Pp n B a) ≤ n := ⟨el.1, el.2.1⟩
    show decide (bv n B (Pp n B a + 7) = nI 103) = true
    rw [bv_c hB _ 103 (by omega)]
    exact decide_eq_true ⟨by omega, b7⟩
  rw [kM_whoHere, eM_whoHere_0, r0, aft1, eM_whoHere_15, bI_0, r2, aft1, eM_whoHere_40, bI_0, bt, aft1, eM_whoHere_54, r1, aft1, eM_whoHere_80, bI_0, r3, aft1, eM_whoHere_105, bI_0, r4, aft1, eM_whoHere_132, bI_0, r5, aft1, eM_whoHere_154, bI_0, r6, aft1, eM_whoHere_179, bI_0, r7, aft1, eM_whoHere_206, bI_0]
  unfold whoI
  cases decide (Tm n B a = nI 10006) with
  | true => rfl
  | false =>
    cases e8 : decide (Tm n B a = nI 10008) with
    | true =>
      rw [g e8]
      rfl
    | false =>
      cases decide (Tm n B a = nI 10007) with
      | true => rfl
      | false =>
        cases decide (Tm n B a = nI 10009) with
        | true => rfl
        | false =>
          cases decide (Tm n B a = nI 10010) with
          | true => rfl
          | false =>
            cases decide (Tm n B a = nI 10011) with
            | true => rfl
            | false =>
              cases decide (Tm n B a = nI 10012) with
              | true => rfl
              | false => cases decide (Tm n B a = nI 10013) <;> rfl
/-- the model between CLAUSES -/
def YM (n : Nat) (B : Nat → Nat) (M0 M : MS) (a s k : Nat) (w : Bool) (G H : Nat → Int32) : Prop := M.2 2 = nI (Pp n B a) ∧ M.2 3 = nI (Ee n B a) ∧ M.2 4 = nI 0 ∧ M.2 5 = nI s ∧ M.2 6 = nI k ∧ M.2 7 = bI w ∧ M.1 4 = G ∧ M.1 5 = H ∧ (∀ j, j ≠ 2 → j ≠ 3 → j ≠ 4 → j ≠ 5 → j ≠ 6 → j ≠ 7 → M.2 j = M0.2 j) ∧ (∀ j, j ≠ 4 → j ≠ 5 → M.1 j = M0.1 j)
theorem YM_t {M : MS} {a s k : Nat} {w : Bool} {G H : Nat → Int32} (hb : tpM n B M0) (h : YM n B M0 M a s k w G H) : tpM n B M := by
  obtain ⟨h1, h2, h3, h4, h5, h6, h7, h8, h9, h10⟩ := h
  exact ⟨by rw [h9 1 (by omega) (by omega) (by omega) (by omega) (by omega) (by omega)]; exact hb.1, hb.2.1, by rw [h10 3 (by omega) (by omega)]; exact hb.2.2⟩
theorem YM_Q {M : MS} {a s k : Nat} {w : Bool} {G H : Nat → Int32} (h : YM n B M0 M a s k w G H) : QM n B M M a s 0 w G := by
  obtain ⟨h1, h2, h3, h4, h5, h6, h7, h8, h9, h10⟩ := h
  exact ⟨h1, h2, h3, h4, h6, h7, fun _ _ _ _ _ _ => rfl, fun _ _ => rfl⟩
theorem YM_b {M M' : MS} {a a' s s' k : Nat} {w w' : Bool} {G G' H : Nat → Int32} (h : YM n B M0 M a s k w G H) (q : QM n B M M' a' s' 0 w' G') : YM n B M0 M' a' s' k w' G' H := by
  obtain ⟨h1, h2, h3, h4, h5, h6, h7, h8, h9, h10⟩ := h
  obtain ⟨q1, q2, q3, q4, q5, q6, q7, q8⟩ := q
  exact ⟨q1, q2, q3, q4, (q7 6 (by omega) (by omega) (by omega) (by omega) (by omega)).trans h5, q5, q6, (q8 5 (by omega)).trans h8, fun j j2 j3 j4 j5 j6 j7 => (q7 j j2 j3 j4 j5 j7).trans (h9 j j2 j3 j4 j5 j6 j7), fun j j4 j5 => (q8 j j4).trans (h10 j j4 j5)⟩
theorem YM_H {M : MS} {a s k : Nat} {w : Bool} {G H : Nat → Int32} (h : YM n B M0 M a s k w G H) (f : Nat → Int32) : YM n B M0 (mA M 5 f) a s k w G f := by
  obtain ⟨h1, h2, h3, h4, h5, h6, h7, h8, h9, h10⟩ := h
  exact ⟨h1, h2, h3, h4, h5, h6, by rw [mA_n (by omega)]; exact h7, mA_s _ _ _, h9, fun j j4 j5 => by rw [mA_n j5]; exact h10 j j4 j5⟩
theorem YM_k {M : MS} {a s k : Nat} {w : Bool} {G H : Nat → Int32} (h : YM n B M0 M a s k w G H) (k' : Nat) : YM n B M0 (mV M 6 (nI k')) a s k' w G H := by
  obtain ⟨h1, h2, h3, h4, h5, h6, h7, h8, h9, h10⟩ := h
  exact ⟨by rw [mV_n (by omega)]; exact h1, by rw [mV_n (by omega)]; exact h2, by rw [mV_n (by omega)]; exact h3, by rw [mV_n (by omega)]; exact h4, mV_s _ _ _, by rw [mV_n (by omega)]; exact h6, h7, h8, fun j j2 j3 j4 j5 j6 j7 => by rw [mV_n j6]; exact h9 j j2 j3 j4 j5 j6 j7, h10⟩
/-- a CLAUSE as the model lays it down -/
def wrC (H : Nat → Int32) (k : Nat) (e : CE) (s s' : Nat) : Nat → Int32 := upd (upd (upd (upd (upd H (5 * k) (nI e.1)) (5 * k + 1) (nI e.2.1)) (5 * k + 2) (bI e.2.2.1)) (5 * k + 3) (nI s)) (5 * k + 4) (nI s')
end
