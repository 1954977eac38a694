/-! What was made later: cells by number. -/
theorem hat_ge (A B : AH) (j : Nat) : hat (A ++ B) (A.length + j) = hat B j := by
  induction A with
  | nil => rw [List.nil_append, List.length_nil, Nat.zero_add]
  | cons x t ih =>
    rw [List.length_cons, show t.length + 1 + j = (t.length + j) + 1 by omega]
    exact ih
theorem hat_len (A B : AH) : hat (A ++ B) A.length = hat B 0 := hat_ge A B 0
theorem hat_lt {A : AH} {j : Nat} {c : AC} (h : hat A j = some c) : j < A.length := by
  induction A generalizing j with
  | nil => cases h
  | cons x t ih =>
    cases j with
    | zero => simp
    | succ j =>
      have := ih (j := j) h
      simp
      omega
theorem hat_set_ne {A : AH} {i k : Nat} {c : AC} (h : k ≠ i) : hat (A.set i c) k = hat A k := by
  induction A generalizing i k with
  | nil => rfl
  | cons x t ih =>
    cases i with
    | zero =>
      cases k with
      | zero => exact absurd rfl h
      | succ k => rfl
    | succ i =>
      cases k with
      | zero => rfl
      | succ k => exact ih (by omega)
theorem hat_set_eq {A : AH} {i : Nat} {c x : AC} (h : hat A i = some x) : hat (A.set i c) i = some c := by
  induction A generalizing i with
  | nil => cases h
  | cons y t ih =>
    cases i with
    | zero => rfl
    | succ i => exact ih h
theorem sl_put {A : AH} {i : Nat} {c x : AC} (h : hat A i = some x) (e : slc c = slc x) : sl (A.set i c) = sl A := by
  induction A generalizing i with
  | nil => cases h
  | cons y t ih =>
    cases i with
    | zero =>
      cases h
      show slc c + sl t = slc x + sl t
      rw [e]
    | succ i =>
      show slc y + sl (t.set i c) = slc y + sl t
      rw [ih h]
theorem pF_at (A B : AH) (ci : Nat) (fs : List Value) (k : Nat) (v : Value) : pF (A ++ .inr (ci, fs) :: B) A.length k v = A ++ .inr (ci, fs.set k v) :: B := by
  unfold pF
  rw [hat_len]
  show (A ++ .inr (ci, fs) :: B).set A.length (.inr (ci, fs.set k v)) = _
  rw [List.set_append_right _ _ (Nat.le_refl _), Nat.sub_self]
  rfl
theorem okP_at (A B : AH) (ci : Nat) (fs : List Value) (k : Nat) (hA : 12 ≤ A.length) : okP (A ++ .inr (ci, fs) :: B) A.length ci k = Nat.blt k fs.length := by
  unfold okP
  rw [hat_len]
  show (Nat.ble 12 A.length && (Nat.beq ci ci && Nat.blt k fs.length)) = _
  rw [Nat.ble_eq_true_of_le hA, Nat.beq_refl, Bool.true_and, Bool.true_and]
theorem cH_init (d : Nat) (A : AH) (hA : 12 ≤ A.length) (t : Int32) {n : Nat} (hn : n ≤ 40) : call PGM (d + 1) yH_init [.ref A.length, .int t, .int (nI n)] (A ++ [objOf dfls 4]) = some (none, A ++ [.inr (4, [.int t, .ref (A.length + 1)]), .inl (.int, n, .inl (fun _ => 0))]) := by
  have k1 : call PGM (d + 1) yH_init [.ref A.length, .int t, .int (nI n)] (A ++ [objOf dfls 4]) = sem PGM d yH_init (0, [some (.ref A.length), some (.int t), some (.int (nI n))], [], A ++ [objOf dfls 4]) := rfl
  have ob : objOf dfls 4 = .inr (4, [.int 0, .null]) := rfl
  have mx : (if (0 : Int32) < nI n then nI n else 0) = nI n := by
    by_cases h : n = 0
    · subst h; rfl
    · have hp : (0 : Int32) < nI n := (nI_ltI (a := 0) (b := n) (by omega) (by omega)).mpr (by omega)
      rw [if_pos hp]
  have sm : small (nI n) = true := by
    unfold small
    rw [show (0 : Int32) = nI 0 from rfl, show (100000 : Int32) = nI 100000 from rfl, dle (by omega) (by omega), dle (by omega) (by omega)]
    simp
    omega
  have ln : (A ++ [(.inr (4, [Value.int t, Value.null]) : AC)] : AH).length = A.length + 1 := by simp
  rw [k1, eH_init_0, Nat.ble_eq_true_of_le hA, ob, okP_at A [] 4 _ 0 hA, pF_at, mx, sm, eH_init_17]
  have cat : ∀ x : AC, (A ++ (.inr (4, [Value.int t, Value.null]) : AC) :: []) ++ [x] = A ++ (.inr (4, [Value.int t, Value.null]) : AC) :: [x] := fun x => by simp
  show (bif true && true then bif Nat.blt 0 2 then bif true then (bif okP ((A ++ [(.inr (4, [Value.int t, Value.null]) : AC)]) ++ [_]) A.length 4 1 && !(Nat.beq (A ++ [(.inr (4, [Value.int t, Value.null]) : AC)]).length 9) then some (none, pF ((A ++ [(.inr (4, [Value.int t, Value.null]) : AC)]) ++ [_]) A.length 1 (.ref (A ++ [(.inr (4, [Value.int t, Value.null]) : AC)]).length)) else none) else none else none else none) = _
  rw [cat, okP_at A _ 4 _ 1 hA, pF_at, ln, nclamp (by omega)]
  have ne : Nat.beq (A.length + 1) 9 = false := by
    cases e : Nat.beq (A.length + 1) 9 with
    | false => rfl
    | true =>
      have := Nat.eq_of_beq_eq_true e
      omega
  rw [ne]
  rfl
set_option maxRecDepth 100000 in
theorem heapOf_len (g : GT) (X : XS) (N T K : SS) (M : MS) (dd : AH) : (heapOf g X N T K M dd).length = dd.length + 108 := rfl
theorem heapOf_app (g : GT) (X : XS) (N T K : SS) (M : MS) (dd ee : AH) : heapOf g X N T K M dd ++ ee = heapOf g X N T K M (dd ++ ee) := by
  unfold heapOf
  simp only [List.append_assoc]
set_option maxRecDepth 100000 in
theorem heapOf_set (g : GT) (X : XS) (N T K : SS) (M : MS) (dd : AH) (j : Nat) (c : AC) : (heapOf g X N T K M dd).set (j + 108) c = heapOf g X N T K M (dd.set j c) := rfl
-- a row of a sort
theorem shA_app {dd ee : AH} {j t n : Nat} {f : Nat → Int32} (h : shA dd j t n f) : shA (dd ++ ee) j t n f := ⟨h.1, h.2.1, hat_app h.2.2.1, hat_app h.2.2.2⟩
theorem sh_ok {g : GT} {X : XS} {N T K : SS} {M : MS} {dd : AH} {j t n : Nat} {f : Nat → Int32} (h : shA dd j t n f) :
    okC (heapOf g X N T K M dd) (j + 108) 4 = true ∧ okI (heapOf g X N T K M dd) (j + 108) 4 0 = true ∧ gI (heapOf g X N T K M dd) (j + 108) 0 = nI t ∧ okN (heapOf g X N T K M dd) (j + 108) 4 1 = false ∧ okR (heapOf g X N T K M dd) (j + 108) 4 1 = true ∧ gR (heapOf g X N T K M dd) (j + 108) 1 = j + 109 ∧ okL (heapOf g X N T K M dd) (j + 109) = true ∧ lenA (heapOf g X N T K M dd) (j + 109) = n ∧ (∀ i, i < n → inA (heapOf g X N T K M dd) (j + 109) 0 (nI i) = true ∧ rA (heapOf g X N T K M dd) (j + 109) (nI i) = f i ∧ ∀ v, wA (heapOf g X N T K M dd) (j + 109) (nI i) v = heapOf g X N T K M (dd.set (j + 1) (.inl (.int, n, .inl (upd f i v))))) := by
  obtain ⟨_, hn, h0, h1⟩ := h
  have a0 : hat (heapOf g X N T K M dd) (j + 108) = some (.inr (4, [.int (nI t), .ref (j + 109)])) := (heapOf_dd g X N T K M dd j).trans h0
  have a1 : hat (heapOf g X N T K M dd) (j + 109) = some (.inl (.int, n, .inl f)) := (heapOf_dd g X N T K M dd (j + 1)).trans h1
  refine ⟨?_, ?_, ?_, ?_, ?_, ?_, ?_, ?_, fun i hi => ⟨?_, ?_, fun v => ?_⟩⟩
  · unfold okC; rw [a0]; rfl
  · unfold okI; rw [a0]; rfl
  · unfold gI; rw [a0]; rfl
  · unfold okN; rw [a0]; rfl
  · unfold okR; rw [a0]; rfl
  · unfold gR; rw [a0]; rfl
  · unfold okL; rw [a1]
  · unfold lenA; rw [a1]
  · unfold inA
    rw [a1]
    show (true && inb (nI i) n) = true
    rw [inb_nI (by omega), Bool.true_and, decide_eq_true hi]
  · unfold rA
    rw [a1]
    show f (nI i).toNatClampNeg = _
    rw [nclamp (by omega)]
  · unfold wA
    rw [a1]
    show (heapOf g X N T K M dd).set (j + 109) (.inl (.int, n, .inl (upd f (nI i).toNatClampNeg v))) = _
    rw [nclamp (by omega)]
    exact heapOf_set g X N T K M dd (j + 1) _
theorem cH_has (d : Nat) (g : GT) (X : XS) (N T K : SS) (M : MS) {dd : AH} {j t n : Nat} {f : Nat → Int32} (h : shA dd j t n f) (i : Int32) : call PGM (d + 1) yH_has [.ref (j + 108), .int i] (heapOf g X N T K M dd) = some (some (.int (bI (hasB i n))), heapOf g X N T K M dd) := by
  obtain ⟨o1, o2, o3, o4, o5, o6, o7, o8, _⟩ := sh_ok (g := g) (X := X) (N := N) (T := T) (K := K) (M := M) h
  rw [kH_has, eH_has_0, o4, o5, o6, o7, o8, hasB, le_not_lt]
  cases decide (i < 0) <;> cases decide (i < nI n) <;> rfl
def narV (t v : Int32) : Int32 := bif decide (t = 0) then v.toInt8.toInt32 else bif decide (t = 1) then v.toInt16.toInt32 else bif decide (t = 4) then (bif decide (v = 0) then 0 else 1) else v
theorem cH_narrowed (d : Nat) (g : GT) (X : XS) (N T K : SS) (M : MS) {dd : AH} {j t n : Nat} {f : Nat → Int32} (h : shA dd j t n f) (v : Int32) : call PGM (d + 1) yH_narrowed [.ref (j + 108), .int v] (heapOf g X N T K M dd) = some (some (.int (narV (nI t) v)), heapOf g X N T K M dd) := by
  obtain ⟨o1, o2, o3, o4, o5, o6, o7, o8, _⟩ := sh_ok (g := g) (X := X) (N := N) (T := T) (K := K) (M := M) h
  rw [kH_narrowed, eH_narrowed_0, o2, o3, narV]
  cases decide (nI t = 0) <;> cases decide (nI t = 1) <;> cases decide (nI t = 4) <;> cases decide (v = 0) <;> rfl
theorem cM_narrowed (d : Nat) (h : AH) (t v : Int32) : call PGM (d + 1) yM_narrowed [.int t, .int v] h = some (some (.int (narV t v)), h) := by
  rw [kM_narrowed, eM_narrowed_0, narV]
  cases decide (t = 0) <;> cases decide (t = 1) <;> cases decide (t = 4) <;> cases decide (v = 0) <;> rfl
theorem cM_isOne (d : Nat) (h : AH) (i : Int32) : call PGM (d + 2) yM_isOne [.int i] h = some (some (.int (bI (hasB i 4))), h) := by
  rw [kM_isOne, eM_isOne_0, w0, w3, cM_rng d, aft1, eM_isOne_9, bI_B, cond_true, has_rng i (by omega)]
theorem INV_H {i : Nat} {X X' : XS} {N K : SS} {M M' : MS} {dd dd' : AH} (h : INV i X N K M dd) (x1 : ∀ k, k ≠ 14 → k ≠ 15 → X'.1 k = X.1 k) (x2 : X'.2.1 = X.2.1) (m1 : ∀ k, (k < 9 ∨ 15 ≤ k) → M'.1 k = M.1 k) (m2 : M'.2 = M.2) (hl : ∀ l n C, lawD dd l n C → lawD dd' l n C) (hH : iH X' M' dd') (hE : iE X' M' dd') (hD : iD (i + 1) dd') : INV (i + 1) X' N K M' dd' := by
  obtain ⟨⟨⟨nc, np, nb, n, C, a1, a2, a3, a4⟩, a'⟩, b, c, e, f, g, k, l, m⟩ := INV_mono h
  refine ⟨⟨⟨nc, np, nb, n, C, ?_⟩, a'⟩, ?_, ?_, ?_, hH, hE, ?_, ?_, hD⟩
  · rw [m1 0 (by omega)]
    exact ⟨a1, a2, a3, hl _ _ _ a4⟩
  · unfold iK
    rw [x2, m2, m1 1 (by omega)]
    rcases b with b | ⟨b1, b2, nc', np', nb', n', C', b3, b4, b5, b6⟩
    · exact Or.inl b
    · exact Or.inr ⟨b1, b2, nc', np', nb', n', C', b3, b4, b5, hl _ _ _ b6⟩
  · unfold iT; rw [x2, m2, m1 3 (by omega), x1 0 (by omega) (by omega)]; exact c
  · unfold iR; rw [x2, m2, m1 8 (by omega), x1 8 (by omega) (by omega), x1 9 (by omega) (by omega), x1 10 (by omega) (by omega)]; exact e
  · unfold iB; rw [x2, m2, m1 15 (by omega), x1 16 (by omega) (by omega)]; exact k
  · unfold iM; rw [m2]; exact l
theorem xO_1 (X : XS) (k : Nat) (f : Nat → Option Nat) : (xO X k f).1 = X.1 := id rfl
theorem xO_v (X : XS) (k : Nat) (f : Nat → Option Nat) : (xO X k f).2.1 = X.2.1 := id rfl
theorem xO_s (X : XS) (k : Nat) (f : Nat → Option Nat) : (xO X k f).2.2 k = f := up_s _ _ _
theorem xO_n {X : XS} {k j : Nat} {f : Nat → Option Nat} (h : j ≠ k) : (xO X k f).2.2 j = X.2.2 j := up_n h
theorem vup_eq {α : Type} (f : Nat → α) (k : Nat) (v : α) : va_up f k v k = v := by simp [va_up]
theorem vup_ne {α : Type} {f : Nat → α} {k j : Nat} {v : α} (h : j ≠ k) : va_up f k v j = f j := by simp [va_up, h]
