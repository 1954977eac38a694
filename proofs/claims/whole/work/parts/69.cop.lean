/-! The class's street: copies. Written by a program (see NOTES). -/
theorem cpy0 (f g : Nat → Int32) (n : Nat) {k : Nat} (h : k < n) : va_cpy f g 0 0 n k = f k := by
  unfold va_cpy
  rw [if_pos ⟨Nat.zero_le _, by omega⟩]
  congr 1
  omega
def cpR (N T : SS) (k n : Nat) : SS := sA T k (va_cpy (N.1 k) (T.1 k) 0 0 n)
def copS (N T : SS) : SS := sV (sL (sV (sV (cpR N (cpR N (cpR N (cpR N (sV (cpR N (cpR N (cpR N (cpR N (sV (cpR N (cpR N (cpR N (cpR N (cpR N (sV T 0 (N.2.1 0)) 0 30) 1 30) 2 30) 3 30) 4 30) 1 (N.2.1 1)) 5 20) 6 20) 7 20) 8 20) 2 (N.2.1 2)) 9 6) 10 6) 11 6) 12 3) 3 (N.2.1 3)) 4 (N.2.1 4)) N.2.2) 5 (-9)
theorem cpR_s (N T : SS) (k n : Nat) {j : Nat} (h : j < n) : (cpR N T k n).1 k j = N.1 k j := by
  rw [cpR, sA_s, cpy0 _ _ _ h]
theorem cpR_n {N T : SS} {k n j : Nat} (h : j ≠ k) : (cpR N T k n).1 j = T.1 j := sA_n h
theorem cpR_2 (N T : SS) (k n : Nat) : (cpR N T k n).2 = T.2 := id rfl
theorem copS_L (N T : SS) : (copS N T).2.2 = N.2.2 := id rfl
theorem copS_w (N T : SS) : (copS N T).2.1 5 = OU := id rfl
theorem copS_v (N T : SS) {k : Nat} (h : k < 5) : (copS N T).2.1 k = N.2.1 k := by
  have e : k = 0 ∨ k = 1 ∨ k = 2 ∨ k = 3 ∨ k = 4 := by omega
  rcases e with rfl | rfl | rfl | rfl | rfl <;> rfl

theorem copS_0 (N T : SS) {j : Nat} (h : j < 30) : (copS N T).1 0 j = N.1 0 j := by
  show (va_cpy (N.1 0) (T.1 0) 0 0 30) j = _
  exact cpy0 _ _ _ h
theorem copS_1 (N T : SS) {j : Nat} (h : j < 30) : (copS N T).1 1 j = N.1 1 j := by
  show (va_cpy (N.1 1) (T.1 1) 0 0 30) j = _
  exact cpy0 _ _ _ h
theorem copS_2 (N T : SS) {j : Nat} (h : j < 30) : (copS N T).1 2 j = N.1 2 j := by
  show (va_cpy (N.1 2) (T.1 2) 0 0 30) j = _
  exact cpy0 _ _ _ h
theorem copS_3 (N T : SS) {j : Nat} (h : j < 30) : (copS N T).1 3 j = N.1 3 j := by
  show (va_cpy (N.1 3) (T.1 3) 0 0 30) j = _
  exact cpy0 _ _ _ h
theorem copS_4 (N T : SS) {j : Nat} (h : j < 30) : (copS N T).1 4 j = N.1 4 j := by
  show (va_cpy (N.1 4) (T.1 4) 0 0 30) j = _
  exact cpy0 _ _ _ h
theorem copS_5 (N T : SS) {j : Nat} (h : j < 20) : (copS N T).1 5 j = N.1 5 j := by
  show (va_cpy (N.1 5) (T.1 5) 0 0 20) j = _
  exact cpy0 _ _ _ h
theorem copS_6 (N T : SS) {j : Nat} (h : j < 20) : (copS N T).1 6 j = N.1 6 j := by
  show (va_cpy (N.1 6) (T.1 6) 0 0 20) j = _
  exact cpy0 _ _ _ h
theorem copS_7 (N T : SS) {j : Nat} (h : j < 20) : (copS N T).1 7 j = N.1 7 j := by
  show (va_cpy (N.1 7) (T.1 7) 0 0 20) j = _
  exact cpy0 _ _ _ h
theorem copS_8 (N T : SS) {j : Nat} (h : j < 20) : (copS N T).1 8 j = N.1 8 j := by
  show (va_cpy (N.1 8) (T.1 8) 0 0 20) j = _
  exact cpy0 _ _ _ h
theorem copS_9 (N T : SS) {j : Nat} (h : j < 6) : (copS N T).1 9 j = N.1 9 j := by
  show (va_cpy (N.1 9) (T.1 9) 0 0 6) j = _
  exact cpy0 _ _ _ h
theorem copS_10 (N T : SS) {j : Nat} (h : j < 6) : (copS N T).1 10 j = N.1 10 j := by
  show (va_cpy (N.1 10) (T.1 10) 0 0 6) j = _
  exact cpy0 _ _ _ h
theorem copS_11 (N T : SS) {j : Nat} (h : j < 6) : (copS N T).1 11 j = N.1 11 j := by
  show (va_cpy (N.1 11) (T.1 11) 0 0 6) j = _
  exact cpy0 _ _ _ h
theorem copS_12 (N T : SS) {j : Nat} (h : j < 3) : (copS N T).1 12 j = N.1 12 j := by
  show (va_cpy (N.1 12) (T.1 12) 0 0 3) j = _
  exact cpy0 _ _ _ h
theorem copS_RS {N : SS} (T : SS) {s : Nat → Int32} {np nb : Nat} (h : RS N s np nb) (hnp : np ≤ 20) (hnb : nb ≤ 6) : RS (copS N T) s np nb := by
  obtain ⟨hV, hC, hP, hB, hR, hN⟩ := h
  refine ⟨fun k hk => ?_, fun c hc => ?_, fun p hp => ?_, fun b hb => ?_, fun k hk => ?_, fun c hc => ?_⟩
  · rw [copS_v N T hk]; exact hV k hk
  · rw [copS_0 N T hc, copS_1 N T hc, copS_2 N T hc]; exact hC c hc
  · rw [copS_5 N T (by omega), copS_6 N T (by omega), copS_7 N T (by omega), copS_8 N T (by omega)]; exact hP p hp
  · rw [copS_9 N T (by omega), copS_10 N T (by omega), copS_11 N T (by omega)]; exact hB b hb
  · rw [copS_12 N T hk]; exact hR k hk
  · rw [copS_3 N T hc, copS_4 N T hc]; exact hN c hc

set_option maxRecDepth 100000 in
theorem cr_59_43_0 (d : Nat) (g : GT) (X : XS) (N T K : SS) (M : MS) (dd : AH) : call PGM (d + 1) yS_copyRow [.ref 45, .ref 61] (heapOf g X N T K M dd) = some (none, (heapOf g X N (cpR N T 0 30) K M dd)) := by
  have h1 : okL (heapOf g X N T K M dd) 45 = true := rfl
  have h2 : okL (heapOf g X N T K M dd) 61 = true := rfl
  have h3 : lenA (heapOf g X N T K M dd) 45 = 30 := rfl
  have h4 : lenA (heapOf g X N T K M dd) 61 = 30 := rfl
  have h5 : okCop (heapOf g X N T K M dd) 45 61 0 0 (nI 30) = true := rfl
  rw [kS_copyRow, eS_copyRow_0, h1, h2, h3, h4, ite_self, h5]
  rfl
set_option maxRecDepth 100000 in
theorem cr_59_43_1 (d : Nat) (g : GT) (X : XS) (N T K : SS) (M : MS) (dd : AH) : call PGM (d + 1) yS_copyRow [.ref 46, .ref 62] (heapOf g X N T K M dd) = some (none, (heapOf g X N (cpR N T 1 30) K M dd)) := by
  have h1 : okL (heapOf g X N T K M dd) 46 = true := rfl
  have h2 : okL (heapOf g X N T K M dd) 62 = true := rfl
  have h3 : lenA (heapOf g X N T K M dd) 46 = 30 := rfl
  have h4 : lenA (heapOf g X N T K M dd) 62 = 30 := rfl
  have h5 : okCop (heapOf g X N T K M dd) 46 62 0 0 (nI 30) = true := rfl
  rw [kS_copyRow, eS_copyRow_0, h1, h2, h3, h4, ite_self, h5]
  rfl
set_option maxRecDepth 100000 in
theorem cr_59_43_2 (d : Nat) (g : GT) (X : XS) (N T K : SS) (M : MS) (dd : AH) : call PGM (d + 1) yS_copyRow [.ref 47, .ref 63] (heapOf g X N T K M dd) = some (none, (heapOf g X N (cpR N T 2 30) K M dd)) := by
  have h1 : okL (heapOf g X N T K M dd) 47 = true := rfl
  have h2 : okL (heapOf g X N T K M dd) 63 = true := rfl
  have h3 : lenA (heapOf g X N T K M dd) 47 = 30 := rfl
  have h4 : lenA (heapOf g X N T K M dd) 63 = 30 := rfl
  have h5 : okCop (heapOf g X N T K M dd) 47 63 0 0 (nI 30) = true := rfl
  rw [kS_copyRow, eS_copyRow_0, h1, h2, h3, h4, ite_self, h5]
  rfl
set_option maxRecDepth 100000 in
theorem cr_59_43_3 (d : Nat) (g : GT) (X : XS) (N T K : SS) (M : MS) (dd : AH) : call PGM (d + 1) yS_copyRow [.ref 48, .ref 64] (heapOf g X N T K M dd) = some (none, (heapOf g X N (cpR N T 3 30) K M dd)) := by
  have h1 : okL (heapOf g X N T K M dd) 48 = true := rfl
  have h2 : okL (heapOf g X N T K M dd) 64 = true := rfl
  have h3 : lenA (heapOf g X N T K M dd) 48 = 30 := rfl
  have h4 : lenA (heapOf g X N T K M dd) 64 = 30 := rfl
  have h5 : okCop (heapOf g X N T K M dd) 48 64 0 0 (nI 30) = true := rfl
  rw [kS_copyRow, eS_copyRow_0, h1, h2, h3, h4, ite_self, h5]
  rfl
set_option maxRecDepth 100000 in
theorem cr_59_43_4 (d : Nat) (g : GT) (X : XS) (N T K : SS) (M : MS) (dd : AH) : call PGM (d + 1) yS_copyRow [.ref 49, .ref 65] (heapOf g X N T K M dd) = some (none, (heapOf g X N (cpR N T 4 30) K M dd)) := by
  have h1 : okL (heapOf g X N T K M dd) 49 = true := rfl
  have h2 : okL (heapOf g X N T K M dd) 65 = true := rfl
  have h3 : lenA (heapOf g X N T K M dd) 49 = 30 := rfl
  have h4 : lenA (heapOf g X N T K M dd) 65 = 30 := rfl
  have h5 : okCop (heapOf g X N T K M dd) 49 65 0 0 (nI 30) = true := rfl
  rw [kS_copyRow, eS_copyRow_0, h1, h2, h3, h4, ite_self, h5]
  rfl
set_option maxRecDepth 100000 in
theorem cr_59_43_5 (d : Nat) (g : GT) (X : XS) (N T K : SS) (M : MS) (dd : AH) : call PGM (d + 1) yS_copyRow [.ref 50, .ref 66] (heapOf g X N T K M dd) = some (none, (heapOf g X N (cpR N T 5 20) K M dd)) := by
  have h1 : okL (heapOf g X N T K M dd) 50 = true := rfl
  have h2 : okL (heapOf g X N T K M dd) 66 = true := rfl
  have h3 : lenA (heapOf g X N T K M dd) 50 = 20 := rfl
  have h4 : lenA (heapOf g X N T K M dd) 66 = 20 := rfl
  have h5 : okCop (heapOf g X N T K M dd) 50 66 0 0 (nI 20) = true := rfl
  rw [kS_copyRow, eS_copyRow_0, h1, h2, h3, h4, ite_self, h5]
  rfl
set_option maxRecDepth 100000 in
theorem cr_59_43_6 (d : Nat) (g : GT) (X : XS) (N T K : SS) (M : MS) (dd : AH) : call PGM (d + 1) yS_copyRow [.ref 51, .ref 67] (heapOf g X N T K M dd) = some (none, (heapOf g X N (cpR N T 6 20) K M dd)) := by
  have h1 : okL (heapOf g X N T K M dd) 51 = true := rfl
  have h2 : okL (heapOf g X N T K M dd) 67 = true := rfl
  have h3 : lenA (heapOf g X N T K M dd) 51 = 20 := rfl
  have h4 : lenA (heapOf g X N T K M dd) 67 = 20 := rfl
  have h5 : okCop (heapOf g X N T K M dd) 51 67 0 0 (nI 20) = true := rfl
  rw [kS_copyRow, eS_copyRow_0, h1, h2, h3, h4, ite_self, h5]
  rfl
set_option maxRecDepth 100000 in
theorem cr_59_43_7 (d : Nat) (g : GT) (X : XS) (N T K : SS) (M : MS) (dd : AH) : call PGM (d + 1) yS_copyRow [.ref 52, .ref 68] (heapOf g X N T K M dd) = some (none, (heapOf g X N (cpR N T 7 20) K M dd)) := by
  have h1 : okL (heapOf g X N T K M dd) 52 = true := rfl
  have h2 : okL (heapOf g X N T K M dd) 68 = true := rfl
  have h3 : lenA (heapOf g X N T K M dd) 52 = 20 := rfl
  have h4 : lenA (heapOf g X N T K M dd) 68 = 20 := rfl
  have h5 : okCop (heapOf g X N T K M dd) 52 68 0 0 (nI 20) = true := rfl
  rw [kS_copyRow, eS_copyRow_0, h1, h2, h3, h4, ite_self, h5]
  rfl
set_option maxRecDepth 100000 in
theorem cr_59_43_8 (d : Nat) (g : GT) (X : XS) (N T K : SS) (M : MS) (dd : AH) : call PGM (d + 1) yS_copyRow [.ref 53, .ref 69] (heapOf g X N T K M dd) = some (none, (heapOf g X N (cpR N T 8 20) K M dd)) := by
  have h1 : okL (heapOf g X N T K M dd) 53 = true := rfl
  have h2 : okL (heapOf g X N T K M dd) 69 = true := rfl
  have h3 : lenA (heapOf g X N T K M dd) 53 = 20 := rfl
  have h4 : lenA (heapOf g X N T K M dd) 69 = 20 := rfl
  have h5 : okCop (heapOf g X N T K M dd) 53 69 0 0 (nI 20) = true := rfl
  rw [kS_copyRow, eS_copyRow_0, h1, h2, h3, h4, ite_self, h5]
  rfl
set_option maxRecDepth 100000 in
theorem cr_59_43_9 (d : Nat) (g : GT) (X : XS) (N T K : SS) (M : MS) (dd : AH) : call PGM (d + 1) yS_copyRow [.ref 54, .ref 70] (heapOf g X N T K M dd) = some (none, (heapOf g X N (cpR N T 9 6) K M dd)) := by
  have h1 : okL (heapOf g X N T K M dd) 54 = true := rfl
  have h2 : okL (heapOf g X N T K M dd) 70 = true := rfl
  have h3 : lenA (heapOf g X N T K M dd) 54 = 6 := rfl
  have h4 : lenA (heapOf g X N T K M dd) 70 = 6 := rfl
  have h5 : okCop (heapOf g X N T K M dd) 54 70 0 0 (nI 6) = true := rfl
  rw [kS_copyRow, eS_copyRow_0, h1, h2, h3, h4, ite_self, h5]
  rfl
set_option maxRecDepth 100000 in
theorem cr_59_43_10 (d : Nat) (g : GT) (X : XS) (N T K : SS) (M : MS) (dd : AH) : call PGM (d + 1) yS_copyRow [.ref 55, .ref 71] (heapOf g X N T K M dd) = some (none, (heapOf g X N (cpR N T 10 6) K M dd)) := by
  have h1 : okL (heapOf g X N T K M dd) 55 = true := rfl
  have h2 : okL (heapOf g X N T K M dd) 71 = true := rfl
  have h3 : lenA (heapOf g X N T K M dd) 55 = 6 := rfl
  have h4 : lenA (heapOf g X N T K M dd) 71 = 6 := rfl
  have h5 : okCop (heapOf g X N T K M dd) 55 71 0 0 (nI 6) = true := rfl
  rw [kS_copyRow, eS_copyRow_0, h1, h2, h3, h4, ite_self, h5]
  rfl
set_option maxRecDepth 100000 in
theorem cr_59_43_11 (d : Nat) (g : GT) (X : XS) (N T K : SS) (M : MS) (dd : AH) : call PGM (d + 1) yS_copyRow [.ref 56, .ref 72] (heapOf g X N T K M dd) = some (none, (heapOf g X N (cpR N T 11 6) K M dd)) := by
  have h1 : okL (heapOf g X N T K M dd) 56 = true := rfl
  have h2 : okL (heapOf g X N T K M dd) 72 = true := rfl
  have h3 : lenA (heapOf g X N T K M dd) 56 = 6 := rfl
  have h4 : lenA (heapOf g X N T K M dd) 72 = 6 := rfl
  have h5 : okCop (heapOf g X N T K M dd) 56 72 0 0 (nI 6) = true := rfl
  rw [kS_copyRow, eS_copyRow_0, h1, h2, h3, h4, ite_self, h5]
  rfl
set_option maxRecDepth 100000 in
theorem cr_59_43_12 (d : Nat) (g : GT) (X : XS) (N T K : SS) (M : MS) (dd : AH) : call PGM (d + 1) yS_copyRow [.ref 57, .ref 73] (heapOf g X N T K M dd) = some (none, (heapOf g X N (cpR N T 12 3) K M dd)) := by
  have h1 : okL (heapOf g X N T K M dd) 57 = true := rfl
  have h2 : okL (heapOf g X N T K M dd) 73 = true := rfl
  have h3 : lenA (heapOf g X N T K M dd) 57 = 3 := rfl
  have h4 : lenA (heapOf g X N T K M dd) 73 = 3 := rfl
  have h5 : okCop (heapOf g X N T K M dd) 57 73 0 0 (nI 3) = true := rfl
  rw [kS_copyRow, eS_copyRow_0, h1, h2, h3, h4, ite_self, h5]
  rfl
theorem cS_copy_59_43 (d : Nat) (g : GT) (X : XS) (N T K : SS) (M : MS) (dd : AH) (hl : ¬ N.2.2 = 9) : call PGM (d + 2) yS_copy [.ref 59, .ref 43] (heapOf g X N T K M dd) = some (none, (heapOf g X N (copS N T) K M dd)) := by
  have h9 : (!(Nat.beq N.2.2 9)) = true := by
    cases e : Nat.beq N.2.2 9 with
    | true => exact absurd (Nat.eq_of_beq_eq_true e) hl
    | false => rfl
  have z0 : decide ((0 : Int32) = nI 0) = true := by decide
  have z1 : decide ((2 : Int32) < 0) = false := by decide
  have z2 : decide ((2 : Int32) < 0 + 1) = false := by decide
  have z3 : decide ((0 : Int32) + 1 = nI 0) = false := by decide
  have z4 : decide ((0 : Int32) + 1 = nI 1) = true := by decide
  have z5 : decide ((2 : Int32) < 0 + 1 + 1) = false := by decide
  have z6 : decide ((0 : Int32) + 1 + 1 = nI 0) = false := by decide
  have z7 : decide ((0 : Int32) + 1 + 1 = nI 1) = false := by decide
  have z8 : decide ((0 : Int32) + 1 + 1 = nI 2) = true := by decide
  have z9 : decide ((2 : Int32) < 0 + 1 + 1 + 1) = true := by decide
  rw [kS_copy_59_43, eS_copy_59_43_0, eS_copy_59_43_8, eS_copy_59_43_10, z0, z1]
  simp only [cond_true, cond_false, Bool.and_true]
  rw [cr_59_43_0, aft0, eS_copy_59_43_30, eS_copy_59_43_10, z2, z3, z4]
  simp only [cond_true, cond_false, Bool.and_true]
  rw [cr_59_43_1, aft0, eS_copy_59_43_30, eS_copy_59_43_10, z5, z6, z7, z8]
  simp only [cond_true, cond_false, Bool.and_true]
  rw [cr_59_43_2, aft0, eS_copy_59_43_30, eS_copy_59_43_10, z9, cond_true, cr_59_43_3, aft0, eS_copy_59_43_47, cr_59_43_4, aft0, eS_copy_59_43_58, eS_copy_59_43_66, cr_59_43_5, aft0, eS_copy_59_43_77, cr_59_43_6, aft0, eS_copy_59_43_88, cr_59_43_7, aft0, eS_copy_59_43_99, cr_59_43_8, aft0, eS_copy_59_43_110, eS_copy_59_43_118, cr_59_43_9, aft0, eS_copy_59_43_129, cr_59_43_10, aft0, eS_copy_59_43_140, cr_59_43_11, aft0, eS_copy_59_43_151, cr_59_43_12, aft0, eS_copy_59_43_162, eS_copy_59_43_170, eS_copy_59_43_178]
  rw [show (!(Nat.beq N.2.2 9)) = true from h9, cond_true, eS_copy_59_43_186]
  rfl
set_option maxRecDepth 100000 in
theorem cr_75_43_0 (d : Nat) (g : GT) (X : XS) (N T K : SS) (M : MS) (dd : AH) : call PGM (d + 1) yS_copyRow [.ref 45, .ref 77] (heapOf g X N T K M dd) = some (none, (heapOf g X N T (cpR N K 0 30) M dd)) := by
  have h1 : okL (heapOf g X N T K M dd) 45 = true := rfl
  have h2 : okL (heapOf g X N T K M dd) 77 = true := rfl
  have h3 : lenA (heapOf g X N T K M dd) 45 = 30 := rfl
  have h4 : lenA (heapOf g X N T K M dd) 77 = 30 := rfl
  have h5 : okCop (heapOf g X N T K M dd) 45 77 0 0 (nI 30) = true := rfl
  rw [kS_copyRow, eS_copyRow_0, h1, h2, h3, h4, ite_self, h5]
  rfl
set_option maxRecDepth 100000 in
theorem cr_75_43_1 (d : Nat) (g : GT) (X : XS) (N T K : SS) (M : MS) (dd : AH) : call PGM (d + 1) yS_copyRow [.ref 46, .ref 78] (heapOf g X N T K M dd) = some (none, (heapOf g X N T (cpR N K 1 30) M dd)) := by
  have h1 : okL (heapOf g X N T K M dd) 46 = true := rfl
  have h2 : okL (heapOf g X N T K M dd) 78 = true := rfl
  have h3 : lenA (heapOf g X N T K M dd) 46 = 30 := rfl
  have h4 : lenA (heapOf g X N T K M dd) 78 = 30 := rfl
  have h5 : okCop (heapOf g X N T K M dd) 46 78 0 0 (nI 30) = true := rfl
  rw [kS_copyRow, eS_copyRow_0, h1, h2, h3, h4, ite_self, h5]
  rfl
set_option maxRecDepth 100000 in
theorem cr_75_43_2 (d : Nat) (g : GT) (X : XS) (N T K : SS) (M : MS) (dd : AH) : call PGM (d + 1) yS_copyRow [.ref 47, .ref 79] (heapOf g X N T K M dd) = some (none, (heapOf g X N T (cpR N K 2 30) M dd)) := by
  have h1 : okL (heapOf g X N T K M dd) 47 = true := rfl
  have h2 : okL (heapOf g X N T K M dd) 79 = true := rfl
  have h3 : lenA (heapOf g X N T K M dd) 47 = 30 := rfl
  have h4 : lenA (heapOf g X N T K M dd) 79 = 30 := rfl
  have h5 : okCop (heapOf g X N T K M dd) 47 79 0 0 (nI 30) = true := rfl
  rw [kS_copyRow, eS_copyRow_0, h1, h2, h3, h4, ite_self, h5]
  rfl
set_option maxRecDepth 100000 in
theorem cr_75_43_3 (d : Nat) (g : GT) (X : XS) (N T K : SS) (M : MS) (dd : AH) : call PGM (d + 1) yS_copyRow [.ref 48, .ref 80] (heapOf g X N T K M dd) = some (none, (heapOf g X N T (cpR N K 3 30) M dd)) := by
  have h1 : okL (heapOf g X N T K M dd) 48 = true := rfl
  have h2 : okL (heapOf g X N T K M dd) 80 = true := rfl
  have h3 : lenA (heapOf g X N T K M dd) 48 = 30 := rfl
  have h4 : lenA (heapOf g X N T K M dd) 80 = 30 := rfl
  have h5 : okCop (heapOf g X N T K M dd) 48 80 0 0 (nI 30) = true := rfl
  rw [kS_copyRow, eS_copyRow_0, h1, h2, h3, h4, ite_self, h5]
  rfl
set_option maxRecDepth 100000 in
theorem cr_75_43_4 (d : Nat) (g : GT) (X : XS) (N T K : SS) (M : MS) (dd : AH) : call PGM (d + 1) yS_copyRow [.ref 49, .ref 81] (heapOf g X N T K M dd) = some (none, (heapOf g X N T (cpR N K 4 30) M dd)) := by
  have h1 : okL (heapOf g X N T K M dd) 49 = true := rfl
  have h2 : okL (heapOf g X N T K M dd) 81 = true := rfl
  have h3 : lenA (heapOf g X N T K M dd) 49 = 30 := rfl
  have h4 : lenA (heapOf g X N T K M dd) 81 = 30 := rfl
  have h5 : okCop (heapOf g X N T K M dd) 49 81 0 0 (nI 30) = true := rfl
  rw [kS_copyRow, eS_copyRow_0, h1, h2, h3, h4, ite_self, h5]
  rfl
set_option maxRecDepth 100000 in
theorem cr_75_43_5 (d : Nat) (g : GT) (X : XS) (N T K : SS) (M : MS) (dd : AH) : call PGM (d + 1) yS_copyRow [.ref 50, .ref 82] (heapOf g X N T K M dd) = some (none, (heapOf g X N T (cpR N K 5 20) M dd)) := by
  have h1 : okL (heapOf g X N T K M dd) 50 = true := rfl
  have h2 : okL (heapOf g X N T K M dd) 82 = true := rfl
  have h3 : lenA (heapOf g X N T K M dd) 50 = 20 := rfl
  have h4 : lenA (heapOf g X N T K M dd) 82 = 20 := rfl
  have h5 : okCop (heapOf g X N T K M dd) 50 82 0 0 (nI 20) = true := rfl
  rw [kS_copyRow, eS_copyRow_0, h1, h2, h3, h4, ite_self, h5]
  rfl
set_option maxRecDepth 100000 in
theorem cr_75_43_6 (d : Nat) (g : GT) (X : XS) (N T K : SS) (M : MS) (dd : AH) : call PGM (d + 1) yS_copyRow [.ref 51, .ref 83] (heapOf g X N T K M dd) = some (none, (heapOf g X N T (cpR N K 6 20) M dd)) := by
  have h1 : okL (heapOf g X N T K M dd) 51 = true := rfl
  have h2 : okL (heapOf g X N T K M dd) 83 = true := rfl
  have h3 : lenA (heapOf g X N T K M dd) 51 = 20 := rfl
  have h4 : lenA (heapOf g X N T K M dd) 83 = 20 := rfl
  have h5 : okCop (heapOf g X N T K M dd) 51 83 0 0 (nI 20) = true := rfl
  rw [kS_copyRow, eS_copyRow_0, h1, h2, h3, h4, ite_self, h5]
  rfl
set_option maxRecDepth 100000 in
theorem cr_75_43_7 (d : Nat) (g : GT) (X : XS) (N T K : SS) (M : MS) (dd : AH) : call PGM (d + 1) yS_copyRow [.ref 52, .ref 84] (heapOf g X N T K M dd) = some (none, (heapOf g X N T (cpR N K 7 20) M dd)) := by
  have h1 : okL (heapOf g X N T K M dd) 52 = true := rfl
  have h2 : okL (heapOf g X N T K M dd) 84 = true := rfl
  have h3 : lenA (heapOf g X N T K M dd) 52 = 20 := rfl
  have h4 : lenA (heapOf g X N T K M dd) 84 = 20 := rfl
  have h5 : okCop (heapOf g X N T K M dd) 52 84 0 0 (nI 20) = true := rfl
  rw [kS_copyRow, eS_copyRow_0, h1, h2, h3, h4, ite_self, h5]
  rfl
set_option maxRecDepth 100000 in
theorem cr_75_43_8 (d : Nat) (g : GT) (X : XS) (N T K : SS) (M : MS) (dd : AH) : call PGM (d + 1) yS_copyRow [.ref 53, .ref 85] (heapOf g X N T K M dd) = some (none, (heapOf g X N T (cpR N K 8 20) M dd)) := by
  have h1 : okL (heapOf g X N T K M dd) 53 = true := rfl
  have h2 : okL (heapOf g X N T K M dd) 85 = true := rfl
  have h3 : lenA (heapOf g X N T K M dd) 53 = 20 := rfl
  have h4 : lenA (heapOf g X N T K M dd) 85 = 20 := rfl
  have h5 : okCop (heapOf g X N T K M dd) 53 85 0 0 (nI 20) = true := rfl
  rw [kS_copyRow, eS_copyRow_0, h1, h2, h3, h4, ite_self, h5]
  rfl
set_option maxRecDepth 100000 in
theorem cr_75_43_9 (d : Nat) (g : GT) (X : XS) (N T K : SS) (M : MS) (dd : AH) : call PGM (d + 1) yS_copyRow [.ref 54, .ref 86] (heapOf g X N T K M dd) = some (none, (heapOf g X N T (cpR N K 9 6) M dd)) := by
  have h1 : okL (heapOf g X N T K M dd) 54 = true := rfl
  have h2 : okL (heapOf g X N T K M dd) 86 = true := rfl
  have h3 : lenA (heapOf g X N T K M dd) 54 = 6 := rfl
  have h4 : lenA (heapOf g X N T K M dd) 86 = 6 := rfl
  have h5 : okCop (heapOf g X N T K M dd) 54 86 0 0 (nI 6) = true := rfl
  rw [kS_copyRow, eS_copyRow_0, h1, h2, h3, h4, ite_self, h5]
  rfl
set_option maxRecDepth 100000 in
theorem cr_75_43_10 (d : Nat) (g : GT) (X : XS) (N T K : SS) (M : MS) (dd : AH) : call PGM (d + 1) yS_copyRow [.ref 55, .ref 87] (heapOf g X N T K M dd) = some (none, (heapOf g X N T (cpR N K 10 6) M dd)) := by
  have h1 : okL (heapOf g X N T K M dd) 55 = true := rfl
  have h2 : okL (heapOf g X N T K M dd) 87 = true := rfl
  have h3 : lenA (heapOf g X N T K M dd) 55 = 6 := rfl
  have h4 : lenA (heapOf g X N T K M dd) 87 = 6 := rfl
  have h5 : okCop (heapOf g X N T K M dd) 55 87 0 0 (nI 6) = true := rfl
  rw [kS_copyRow, eS_copyRow_0, h1, h2, h3, h4, ite_self, h5]
  rfl
set_option maxRecDepth 100000 in
theorem cr_75_43_11 (d : Nat) (g : GT) (X : XS) (N T K : SS) (M : MS) (dd : AH) : call PGM (d + 1) yS_copyRow [.ref 56, .ref 88] (heapOf g X N T K M dd) = some (none, (heapOf g X N T (cpR N K 11 6) M dd)) := by
  have h1 : okL (heapOf g X N T K M dd) 56 = true := rfl
  have h2 : okL (heapOf g X N T K M dd) 88 = true := rfl
  have h3 : lenA (heapOf g X N T K M dd) 56 = 6 := rfl
  have h4 : lenA (heapOf g X N T K M dd) 88 = 6 := rfl
  have h5 : okCop (heapOf g X N T K M dd) 56 88 0 0 (nI 6) = true := rfl
  rw [kS_copyRow, eS_copyRow_0, h1, h2, h3, h4, ite_self, h5]
  rfl
set_option maxRecDepth 100000 in
theorem cr_75_43_12 (d : Nat) (g : GT) (X : XS) (N T K : SS) (M : MS) (dd : AH) : call PGM (d + 1) yS_copyRow [.ref 57, .ref 89] (heapOf g X N T K M dd) = some (none, (heapOf g X N T (cpR N K 12 3) M dd)) := by
  have h1 : okL (heapOf g X N T K M dd) 57 = true := rfl
  have h2 : okL (heapOf g X N T K M dd) 89 = true := rfl
  have h3 : lenA (heapOf g X N T K M dd) 57 = 3 := rfl
  have h4 : lenA (heapOf g X N T K M dd) 89 = 3 := rfl
  have h5 : okCop (heapOf g X N T K M dd) 57 89 0 0 (nI 3) = true := rfl
  rw [kS_copyRow, eS_copyRow_0, h1, h2, h3, h4, ite_self, h5]
  rfl
theorem cS_copy_75_43 (d : Nat) (g : GT) (X : XS) (N T K : SS) (M : MS) (dd : AH) (hl : ¬ N.2.2 = 9) : call PGM (d + 2) yS_copy [.ref 75, .ref 43] (heapOf g X N T K M dd) = some (none, (heapOf g X N T (copS N K) M dd)) := by
  have h9 : (!(Nat.beq N.2.2 9)) = true := by
    cases e : Nat.beq N.2.2 9 with
    | true => exact absurd (Nat.eq_of_beq_eq_true e) hl
    | false => rfl
  have z0 : decide ((0 : Int32) = nI 0) = true := by decide
  have z1 : decide ((2 : Int32) < 0) = false := by decide
  have z2 : decide ((2 : Int32) < 0 + 1) = false := by decide
  have z3 : decide ((0 : Int32) + 1 = nI 0) = false := by decide
  have z4 : decide ((0 : Int32) + 1 = nI 1) = true := by decide
  have z5 : decide ((2 : Int32) < 0 + 1 + 1) = false := by decide
  have z6 : decide ((0 : Int32) + 1 + 1 = nI 0) = false := by decide
  have z7 : decide ((0 : Int32) + 1 + 1 = nI 1) = false := by decide
  have z8 : decide ((0 : Int32) + 1 + 1 = nI 2) = true := by decide
  have z9 : decide ((2 : Int32) < 0 + 1 + 1 + 1) = true := by decide
  rw [kS_copy_75_43, eS_copy_75_43_0, eS_copy_75_43_8, eS_copy_75_43_10, z0, z1]
  simp only [cond_true, cond_false, Bool.and_true]
  rw [cr_75_43_0, aft0, eS_copy_75_43_30, eS_copy_75_43_10, z2, z3, z4]
  simp only [cond_true, cond_false, Bool.and_true]
  rw [cr_75_43_1, aft0, eS_copy_75_43_30, eS_copy_75_43_10, z5, z6, z7, z8]
  simp only [cond_true, cond_false, Bool.and_true]
  rw [cr_75_43_2, aft0, eS_copy_75_43_30, eS_copy_75_43_10, z9, cond_true, cr_75_43_3, aft0, eS_copy_75_43_47, cr_75_43_4, aft0, eS_copy_75_43_58, eS_copy_75_43_66, cr_75_43_5, aft0, eS_copy_75_43_77, cr_75_43_6, aft0, eS_copy_75_43_88, cr_75_43_7, aft0, eS_copy_75_43_99, cr_75_43_8, aft0, eS_copy_75_43_110, eS_copy_75_43_118, cr_75_43_9, aft0, eS_copy_75_43_129, cr_75_43_10, aft0, eS_copy_75_43_140, cr_75_43_11, aft0, eS_copy_75_43_151, cr_75_43_12, aft0, eS_copy_75_43_162, eS_copy_75_43_170, eS_copy_75_43_178]
  rw [show (!(Nat.beq N.2.2 9)) = true from h9, cond_true, eS_copy_75_43_186]
  rfl
set_option maxRecDepth 100000 in
theorem cr_43_75_0 (d : Nat) (g : GT) (X : XS) (N T K : SS) (M : MS) (dd : AH) : call PGM (d + 1) yS_copyRow [.ref 77, .ref 45] (heapOf g X N T K M dd) = some (none, (heapOf g X (cpR K N 0 30) T K M dd)) := by
  have h1 : okL (heapOf g X N T K M dd) 77 = true := rfl
  have h2 : okL (heapOf g X N T K M dd) 45 = true := rfl
  have h3 : lenA (heapOf g X N T K M dd) 77 = 30 := rfl
  have h4 : lenA (heapOf g X N T K M dd) 45 = 30 := rfl
  have h5 : okCop (heapOf g X N T K M dd) 77 45 0 0 (nI 30) = true := rfl
  rw [kS_copyRow, eS_copyRow_0, h1, h2, h3, h4, ite_self, h5]
  rfl
set_option maxRecDepth 100000 in
theorem cr_43_75_1 (d : Nat) (g : GT) (X : XS) (N T K : SS) (M : MS) (dd : AH) : call PGM (d + 1) yS_copyRow [.ref 78, .ref 46] (heapOf g X N T K M dd) = some (none, (heapOf g X (cpR K N 1 30) T K M dd)) := by
  have h1 : okL (heapOf g X N T K M dd) 78 = true := rfl
  have h2 : okL (heapOf g X N T K M dd) 46 = true := rfl
  have h3 : lenA (heapOf g X N T K M dd) 78 = 30 := rfl
  have h4 : lenA (heapOf g X N T K M dd) 46 = 30 := rfl
  have h5 : okCop (heapOf g X N T K M dd) 78 46 0 0 (nI 30) = true := rfl
  rw [kS_copyRow, eS_copyRow_0, h1, h2, h3, h4, ite_self, h5]
  rfl
set_option maxRecDepth 100000 in
theorem cr_43_75_2 (d : Nat) (g : GT) (X : XS) (N T K : SS) (M : MS) (dd : AH) : call PGM (d + 1) yS_copyRow [.ref 79, .ref 47] (heapOf g X N T K M dd) = some (none, (heapOf g X (cpR K N 2 30) T K M dd)) := by
  have h1 : okL (heapOf g X N T K M dd) 79 = true := rfl
  have h2 : okL (heapOf g X N T K M dd) 47 = true := rfl
  have h3 : lenA (heapOf g X N T K M dd) 79 = 30 := rfl
  have h4 : lenA (heapOf g X N T K M dd) 47 = 30 := rfl
  have h5 : okCop (heapOf g X N T K M dd) 79 47 0 0 (nI 30) = true := rfl
  rw [kS_copyRow, eS_copyRow_0, h1, h2, h3, h4, ite_self, h5]
  rfl
set_option maxRecDepth 100000 in
theorem cr_43_75_3 (d : Nat) (g : GT) (X : XS) (N T K : SS) (M : MS) (dd : AH) : call PGM (d + 1) yS_copyRow [.ref 80, .ref 48] (heapOf g X N T K M dd) = some (none, (heapOf g X (cpR K N 3 30) T K M dd)) := by
  have h1 : okL (heapOf g X N T K M dd) 80 = true := rfl
  have h2 : okL (heapOf g X N T K M dd) 48 = true := rfl
  have h3 : lenA (heapOf g X N T K M dd) 80 = 30 := rfl
  have h4 : lenA (heapOf g X N T K M dd) 48 = 30 := rfl
  have h5 : okCop (heapOf g X N T K M dd) 80 48 0 0 (nI 30) = true := rfl
  rw [kS_copyRow, eS_copyRow_0, h1, h2, h3, h4, ite_self, h5]
  rfl
set_option maxRecDepth 100000 in
theorem cr_43_75_4 (d : Nat) (g : GT) (X : XS) (N T K : SS) (M : MS) (dd : AH) : call PGM (d + 1) yS_copyRow [.ref 81, .ref 49] (heapOf g X N T K M dd) = some (none, (heapOf g X (cpR K N 4 30) T K M dd)) := by
  have h1 : okL (heapOf g X N T K M dd) 81 = true := rfl
  have h2 : okL (heapOf g X N T K M dd) 49 = true := rfl
  have h3 : lenA (heapOf g X N T K M dd) 81 = 30 := rfl
  have h4 : lenA (heapOf g X N T K M dd) 49 = 30 := rfl
  have h5 : okCop (heapOf g X N T K M dd) 81 49 0 0 (nI 30) = true := rfl
  rw [kS_copyRow, eS_copyRow_0, h1, h2, h3, h4, ite_self, h5]
  rfl
set_option maxRecDepth 100000 in
theorem cr_43_75_5 (d : Nat) (g : GT) (X : XS) (N T K : SS) (M : MS) (dd : AH) : call PGM (d + 1) yS_copyRow [.ref 82, .ref 50] (heapOf g X N T K M dd) = some (none, (heapOf g X (cpR K N 5 20) T K M dd)) := by
  have h1 : okL (heapOf g X N T K M dd) 82 = true := rfl
  have h2 : okL (heapOf g X N T K M dd) 50 = true := rfl
  have h3 : lenA (heapOf g X N T K M dd) 82 = 20 := rfl
  have h4 : lenA (heapOf g X N T K M dd) 50 = 20 := rfl
  have h5 : okCop (heapOf g X N T K M dd) 82 50 0 0 (nI 20) = true := rfl
  rw [kS_copyRow, eS_copyRow_0, h1, h2, h3, h4, ite_self, h5]
  rfl
set_option maxRecDepth 100000 in
theorem cr_43_75_6 (d : Nat) (g : GT) (X : XS) (N T K : SS) (M : MS) (dd : AH) : call PGM (d + 1) yS_copyRow [.ref 83, .ref 51] (heapOf g X N T K M dd) = some (none, (heapOf g X (cpR K N 6 20) T K M dd)) := by
  have h1 : okL (heapOf g X N T K M dd) 83 = true := rfl
  have h2 : okL (heapOf g X N T K M dd) 51 = true := rfl
  have h3 : lenA (heapOf g X N T K M dd) 83 = 20 := rfl
  have h4 : lenA (heapOf g X N T K M dd) 51 = 20 := rfl
  have h5 : okCop (heapOf g X N T K M dd) 83 51 0 0 (nI 20) = true := rfl
  rw [kS_copyRow, eS_copyRow_0, h1, h2, h3, h4, ite_self, h5]
  rfl
set_option maxRecDepth 100000 in
theorem cr_43_75_7 (d : Nat) (g : GT) (X : XS) (N T K : SS) (M : MS) (dd : AH) : call PGM (d + 1) yS_copyRow [.ref 84, .ref 52] (heapOf g X N T K M dd) = some (none, (heapOf g X (cpR K N 7 20) T K M dd)) := by
  have h1 : okL (heapOf g X N T K M dd) 84 = true := rfl
  have h2 : okL (heapOf g X N T K M dd) 52 = true := rfl
  have h3 : lenA (heapOf g X N T K M dd) 84 = 20 := rfl
  have h4 : lenA (heapOf g X N T K M dd) 52 = 20 := rfl
  have h5 : okCop (heapOf g X N T K M dd) 84 52 0 0 (nI 20) = true := rfl
  rw [kS_copyRow, eS_copyRow_0, h1, h2, h3, h4, ite_self, h5]
  rfl
set_option maxRecDepth 100000 in
theorem cr_43_75_8 (d : Nat) (g : GT) (X : XS) (N T K : SS) (M : MS) (dd : AH) : call PGM (d + 1) yS_copyRow [.ref 85, .ref 53] (heapOf g X N T K M dd) = some (none, (heapOf g X (cpR K N 8 20) T K M dd)) := by
  have h1 : okL (heapOf g X N T K M dd) 85 = true := rfl
  have h2 : okL (heapOf g X N T K M dd) 53 = true := rfl
  have h3 : lenA (heapOf g X N T K M dd) 85 = 20 := rfl
  have h4 : lenA (heapOf g X N T K M dd) 53 = 20 := rfl
  have h5 : okCop (heapOf g X N T K M dd) 85 53 0 0 (nI 20) = true := rfl
  rw [kS_copyRow, eS_copyRow_0, h1, h2, h3, h4, ite_self, h5]
  rfl
set_option maxRecDepth 100000 in
theorem cr_43_75_9 (d : Nat) (g : GT) (X : XS) (N T K : SS) (M : MS) (dd : AH) : call PGM (d + 1) yS_copyRow [.ref 86, .ref 54] (heapOf g X N T K M dd) = some (none, (heapOf g X (cpR K N 9 6) T K M dd)) := by
  have h1 : okL (heapOf g X N T K M dd) 86 = true := rfl
  have h2 : okL (heapOf g X N T K M dd) 54 = true := rfl
  have h3 : lenA (heapOf g X N T K M dd) 86 = 6 := rfl
  have h4 : lenA (heapOf g X N T K M dd) 54 = 6 := rfl
  have h5 : okCop (heapOf g X N T K M dd) 86 54 0 0 (nI 6) = true := rfl
  rw [kS_copyRow, eS_copyRow_0, h1, h2, h3, h4, ite_self, h5]
  rfl
set_option maxRecDepth 100000 in
theorem cr_43_75_10 (d : Nat) (g : GT) (X : XS) (N T K : SS) (M : MS) (dd : AH) : call PGM (d + 1) yS_copyRow [.ref 87, .ref 55] (heapOf g X N T K M dd) = some (none, (heapOf g X (cpR K N 10 6) T K M dd)) := by
  have h1 : okL (heapOf g X N T K M dd) 87 = true := rfl
  have h2 : okL (heapOf g X N T K M dd) 55 = true := rfl
  have h3 : lenA (heapOf g X N T K M dd) 87 = 6 := rfl
  have h4 : lenA (heapOf g X N T K M dd) 55 = 6 := rfl
  have h5 : okCop (heapOf g X N T K M dd) 87 55 0 0 (nI 6) = true := rfl
  rw [kS_copyRow, eS_copyRow_0, h1, h2, h3, h4, ite_self, h5]
  rfl
set_option maxRecDepth 100000 in
theorem cr_43_75_11 (d : Nat) (g : GT) (X : XS) (N T K : SS) (M : MS) (dd : AH) : call PGM (d + 1) yS_copyRow [.ref 88, .ref 56] (heapOf g X N T K M dd) = some (none, (heapOf g X (cpR K N 11 6) T K M dd)) := by
  have h1 : okL (heapOf g X N T K M dd) 88 = true := rfl
  have h2 : okL (heapOf g X N T K M dd) 56 = true := rfl
  have h3 : lenA (heapOf g X N T K M dd) 88 = 6 := rfl
  have h4 : lenA (heapOf g X N T K M dd) 56 = 6 := rfl
  have h5 : okCop (heapOf g X N T K M dd) 88 56 0 0 (nI 6) = true := rfl
  rw [kS_copyRow, eS_copyRow_0, h1, h2, h3, h4, ite_self, h5]
  rfl
set_option maxRecDepth 100000 in
theorem cr_43_75_12 (d : Nat) (g : GT) (X : XS) (N T K : SS) (M : MS) (dd : AH) : call PGM (d + 1) yS_copyRow [.ref 89, .ref 57] (heapOf g X N T K M dd) = some (none, (heapOf g X (cpR K N 12 3) T K M dd)) := by
  have h1 : okL (heapOf g X N T K M dd) 89 = true := rfl
  have h2 : okL (heapOf g X N T K M dd) 57 = true := rfl
  have h3 : lenA (heapOf g X N T K M dd) 89 = 3 := rfl
  have h4 : lenA (heapOf g X N T K M dd) 57 = 3 := rfl
  have h5 : okCop (heapOf g X N T K M dd) 89 57 0 0 (nI 3) = true := rfl
  rw [kS_copyRow, eS_copyRow_0, h1, h2, h3, h4, ite_self, h5]
  rfl
theorem cS_copy_43_75 (d : Nat) (g : GT) (X : XS) (N T K : SS) (M : MS) (dd : AH) (hl : ¬ K.2.2 = 9) : call PGM (d + 2) yS_copy [.ref 43, .ref 75] (heapOf g X N T K M dd) = some (none, (heapOf g X (copS K N) T K M dd)) := by
  have h9 : (!(Nat.beq K.2.2 9)) = true := by
    cases e : Nat.beq K.2.2 9 with
    | true => exact absurd (Nat.eq_of_beq_eq_true e) hl
    | false => rfl
  have z0 : decide ((0 : Int32) = nI 0) = true := by decide
  have z1 : decide ((2 : Int32) < 0) = false := by decide
  have z2 : decide ((2 : Int32) < 0 + 1) = false := by decide
  have z3 : decide ((0 : Int32) + 1 = nI 0) = false := by decide
  have z4 : decide ((0 : Int32) + 1 = nI 1) = true := by decide
  have z5 : decide ((2 : Int32) < 0 + 1 + 1) = false := by decide
  have z6 : decide ((0 : Int32) + 1 + 1 = nI 0) = false := by decide
  have z7 : decide ((0 : Int32) + 1 + 1 = nI 1) = false := by decide
  have z8 : decide ((0 : Int32) + 1 + 1 = nI 2) = true := by decide
  have z9 : decide ((2 : Int32) < 0 + 1 + 1 + 1) = true := by decide
  rw [kS_copy_43_75, eS_copy_43_75_0, eS_copy_43_75_8, eS_copy_43_75_10, z0, z1]
  simp only [cond_true, cond_false, Bool.and_true]
  rw [cr_43_75_0, aft0, eS_copy_43_75_30, eS_copy_43_75_10, z2, z3, z4]
  simp only [cond_true, cond_false, Bool.and_true]
  rw [cr_43_75_1, aft0, eS_copy_43_75_30, eS_copy_43_75_10, z5, z6, z7, z8]
  simp only [cond_true, cond_false, Bool.and_true]
  rw [cr_43_75_2, aft0, eS_copy_43_75_30, eS_copy_43_75_10, z9, cond_true, cr_43_75_3, aft0, eS_copy_43_75_47, cr_43_75_4, aft0, eS_copy_43_75_58, eS_copy_43_75_66, cr_43_75_5, aft0, eS_copy_43_75_77, cr_43_75_6, aft0, eS_copy_43_75_88, cr_43_75_7, aft0, eS_copy_43_75_99, cr_43_75_8, aft0, eS_copy_43_75_110, eS_copy_43_75_118, cr_43_75_9, aft0, eS_copy_43_75_129, cr_43_75_10, aft0, eS_copy_43_75_140, cr_43_75_11, aft0, eS_copy_43_75_151, cr_43_75_12, aft0, eS_copy_43_75_162, eS_copy_43_75_170, eS_copy_43_75_178]
  rw [show (!(Nat.beq K.2.2 9)) = true from h9, cond_true, eS_copy_43_75_186]
  rfl
