/-! What always holds between the class and the model; a call of both. -/
def iS (b t : Nat) (S : SS) (s : Nat → Int32) (dd : AH) : Prop := ∃ nc np nb n C, RS S s np nb ∧ WF s nc np nb t (fun _ => b) ∧ lawM s n C ∧ lawD dd S.2.2 n C
def sgn (b : Nat) : Int32 := if b < 128 then nI b else nI b - nI 256
def iT (X : XS) (M : MS) : Prop := ∃ n, n ≤ 200 ∧ X.2.1 1 = nI n ∧ M.2 1 = nI n ∧ ∀ k, k < n → ∃ b, b < 256 ∧ M.1 3 k = nI b ∧ X.1 0 k = sgn b
def iR (X : XS) (M : MS) : Prop := ∃ r, r ≤ 24 ∧ X.2.1 6 = nI r ∧ M.2 14 = nI r ∧ ∀ i, i < r → X.1 8 i = M.1 8 (3 * i) ∧ X.1 9 i = M.1 8 (3 * i + 1) ∧ X.1 10 i = M.1 8 (3 * i + 2)
/-- a row of a sort lies there -/
def shA (dd : AH) (j t n : Nat) (f : Nat → Int32) : Prop := t ≤ 4 ∧ n ≤ 40 ∧ hat dd j = some (.inr (4, [.int (nI t), .ref (j + 109)])) ∧ hat dd (j + 1) = some (.inl (.int, n, .inl f))
def iH1 (X : XS) (M : MS) (dd : AH) (k : Nat) : Prop := (X.2.2 0 k = none ∧ M.1 9 k = MO) ∨ ∃ j t n f, X.2.2 0 k = some (j + 108) ∧ shA dd j t n f ∧ M.1 9 k = nI t ∧ M.1 10 k = nI n ∧ ∀ i, i < n → f i = M.1 11 (40 * k + i)
def iH (X : XS) (M : MS) (dd : AH) : Prop := (∀ k, k < 4 → iH1 X M dd k) ∧ ∀ k l a, k < 4 → l < 4 → X.2.2 0 k = some a → X.2.2 0 l = some a → k = l
def iE1 (X : XS) (M : MS) (dd : AH) (k : Nat) : Prop := ((X.1 14 k = nI 3 ∨ X.1 14 k = nI 2) ∧ M.1 12 k = nI 3 ∧ X.2.2 1 k = none) ∨ (∃ w q, w < 2 ∧ q < 20 ∧ X.1 14 k = nI w ∧ M.1 12 k = nI w ∧ X.1 15 k = nI q ∧ M.1 13 k = nI q ∧ X.2.2 1 k = none) ∨ (∃ j t n f, X.1 14 k = nI 2 ∧ M.1 12 k = nI 2 ∧ X.2.2 1 k = some (j + 108) ∧ shA dd j t n f ∧ M.1 13 k = nI t ∧ M.1 14 k = nI n)
def iE (X : XS) (M : MS) (dd : AH) : Prop := ∀ k, k < 4 → iE1 X M dd k
def iB (X : XS) (M : MS) : Prop := ∃ c, c ≤ 30 ∧ X.2.1 8 = nI c ∧ M.2 18 = nI c ∧ ∀ i, i < c → X.1 16 i = M.1 15 i
def iK (i : Nat) (X : XS) (K : SS) (M : MS) (dd : AH) : Prop := (X.2.1 0 = nI 0 ∧ M.2 0 = nI 0) ∨ (X.2.1 0 = nI 1 ∧ M.2 0 = nI 1 ∧ iS (180 * i) (60 * i) K (M.1 1) dd)
def iM (i : Nat) (M : MS) : Prop := M.2 8 = MO ∧ M.2 12 = nI 0 ∧ ∃ m, m ≤ 1200 * (i + 1) ∧ M.2 10 = nI m
def iD (i : Nat) (dd : AH) : Prop := dd.length ≤ 5 * i ∧ sl dd ≤ 300 * i
def INV (i : Nat) (X : XS) (N K : SS) (M : MS) (dd : AH) : Prop := (iS (180 * i) (60 * i) N (M.1 0) dd ∧ N.2.1 5 = OU) ∧ iK i X K M dd ∧ iT X M ∧ iR X M ∧ iH X M dd ∧ iE X M dd ∧ iB X M ∧ iM i M ∧ iD i dd
def OPR (d i : Nat) (g : GT) (X : XS) (N T K : SS) (M : MS) (dd : AH) (yb ym : Nat) (as : List Value) : Prop := ∃ r X' N' T' K' M' dd', call PGM (d + 40) yb (.ref 12 :: as) (heapOf g X N T K M dd) = some (some (.int r), heapOf g X' N' T' K' M dd') ∧ call PGM (d + 40) ym (.ref 91 :: as) (heapOf g X' N' T' K' M dd') = some (some (.int r), heapOf g X' N' T' K' M' dd') ∧ INV (i + 1) X' N' K' M' dd'
theorem iS_mono {b t b' t' : Nat} {S : SS} {s : Nat → Int32} {dd : AH} (h : iS b t S s dd) (hb : b ≤ b') (ht : t ≤ t') : iS b' t' S s dd := by
  obtain ⟨nc, np, nb, n, C, a1, a2, a3, a4⟩ := h
  exact ⟨nc, np, nb, n, C, a1, WF_mono a2 ht (fun _ _ => hb), a3, a4⟩
theorem iK_mono {i : Nat} {X : XS} {K : SS} {M : MS} {dd : AH} (h : iK i X K M dd) : iK (i + 1) X K M dd := by
  rcases h with h | ⟨a, b, c⟩
  · exact Or.inl h
  · exact Or.inr ⟨a, b, iS_mono c (by omega) (by omega)⟩
theorem iM_mono {i : Nat} {M : MS} (h : iM i M) : iM (i + 1) M := by
  obtain ⟨a, b, m, hm, e⟩ := h
  exact ⟨a, b, m, by omega, e⟩
theorem iD_mono {i : Nat} {dd : AH} (h : iD i dd) : iD (i + 1) dd := ⟨by have := h.1; omega, by have := h.2; omega⟩
theorem INV_mono {i : Nat} {X : XS} {N K : SS} {M : MS} {dd : AH} (h : INV i X N K M dd) : INV (i + 1) X N K M dd := by
  obtain ⟨⟨a, a'⟩, b, c, e, f, g, k, l, m⟩ := h
  exact ⟨⟨iS_mono a (by omega) (by omega), a'⟩, iK_mono b, c, e, f, g, k, iM_mono l, iD_mono m⟩
theorem op_ro {d i : Nat} {g : GT} {X : XS} {N T K : SS} {M : MS} {dd : AH} {yb ym : Nat} {as : List Value} (r : Int32) (h : INV i X N K M dd) (h1 : call PGM (d + 40) yb (.ref 12 :: as) (heapOf g X N T K M dd) = some (some (.int r), heapOf g X N T K M dd)) (h2 : call PGM (d + 40) ym (.ref 91 :: as) (heapOf g X N T K M dd) = some (some (.int r), heapOf g X N T K M dd)) : OPR d i g X N T K M dd yb ym as :=
  ⟨r, X, N, T, K, M, dd, h1, h2, INV_mono h⟩
/-- the model's row changes, and the street with it -/
theorem op_ns {d i : Nat} {g : GT} {X : XS} {N T K : SS} {M : MS} {dd : AH} {yb ym : Nat} {as : List Value} (r : Int32) (N' : SS) (s' : Nat → Int32) (h : INV i X N K M dd) (h1 : call PGM (d + 40) yb (.ref 12 :: as) (heapOf g X N T K M dd) = some (some (.int r), heapOf g X N' T K M dd)) (h2 : call PGM (d + 40) ym (.ref 91 :: as) (heapOf g X N' T K M dd) = some (some (.int r), heapOf g X N' T K (mA M 0 s') dd)) (h3 : iS (180 * (i + 1)) (60 * (i + 1)) N' s' dd) (h4 : N'.2.1 5 = OU) : OPR d i g X N T K M dd yb ym as := by
  obtain ⟨⟨a, a'⟩, b, c, e, f, gg, k, l, m⟩ := INV_mono h
  exact ⟨r, X, N', T, K, mA M 0 s', dd, h1, h2, ⟨⟨h3, h4⟩, b, c, e, f, gg, k, l, m⟩⟩
-- numbers told
def hasB (i : Int32) (n : Nat) : Bool := !decide (i < 0) && decide (i < nI n)
theorem has_t {i : Int32} {n : Nat} (hn : n < 2147483648) (h : hasB i n = true) : ∃ k, k < n ∧ i = nI k := by
  unfold hasB at h
  rw [Bool.and_eq_true, Bool.not_eq_true', decide_eq_false_iff_not, decide_eq_true_eq] at h
  obtain ⟨k, hk, e⟩ := nI_of h.1
  subst e
  exact ⟨k, (nI_ltI (by omega) (by omega)).mp h.2, rfl⟩
theorem has_n {k n : Nat} (hk : k < 2147483648) (hn : n < 2147483648) : hasB (nI k) n = decide (k < n) := by
  unfold hasB
  rw [l0, dlt (by omega) (by omega), dlt (by omega) (by omega)]
  simp
theorem in_has (i : Int32) {n : Nat} (hn : n < 1000000) : (decide ((0 : Int32) ≤ i) && decide (i ≤ nI n - 1)) = hasB i n := by
  unfold hasB
  have e1 : decide ((0 : Int32) ≤ i) = !decide (i < 0) := le_not_lt 0 i
  have e2 : decide (i ≤ nI n - 1) = decide (i < nI n) := by
    rw [decide_eq_decide, Int32.le_iff_toInt_le, Int32.lt_iff_toInt_lt]
    have : (nI n - 1).toInt = (n : Int) - 1 := by
      rw [Int32.toInt_sub, nI_toInt (by omega)]
      have : (1 : Int32).toInt = 1 := rfl
      rw [this]
      refine Int.bmod_eq_of_le ?_ ?_ <;> omega
    rw [this, nI_toInt (by omega)]
    omega
  rw [e1, e2]
theorem cM_isCell (d : Nat) (Z : ZT) (M : MS) (i : Int32) {nc : Nat} (hn : nc ≤ 30) (h : M.1 0 0 = nI nc) : call PGM (d + 2) yM_isCell [.ref 91, .int i] (hM Z M) = some (some (.int (bI (hasB i nc))), hM Z M) := by
  rw [kM_isCell, eM_isCell_0, h, show (0 : Int64) = (0 : Int32).toInt64 from rfl, cM_inI d, in_has i (by omega), aft1, eM_isCell_15, bI_B, cond_true]
theorem cM_isPerson (d : Nat) (Z : ZT) (M : MS) (i : Int32) {np : Nat} (hn : np ≤ 20) (h : M.1 0 1 = nI np) : call PGM (d + 2) yM_isPerson [.ref 91, .int i] (hM Z M) = some (some (.int (bI (hasB i np))), hM Z M) := by
  rw [kM_isPerson, eM_isPerson_0, h, show (0 : Int64) = (0 : Int32).toInt64 from rfl, cM_inI d, in_has i (by omega), aft1, eM_isPerson_15, bI_B, cond_true]
theorem cM_isBeast (d : Nat) (Z : ZT) (M : MS) (i : Int32) {nb : Nat} (hn : nb ≤ 6) (h : M.1 0 2 = nI nb) : call PGM (d + 2) yM_isBeast [.ref 91, .int i] (hM Z M) = some (some (.int (bI (hasB i nb))), hM Z M) := by
  rw [kM_isBeast, eM_isBeast_0, h, show (0 : Int64) = (0 : Int32).toInt64 from rfl, cM_inI d, in_has i (by omega), aft1, eM_isBeast_15, bI_B, cond_true]
theorem cM_isLong (d : Nat) (h : AH) (i : Int32) : call PGM (d + 2) yM_isLong [.int i] h = some (some (.int (bI (rng i 0 60))), h) := by
  rw [kM_isLong, eM_isLong_0, w0, w60, cM_rng d, aft1, eM_isLong_9, bI_B, cond_true]
theorem cN_hasCell (d : Nat) (g : GT) (X : XS) {N : SS} (T K : SS) (M : MS) (dd : AH) (i : Int32) {nc : Nat} (h : N.2.1 0 = nI nc) : call PGM (d + 1) yS_hasCell [.ref 43, .int i] (heapOf g X N T K M dd) = some (some (.int (bI (hasB i nc))), heapOf g X N T K M dd) := by
  rw [hN_eq, cS_hasCell d (Or.inl rfl), h]
  rfl
theorem cN_hasPerson (d : Nat) (g : GT) (X : XS) {N : SS} (T K : SS) (M : MS) (dd : AH) (i : Int32) {np : Nat} (h : N.2.1 1 = nI np) : call PGM (d + 1) yS_hasPerson [.ref 43, .int i] (heapOf g X N T K M dd) = some (some (.int (bI (hasB i np))), heapOf g X N T K M dd) := by
  rw [hN_eq, cS_hasPerson d (Or.inl rfl), h]
  rfl
theorem cN_hasBeast (d : Nat) (g : GT) (X : XS) {N : SS} (T K : SS) (M : MS) (dd : AH) (i : Int32) {nb : Nat} (h : N.2.1 2 = nI nb) : call PGM (d + 1) yS_hasBeast [.ref 43, .int i] (heapOf g X N T K M dd) = some (some (.int (bI (hasB i nb))), heapOf g X N T K M dd) := by
  rw [hN_eq, cS_hasBeast d (Or.inl rfl), h]
  rfl
theorem rng3 (i : Int32) {lo hi : Nat} (hh : hi < 2147483648) (hl : lo ≤ hi) : (∃ n, lo ≤ n ∧ n ≤ hi ∧ i = nI n) ∨ (rng i lo hi = false ∧ decide (i < nI lo) = true) ∨ (rng i lo hi = false ∧ decide (i < nI lo) = false ∧ decide (nI hi < i) = true ∧ decide (i ≤ nI hi) = false) := by
  cases e : rng i lo hi with
  | true => exact Or.inl (rng_t (by omega) hh e)
  | false =>
    refine Or.inr ?_
    unfold rng at e
    rw [le_not_lt, le_not_lt] at e
    cases e1 : decide (i < nI lo) with
    | true => exact Or.inl ⟨rfl, rfl⟩
    | false =>
      refine Or.inr ⟨rfl, rfl, ?_, ?_⟩
      · rw [e1] at e
        cases e2 : decide (nI hi < i) with
        | true => rfl
        | false => rw [e2] at e; cases e
      · rw [e1] at e
        rw [le_not_lt]
        cases e2 : decide (nI hi < i) with
        | true => rfl
        | false => rw [e2] at e; cases e
theorem isB_PersonKind (d : Nat) (h : AH) (i : Int32) : call PGM (d + 1) yB_isPersonKind [.int i] h = some (some (.int (bI (rng i 1 7))), h) := by
  rw [kB_isPersonKind, eB_isPersonKind_0, rng, le_not_lt, le_not_lt]
  show (bif decide (i < nI 1) then _ else bif decide (nI 7 < i) then _ else _) = _
  cases decide (i < nI 1) <;> cases decide (nI 7 < i) <;> rfl
theorem isB_Tenths (d : Nat) (h : AH) (i : Int32) : call PGM (d + 1) yB_isTenths [.int i] h = some (some (.int (bI (rng i 0 60))), h) := by
  rw [kB_isTenths, eB_isTenths_0, rng, le_not_lt, le_not_lt]
  show (bif decide (i < nI 0) then _ else bif decide (nI 60 < i) then _ else _) = _
  cases decide (i < nI 0) <;> cases decide (nI 60 < i) <;> rfl
theorem isB_Holder (d : Nat) (h : AH) (i : Int32) : call PGM (d + 1) yB_isHolder [.int i] h = some (some (.int (bI (hasB i 4))), h) := by
  rw [kB_isHolder, eB_isHolder_0, hasB, le_not_lt]
  show (bif decide (i < 0) then _ else bif !decide (i < nI 4) then _ else _) = _
  cases decide (i < 0) <;> cases decide (i < nI 4) <;> rfl
