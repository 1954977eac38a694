/-! What the class parted: words by number, places. -/
def nmF (B : Nat → Nat) (f : Nat) : Nat → Nat → Nat → Nat
  | 0, _, v => v
  | q + 1, i, v => nmF B f q (i + 1) (v * 10 + (B (f + i) - 48))
theorem nmF_lt (B : Nat → Nat) (f : Nat) : ∀ (q i v b : Nat), (∀ j, i ≤ j → j < i + q → 48 ≤ B (f + j) ∧ B (f + j) ≤ 57) → v < b → nmF B f q i v < b * 10 ^ q
  | 0, i, v, b, _, hv => by simpa [nmF] using hv
  | q + 1, i, v, b, h, hv => by
    have h0 := h i (by omega) (by omega)
    have := nmF_lt B f q (i + 1) (v * 10 + (B (f + i) - 48)) (b * 10) (fun j h1 h2 => h j (by omega) (by omega)) (by omega)
    rw [nmF, Nat.pow_succ, Nat.mul_comm (10 ^ q) 10, ← Nat.mul_assoc]
    exact this
/-- the number of the word at a place -/
def tkI (n : Nat) (B : Nat → Nat) (f : Nat) : Int32 := if f < n then (if srt (B f) = 1 then wV (txt B f (eo n B f - f)) WL 0 else if srt (B f) = 3 then (if B f < 128 then nI (20000 + B f) else -2) else if eo n B f - f ≤ 4 then nI (nmF B f (eo n B f - f) 0 0) else -2) else -1
theorem srt_2 {c : Nat} (h : srt c = 2) : 48 ≤ c ∧ c ≤ 57 := by
  unfold srt at h
  split at h
  · cases h
  · split at h
    · cases h
    · split at h
      · assumption
      · cases h
theorem srt_1 {c : Nat} (h : srt c = 1) : 97 ≤ c ∧ c ≤ 122 := by
  unfold srt at h
  split at h
  · cases h
  · split at h
    · assumption
    · split at h <;> cases h
theorem eo_dig {n : Nat} {B : Nat → Nat} {f : Nat} (hf : f < n) {s : Nat} (hs : srt (B f) = s) (h2 : s = 1 ∨ s = 2) : ∀ j, j < eo n B f - f → srt (B (f + j)) = s := by
  intro j hj
  by_cases e : j = 0
  · subst e; exact hs
  · rw [eo_w hf (by omega), hs] at hj
    exact (rnl_le (n - (f + 1)) (f + 1) (by omega) (n := n) (B := B) (s := s)).2.2 (f + j) (by omega) (by omega)
theorem num_loop (d : Nat) (Z : WT) {X : XS} {n : Nat} {B : Nat → Nat} (hX : tpX n B X) {f l : Nat} (hf : f + l ≤ n) (hd : ∀ j, j < l → 48 ≤ B (f + j) ∧ B (f + j) ≤ 57) (u3 : Int32) : ∀ (q i v : Nat), i + q = l → sem PGM d yR_tokenAt (57, [some (.ref 13), some (.int (nI f)), some (.int (nI l)), some (.int u3), some (.int (nI v)), some (.int (nI i))], [], hR Z X) = some (some (.int (nI (nmF B f q i v))), hR Z X)
  | 0, i, v, h => by
    have hn := hX.1
    have x : decide (nI l ≤ nI i) = true := by rw [dle (by omega) (by omega)]; simp; omega
    rw [eR_tokenAt_57, x, cond_true]
    rfl
  | q + 1, i, v, h => by
    have hn := hX.1
    have x : decide (nI l ≤ nI i) = false := by rw [dle (by omega) (by omega)]; simp; omega
    have y : inb (nI (f + i)) 200 = true := by rw [inb_nI (by omega)]; simp; omega
    have hb := hX.2 (f + i) (by omega)
    have h0 := hd i (by omega)
    have z : nI v * 10 + (sgn (B (f + i)) - 48) = nI (v * 10 + (B (f + i) - 48)) := by
      unfold sgn
      rw [if_pos (by omega), show (10 : Int32) = nI 10 from rfl, pk_mul, ← nI_add]
      congr 1
      have : nI (B (f + i)) = nI (B (f + i) - 48) + 48 := by
        rw [show (48 : Int32) = nI 48 from rfl, nI_add]
        congr 1
        omega
      rw [this, Int32.add_sub_cancel]
    rw [eR_tokenAt_57, x, cond_false, nI_add, y, cond_true, nclamp (by omega), hb.2, z, nI_1]
    exact num_loop d Z hX hf hd u3 q (i + 1) _ (by omega)
theorem cR_tokenAt (d : Nat) (Z : WT) {X : XS} {n : Nat} {B : Nat → Nat} (hX : tpX n B X) {f : Nat} (hf : f < n) (h32 : B f ≠ 32) : call PGM (d + 6) yR_tokenAt [.ref 13, .int (nI f), .int (nI (eo n B f - f))] (hR Z X) = some (some (.int (tkI n B f)), hR Z X) := by
  have hn := hX.1
  have hb := hX.2 f hf
  have el := eo_le (Nat.le_of_lt hf) (B := B)
  have y : inb (nI f) 200 = true := by rw [inb_nI (by omega)]; simp; omega
  have s1 := srt_le (B f)
  have c1 : decide (nI (srt (B f)) = 1) = decide (srt (B f) = 1) := by rw [show (1 : Int32) = nI 1 from rfl, deq (by omega) (by omega)]
  have c3 : decide (nI (srt (B f)) = 3) = decide (srt (B f) = 3) := by rw [show (3 : Int32) = nI 3 from rfl, deq (by omega) (by omega)]
  rw [kR_tokenAt, eR_tokenAt_0, y, cond_true, nclamp (by omega), hb.2, cR_sortOf (d + 4) Z X hb.1, aft1, eR_tokenAt_6, c1, c3, tkI, if_pos hf]
  by_cases e1 : srt (B f) = 1
  · have x1 : decide (srt (B f) = 1) = true := by simp [e1]
    rw [x1, if_pos e1]
    show aftK _ 1 _ (call PGM (d + 5) yR_wordAt _ _) = _
    rw [cR_wordAt d Z hX (by omega), aft1, eR_tokenAt_18]
  · have x1 : decide (srt (B f) = 1) = false := by simp [e1]
    rw [x1, if_neg e1]
    by_cases e3 : srt (B f) = 3
    · have x3 : decide (srt (B f) = 3) = true := by simp [e3]
      rw [x3, if_pos e3, y, nclamp (by omega), hb.2]
      show (bif decide ((0 : Int32) ≤ sgn (B f)) then some (some (Value.int (20000 + sgn (B f))), hR Z X) else _) = _
      have g : decide ((0 : Int32) ≤ sgn (B f)) = decide (B f < 128) := by
        rw [decide_eq_decide, Int32.le_iff_toInt_le, sgn_int hb.1]
        have : (0 : Int32).toInt = 0 := rfl
        rw [this]
        have := hb.1
        split <;> omega
      rw [g]
      by_cases g1 : B f < 128
      · have x : decide (B f < 128) = true := by simp [g1]
        rw [x, if_pos g1]
        unfold sgn
        rw [if_pos g1, show (20000 : Int32) = nI 20000 from rfl, nI_add]
        rfl
      · have x : decide (B f < 128) = false := by simp [g1]
        rw [x, if_neg g1]
        rfl
    · have x3 : decide (srt (B f) = 3) = false := by simp [e3]
      have e2 : srt (B f) = 2 := by
        have : srt (B f) ≠ 0 := fun q => h32 ((srt_0 _).mp q)
        omega
      have g : decide (nI (eo n B f - f) ≤ 4) = decide (eo n B f - f ≤ 4) := by rw [show (4 : Int32) = nI 4 from rfl, dle (by omega) (by omega)]
      rw [x3, if_neg e3, g]
      by_cases g1 : eo n B f - f ≤ 4
      · have x : decide (eo n B f - f ≤ 4) = true := by simp [g1]
        rw [x, if_pos g1]
        exact num_loop (d + 5) Z hX (by omega) (fun j hj => srt_2 (eo_dig hf e2 (Or.inr rfl) j hj)) _ _ 0 0 (by omega)
      · have x : decide (eo n B f - f ≤ 4) = false := by simp [g1]
        rw [x, if_neg g1]
        rfl
/-- parted -/
def PT (n : Nat) (B : Nat → Nat) (c : Nat) (X : XS) : Prop := X.2.1 2 = nI c ∧ c ≤ n ∧ n ≤ 200 ∧ Pp n B c = n ∧ (∀ t, t < c → Pp n B t < n) ∧ ∀ t, t ≤ c → X.1 2 t = nI (Pp n B t) ∧ X.1 1 t = tkI n B (Pp n B t)
theorem cR_part (d : Nat) (Z : WT) {X : XS} {n : Nat} {B : Nat → Nat} (hX : tpX n B X) : ∃ X' c, call PGM (d + 7) yR_part [.ref 14, .ref 13, .int (nI n)] (hR Z X) = some (none, hR Z X') ∧ xF X X' ∧ PT n B c X' := by
  have hn := hX.1
  have J0 : Jp n B (xV X 2 0) 0 0 0 := ⟨xV_s _ _ _, by omega, fun t ht => by omega, Or.inl ⟨Or.inl rfl, rfl, fun t ht => by omega⟩⟩
  obtain ⟨X1, s1, c, u5, q1, F1, a1, a2, a3, a4, a5⟩ := part_loop (d + 5) Z hX n 0 (by omega) (xV X 2 0) 0 0 none (xF_V (xF_r X) 0) J0
  rw [skp_e (by omega)] at a4
  have lp : ∀ q t, t + q = c → ∀ X2 : XS, xF X X2 → X2.2.1 2 = nI c → X2.1 2 = X1.1 2 → X2.1 3 = X1.1 3 → (∀ j, j < t → X2.1 1 j = tkI n B (Pp n B j)) → ∃ X', sem PGM (d + 6) yR_part (112, [some (.ref 14), some (.ref 13), some (.int (nI n)), some (.int (nI s1)), some (.int (nI t)), u5], [], hR Z X2) = some (none, hR Z X') ∧ xF X X' ∧ PT n B c X' := by
    intro q
    induction q with
    | zero =>
      intro t ht X2 F2 b1 b2 b3 b4
      have e : t = c := by omega
      subst e
      have x : decide (nI t ≤ nI t) = true := by rw [dle (by omega) (by omega)]; simp
      have y : inb (nI t) 201 = true := by rw [inb_nI (by omega)]; simp; omega
      let X3 := xA X2 2 (upd (X2.1 2) t (nI n))
      have b1' : X3.2.1 2 = nI t := b1
      have b5 : X3.1 1 = X2.1 1 := xA_n (by omega)
      let X4 := xA X3 1 (upd (X3.1 1) t (-1))
      have b6 : X4.1 1 = upd (X2.1 1) t (-1) := by
        show (xA X3 1 _).1 1 = _
        rw [xA_s, b5]
      have b7 : X4.1 2 = upd (X1.1 2) t (nI n) := by
        show (xA X3 1 _).1 2 = _
        rw [xA_n (by omega), ← b2]
        exact xA_s _ _ _
      refine ⟨X4, ?_, xF_A (xF_A F2 (by omega) _) (by omega) _, b1, by omega, hn, a4, fun j hj => (a3 j hj).1, fun j hj => ?_⟩
      · rw [eR_part_112, b1, x, y, cond_true, cond_true, nclamp (by omega)]
        show sem PGM (d + 6) yR_part (162, _, [], hR Z X3) = _
        rw [eR_part_162, b1', y, cond_true, nclamp (by omega)]
      · rw [b6, b7]
        by_cases e : j = t
        · subst e
          rw [upd_eq, upd_eq, a4]
          refine ⟨rfl, ?_⟩
          unfold tkI
          rw [if_neg (by omega)]
        · rw [upd_ne e, upd_ne e]
          exact ⟨(a3 j (by omega)).2, b4 j (by omega)⟩
    | succ q ih =>
      intro t ht X2 F2 b1 b2 b3 b4
      have x : decide (nI c ≤ nI t) = false := by rw [dle (by omega) (by omega)]; simp; omega
      have y : inb (nI t) 201 = true := by rw [inb_nI (by omega)]; simp; omega
      have pt := (a3 t (by omega)).1
      have hX2 : tpX n B X2 := ⟨hn, fun k hk => by rw [F2.1 0 (by omega) (by omega) (by omega)]; exact hX.2 k hk⟩
      have b5 : (xA X2 1 (upd (X2.1 1) t (tkI n B (Pp n B t)))).1 1 = upd (X2.1 1) t (tkI n B (Pp n B t)) := xA_s _ _ _
      rw [eR_part_112, b1, x, cond_false, y, cond_true, cond_true, nclamp (by omega), b2, b3, (a3 t (by omega)).2, a5 t (by omega)]
      show ∃ X', aftK _ 1 _ (call PGM (d + 6) yR_tokenAt [.ref 13, .int (nI (Pp n B t)), .int (nI (eo n B (Pp n B t) - Pp n B t))] (hR Z X2)) = _ ∧ _
      rw [cR_tokenAt d Z hX2 pt (Pp_ns n B t pt), aft1, eR_part_145, y, cond_true, nclamp (by omega), eR_part_146, nI_1]
      refine ih (t + 1) (by omega) _ (xF_A F2 (by omega) _) b1 (by rw [xA_n (by omega)]; exact b2) (by rw [xA_n (by omega)]; exact b3) (fun j hj => ?_)
      rw [b5]
      by_cases e : j = t
      · subst e; rw [upd_eq]
      · rw [upd_ne e]; exact b4 j (by omega)
  obtain ⟨X', r1, r2, r3⟩ := lp c 0 (by omega) X1 F1 a1 rfl rfl (fun j hj => by omega)
  refine ⟨X', c, ?_, r2, r3⟩
  rw [kR_part, eR_part_0, eR_part_5]
  exact q1.trans r1
