/-! How the class parts a TEXT. -/
def tpX (n : Nat) (B : Nat → Nat) (X : XS) : Prop := n ≤ 200 ∧ ∀ k, k < n → B k < 256 ∧ X.1 0 k = sgn (B k)
theorem sgn_int {b : Nat} (h : b < 256) : (sgn b).toInt = if b < 128 then (b : Int) else (b : Int) - 256 := by
  unfold sgn
  by_cases e : b < 128
  · rw [if_pos e, if_pos e, nI_toInt (by omega)]
  · rw [if_neg e, if_neg e, Int32.toInt_sub, nI_toInt (by omega), nI_toInt (by omega)]
    refine Int.bmod_eq_of_le ?_ ?_ <;> omega
theorem sgn_eq {b c : Nat} (h : b < 256) (hc : c < 128) : decide (sgn b = nI c) = decide (b = c) := by
  rw [decide_eq_decide]
  constructor
  · intro e
    have := congrArg Int32.toInt e
    rw [sgn_int h, nI_toInt (by omega)] at this
    split at this <;> omega
  · intro e
    subst e
    unfold sgn
    rw [if_pos hc]
theorem sgn_lt {b c : Nat} (h : b < 256) (hc : c < 128) : decide (sgn b < nI c) = decide (b < c ∨ 128 ≤ b) := by
  rw [decide_eq_decide, Int32.lt_iff_toInt_lt, sgn_int h, nI_toInt (by omega)]
  split <;> omega
theorem sgn_gt {b c : Nat} (h : b < 256) (hc : c < 128) : decide (nI c < sgn b) = decide (c < b ∧ b < 128) := by
  rw [decide_eq_decide, Int32.lt_iff_toInt_lt, sgn_int h, nI_toInt (by omega)]
  split <;> omega
theorem cR_sortOf (d : Nat) (Z : WT) (X : XS) {b : Nat} (h : b < 256) : call PGM (d + 1) yR_sortOf [.int (sgn b)] (hR Z X) = some (some (.int (nI (srt b))), hR Z X) := by
  rw [kR_sortOf, eR_sortOf_0, show (32 : Int32) = nI 32 from rfl, show (97 : Int32) = nI 97 from rfl, show (48 : Int32) = nI 48 from rfl, show (57 : Int32) = nI 57 from rfl, show (122 : Int32) = nI 122 from rfl, sgn_eq h (by omega), sgn_lt h (by omega), sgn_lt h (by omega), sgn_gt h (by omega), sgn_gt h (by omega)]
  unfold srt
  by_cases a : b = 32
  · simp [a]; rfl
  · by_cases a1 : 97 ≤ b ∧ b ≤ 122
    · have z1 : ¬ (b < 97 ∨ 128 ≤ b) := by omega
      have z2 : ¬ (122 < b ∧ b < 128) := by omega
      simp only [a, a1, z1, z2, decide_false, Bool.not_false, cond_true, cond_false, if_false, and_self, if_true]
      rfl
    · by_cases a2 : 48 ≤ b ∧ b ≤ 57
      · have z1 : (b < 97 ∨ 128 ≤ b) := by omega
        have z2 : ¬ (b < 48 ∨ 128 ≤ b) := by omega
        have z3 : ¬ (57 < b ∧ b < 128) := by omega
        have z4 : ¬ (97 ≤ b ∧ b ≤ 122) := by omega
        simp only [a, a2, z1, z2, z3, z4, decide_false, decide_true, Bool.not_false, cond_true, cond_false, if_false, and_self, if_true]
        rfl
      · have q : (bif decide (b < 48 ∨ 128 ≤ b) then some (some (Value.int 3), hR Z X) else bif decide (57 < b ∧ b < 128) then some (some (Value.int 3), hR Z X) else some (some (Value.int 2), hR Z X)) = some (some (Value.int 3), hR Z X) := by
          by_cases z2 : (b < 48 ∨ 128 ≤ b)
          · simp [z2]
          · have z3 : (57 < b ∧ b < 128) := by omega
            simp [z2, z3]
        rw [q]
        have hz : (if b = 32 then 0 else if 97 ≤ b ∧ b ≤ 122 then 1 else if 48 ≤ b ∧ b ≤ 57 then 2 else 3) = 3 := by rw [if_neg a, if_neg a1, if_neg a2]
        rw [hz]
        by_cases z1 : (b < 97 ∨ 128 ≤ b)
        · simp only [a, z1, decide_false, decide_true, Bool.not_false, cond_true]
          rfl
        · have z4 : (122 < b ∧ b < 128) := by omega
          simp only [a, z1, z4, decide_false, decide_true, Bool.not_false, cond_true, cond_false, and_self]
          rfl
theorem srt_le (c : Nat) : srt c = 0 ∨ srt c = 1 ∨ srt c = 2 ∨ srt c = 3 := by
  unfold srt
  split
  · omega
  · split
    · omega
    · split <;> omega
theorem srt_0 (c : Nat) : srt c = 0 ↔ c = 32 := by
  unfold srt
  split
  · simp [*]
  · split
    · simp [*]
    · split <;> simp [*]
def xF (X0 X : XS) : Prop := (∀ k, k ≠ 1 → k ≠ 2 → k ≠ 3 → X.1 k = X0.1 k) ∧ (∀ k, k ≠ 2 → X.2.1 k = X0.2.1 k) ∧ X.2.2 = X0.2.2
theorem xF_r (X : XS) : xF X X := ⟨fun _ _ _ _ => rfl, fun _ _ => rfl, rfl⟩
theorem xF_A {X0 X : XS} (h : xF X0 X) {k : Nat} (hk : k = 1 ∨ k = 2 ∨ k = 3) (f : Nat → Int32) : xF X0 (xA X k f) :=
  ⟨fun j h1 h2 h3 => by rw [xA_n (by omega)]; exact h.1 j h1 h2 h3, fun j hj => h.2.1 j hj, h.2.2⟩
theorem xF_V {X0 X : XS} (h : xF X0 X) (v : Int32) : xF X0 (xV X 2 v) :=
  ⟨h.1, fun j hj => by rw [xV_n hj]; exact h.2.1 j hj, h.2.2⟩
def Jp (n : Nat) (B : Nat → Nat) (X : XS) (i s c : Nat) : Prop := X.2.1 2 = nI c ∧ c ≤ i ∧ (∀ t, t < c → Pp n B t < n ∧ X.1 2 t = nI (Pp n B t)) ∧ ((s = 0 ∨ s = 3) ∧ Pp n B c = skp n B i ∧ (∀ t, t < c → X.1 3 t = nI (Ee n B t - Pp n B t)) ∨ (s = 1 ∨ s = 2) ∧ ∃ m, c = m + 1 ∧ Ee n B m = rnl n B s i ∧ Pp n B m < i ∧ X.1 3 m = nI (i - Pp n B m) ∧ ∀ t, t < m → X.1 3 t = nI (Ee n B t - Pp n B t))
/-- nothing under way -/
def Jn (n : Nat) (B : Nat → Nat) (X : XS) (i c : Nat) : Prop := X.2.1 2 = nI c ∧ c ≤ i ∧ (∀ t, t < c → Pp n B t < n ∧ X.1 2 t = nI (Pp n B t)) ∧ Pp n B c = skp n B i ∧ (∀ t, t < c → X.1 3 t = nI (Ee n B t - Pp n B t))
theorem Jp_n {n : Nat} {B : Nat → Nat} {X : XS} {i s c : Nat} (h : Jp n B X i s c) (he : rnl n B s i = i) : Jn n B X i c := by
  obtain ⟨h1, h2, h3, h4⟩ := h
  refine ⟨h1, h2, h3, ?_⟩
  rcases h4 with ⟨_, h5, h6⟩ | ⟨_, m, rfl, h5, h6, h7, h8⟩
  · exact ⟨h5, h6⟩
  · rw [he] at h5
    refine ⟨?_, fun t ht => ?_⟩
    · show skp n B (Ee n B m) = _
      rw [h5]
    · by_cases e : t = m
      · subst e; rw [h7, h5]
      · exact h8 t (by omega)
theorem part_step (d : Nat) (Z : WT) {X0 X : XS} {n : Nat} {B : Nat → Nat} (hX : tpX n B X0) (F : xF X0 X) {i s c : Nat} (hi : i < n) (J : Jp n B X i s c) (u5 : Option Value) : ∃ X' s' c' u5', sem PGM (d + 1) yR_part (10, [some (.ref 14), some (.ref 13), some (.int (nI n)), some (.int (nI s)), some (.int (nI i)), u5], [], hR Z X) = sem PGM (d + 1) yR_part (10, [some (.ref 14), some (.ref 13), some (.int (nI n)), some (.int (nI s')), some (.int (nI (i + 1))), u5'], [], hR Z X') ∧ xF X0 X' ∧ Jp n B X' (i + 1) s' c' := by
  have hn := hX.1
  have hb := (hX.2 i hi).1
  have e0 : X.1 0 i = sgn (B i) := by rw [F.1 0 (by omega) (by omega) (by omega)]; exact (hX.2 i hi).2
  have ni : decide (nI n ≤ nI i) = false := by rw [dle (by omega) (by omega)]; simp; omega
  have ib : inb (nI i) 200 = true := by rw [inb_nI (by omega)]; simp; omega
  have go : sem PGM (d + 1) yR_part (10, [some (.ref 14), some (.ref 13), some (.int (nI n)), some (.int (nI s)), some (.int (nI i)), u5], [], hR Z X) = sem PGM (d + 1) yR_part (23, [some (.ref 14), some (.ref 13), some (.int (nI n)), some (.int (nI s)), some (.int (nI i)), u5], [.int (nI (srt (B i)))], hR Z X) := by
    rw [eR_part_10, ni, cond_false, ib, cond_true, nclamp (by omega), e0, cR_sortOf d Z X hb, aft1]
  have c3 : decide (nI (srt (B i)) = 3) = decide (srt (B i) = 3) := by
    have := srt_le (B i)
    rw [show (3 : Int32) = nI 3 from rfl, deq (by omega) (by omega)]
  have c0 : decide (nI (srt (B i)) = 0) = decide (srt (B i) = 0) := by
    have := srt_le (B i)
    rw [l0, deq (by omega) (by omega)]
  have hs4 : s ≤ 3 := by
    rcases J.2.2.2 with ⟨h, _⟩ | ⟨h, _⟩ <;> omega
  have cs : decide (nI (srt (B i)) = nI s) = decide (srt (B i) = s) := by
    have := srt_le (B i)
    rw [deq (by omega) (by omega)]
  have j1 := J.1
  have j2 := J.2.1
  have ic : inb (nI c) 201 = true := by rw [inb_nI (by omega)]; simp; omega
  -- a new word
  have new : srt (B i) ≠ 0 → Jn n B X i c → ∃ X', sem PGM (d + 1) yR_part (53, [some (.ref 14), some (.ref 13), some (.int (nI n)), some (.int (nI s)), some (.int (nI i)), some (.int (nI (srt (B i))))], [], hR Z (xA X 2 (upd (X.1 2) c (nI i)))) = sem PGM (d + 1) yR_part (10, [some (.ref 14), some (.ref 13), some (.int (nI n)), some (.int (nI (srt (B i)))), some (.int (nI (i + 1))), some (.int (nI (srt (B i))))], [], hR Z X') ∧ xF X0 X' ∧ Jp n B X' (i + 1) (srt (B i)) (c + 1) := by
    intro h0 hJ
    obtain ⟨a1, a2, a3, a4, a5⟩ := hJ
    have nb : B i ≠ 32 := fun e => h0 ((srt_0 _).mpr e)
    have pc : Pp n B c = i := by rw [a4, skp_n hi nb]
    let X1 := xA X 2 (upd (X.1 2) c (nI i))
    let X2 := xA X1 3 (upd (X1.1 3) c 0)
    let X3 := xV X2 2 (nI (c + 1))
    let X4 := xA X3 3 (upd (X3.1 3) c 1)
    have b1 : X1.2.1 2 = nI c := a1
    have b2 : X2.2.1 2 = nI c := a1
    have b3 : X3.2.1 2 = nI (c + 1) := xV_s _ _ _
    have z0 : decide (nI (srt (B i)) = 0) = false := by rw [c0]; simp [h0]
    have z1 : decide (nI (c + 1) ≤ 0) = false := by rw [l0, dle (by omega) (by omega)]; simp
    have z2 : nI (c + 1) - 1 = nI c := by rw [← nI_1, Int32.add_sub_cancel]
    have z3 : X3.1 3 c = 0 := by
      show (xA X1 3 (upd (X1.1 3) c 0)).1 3 c = 0
      rw [xA_s, upd_eq]
    have x13 : X1.1 3 = X.1 3 := xA_n (by omega)
    have x33 : X3.1 3 = upd (X.1 3) c 0 := by
      show (xA X1 3 (upd (X1.1 3) c 0)).1 3 = _
      rw [xA_s, x13]
    have x43 : X4.1 3 = upd (upd (X.1 3) c 0) c 1 := by
      show (xA X3 3 (upd (X3.1 3) c 1)).1 3 = _
      rw [xA_s, x33]
    have x42 : X4.1 2 = upd (X.1 2) c (nI i) := by
      show (xA X3 3 (upd (X3.1 3) c 1)).1 2 = _
      rw [xA_n (by omega)]
      show (xA X1 3 (upd (X1.1 3) c 0)).1 2 = _
      rw [xA_n (by omega)]
      exact xA_s _ _ _
    refine ⟨X4, ?_, xF_A (xF_V (xF_A (xF_A F (by omega) _) (by omega) _) _) (by omega) _, ?_⟩
    · rw [eR_part_53]
      show (bif inb (X1.2.1 2) 201 then sem PGM (d + 1) yR_part (63, _, [], hR Z (xA X1 3 (upd (X1.1 3) (X1.2.1 2).toNatClampNeg 0))) else _) = _
      rw [b1, ic, cond_true, nclamp (by omega)]
      show sem PGM (d + 1) yR_part (63, _, [], hR Z X2) = _
      rw [eR_part_63, b2, nI_1]
      show sem PGM (d + 1) yR_part (73, _, [], hR Z X3) = _
      rw [eR_part_73, z0, cond_false, b3, z1, cond_false, z2, ic, cond_true, cond_true, nclamp (by omega), z3, show (0 : Int32) + 1 = 1 from rfl]
      show sem PGM (d + 1) yR_part (100, _, [], hR Z X4) = _
      rw [eR_part_100, nI_1]
    · refine ⟨b3, by omega, fun t ht => ?_, ?_⟩
      · rw [x42]
        by_cases e : t = c
        · subst e; rw [upd_eq, pc]; exact ⟨hi, rfl⟩
        · rw [upd_ne e]; exact a3 t (by omega)
      · rw [x43]
        have old : ∀ t, t < c → upd (upd (X.1 3) c 0) c 1 t = nI (Ee n B t - Pp n B t) := by
          intro t ht
          rw [upd_ne (by omega), upd_ne (by omega)]
          exact a5 t ht
        have sr := srt_le (B i)
        by_cases w : srt (B i) = 1 ∨ srt (B i) = 2
        · refine Or.inr ⟨w, c, rfl, ?_, by omega, ?_, old⟩
          · unfold Ee
            rw [pc, eo_w hi w]
          · rw [upd_eq, pc, show i + 1 - i = 1 by omega]
            rfl
        · have ee : Ee n B c = i + 1 := by
            unfold Ee
            rw [pc, eo_o hi w]
          refine Or.inl ⟨by omega, ?_, fun t ht => ?_⟩
          · show skp n B (Ee n B c) = _
            rw [ee]
          · by_cases e : t = c
            · subst e
              rw [upd_eq, ee, pc, show i + 1 - i = 1 by omega]
              rfl
            · exact old t (by omega)
  -- a blank
  have blank : srt (B i) = 0 → Jn n B X i c → ∃ X' s' c' u5', sem PGM (d + 1) yR_part (73, [some (.ref 14), some (.ref 13), some (.int (nI n)), some (.int (nI s)), some (.int (nI i)), some (.int (nI (srt (B i))))], [], hR Z X) = sem PGM (d + 1) yR_part (10, [some (.ref 14), some (.ref 13), some (.int (nI n)), some (.int (nI s')), some (.int (nI (i + 1))), u5'], [], hR Z X') ∧ xF X0 X' ∧ Jp n B X' (i + 1) s' c' := by
    intro h0 hJ
    obtain ⟨a1, a2, a3, a4, a5⟩ := hJ
    refine ⟨X, 0, c, some (.int (nI 0)), ?_, F, a1, by omega, a3, Or.inl ⟨Or.inl rfl, ?_, a5⟩⟩
    · rw [eR_part_73, h0]
      show sem PGM (d + 1) yR_part (100, _, [], hR Z X) = _
      rw [eR_part_100, nI_1]
    · rw [a4, skp_b hi ((srt_0 _).mp h0)]
  rw [go, eR_part_23, c3, c0, cs, j1, ic]
  by_cases k3 : srt (B i) = 3
  · have hJ : Jn n B X i c := by
      rcases J.2.2.2 with ⟨h, _⟩ | ⟨h, _⟩
      · obtain ⟨h1, h2, h3, h4⟩ := J
        rcases h4 with ⟨_, h5, h6⟩ | ⟨h', _⟩
        · exact ⟨h1, h2, h3, h5, h6⟩
        · omega
      · exact Jp_n J (rnl_n hi (by omega))
    obtain ⟨X', q1, q2, q3⟩ := new (by omega) hJ
    refine ⟨X', srt (B i), c + 1, some (.int (nI (srt (B i)))), ?_, q2, q3⟩
    rw [← q1, k3, nclamp (by omega)]
    rfl
  · have x3 : decide (srt (B i) = 3) = false := by simp [k3]
    rw [x3, cond_false]
    by_cases k0 : srt (B i) = 0
    · have hJ : Jn n B X i c := by
        rcases J.2.2.2 with ⟨h, _⟩ | ⟨h, _⟩
        · obtain ⟨h1, h2, h3, h4⟩ := J
          rcases h4 with ⟨_, h5, h6⟩ | ⟨h', _⟩
          · exact ⟨h1, h2, h3, h5, h6⟩
          · omega
        · exact Jp_n J (rnl_n hi (by omega))
      obtain ⟨X', s', c', u', q1, q2, q3⟩ := blank k0 hJ
      refine ⟨X', s', c', u', ?_, q2, q3⟩
      rw [← q1]
      have x0 : decide (srt (B i) = 0) = true := by simp [k0]
      rw [x0]
      rfl
    · have x0 : decide (srt (B i) = 0) = false := by simp [k0]
      rw [x0, cond_false]
      by_cases ks : srt (B i) = s
      · have xs : decide (srt (B i) = s) = true := by simp [ks]
        rw [xs, cond_true]
        obtain ⟨h1, h2, h3, h4⟩ := J
        have sr := srt_le (B i)
        rcases h4 with ⟨h', _⟩ | ⟨h', m, rfl, h5, h6, h7, h8⟩
        · omega
        · let X1 := xA X 3 (upd (X.1 3) m (nI (i - Pp n B m) + 1))
          have z1 : decide (nI (m + 1) ≤ 0) = false := by rw [l0, dle (by omega) (by omega)]; simp
          have z2 : nI (m + 1) - 1 = nI m := by rw [← nI_1, Int32.add_sub_cancel]
          have im : inb (nI m) 201 = true := by rw [inb_nI (by omega)]; simp; omega
          have z0 : decide (nI (srt (B i)) = 0) = false := by rw [c0]; simp [k0]
          have x13 : X1.1 3 = upd (X.1 3) m (nI (i + 1 - Pp n B m)) := by
            show (xA X 3 _).1 3 = _
            rw [xA_s, nI_1, show i - Pp n B m + 1 = i + 1 - Pp n B m by omega]
          have x12 : X1.1 2 = X.1 2 := xA_n (by omega)
          refine ⟨X1, s, m + 1, some (.int (nI (srt (B i)))), ?_, xF_A F (by omega) _, h1, by omega, by rw [x12]; exact h3, Or.inr ⟨h', m, rfl, ?_, by omega, ?_, ?_⟩⟩
          · rw [eR_part_73, z0, cond_false, h1, z1, cond_false, z2, im, cond_true, cond_true, nclamp (by omega), h7]
            show sem PGM (d + 1) yR_part (100, _, [], hR Z X1) = _
            rw [eR_part_100, nI_1, ks]
          · rw [h5, rnl_b hi ks]
          · rw [x13, upd_eq]
          · intro t ht
            rw [x13, upd_ne (by omega)]
            exact h8 t ht
      · have xs : decide (srt (B i) = s) = false := by simp [ks]
        rw [xs, cond_false]
        have hJ : Jn n B X i c := by
          rcases J.2.2.2 with ⟨h, _⟩ | ⟨h, _⟩
          · obtain ⟨h1, h2, h3, h4⟩ := J
            rcases h4 with ⟨_, h5, h6⟩ | ⟨h', _⟩
            · exact ⟨h1, h2, h3, h5, h6⟩
            · omega
          · exact Jp_n J (rnl_n hi ks)
        obtain ⟨X', q1, q2, q3⟩ := new k0 hJ
        refine ⟨X', srt (B i), c + 1, some (.int (nI (srt (B i)))), ?_, q2, q3⟩
        rw [← q1, nclamp (by omega)]
        rfl
theorem part_loop (d : Nat) (Z : WT) {X0 : XS} {n : Nat} {B : Nat → Nat} (hX : tpX n B X0) : ∀ (q i : Nat), i + q = n → ∀ (X : XS) (s c : Nat) (u5 : Option Value), xF X0 X → Jp n B X i s c → ∃ X' s' c' u5', sem PGM (d + 1) yR_part (10, [some (.ref 14), some (.ref 13), some (.int (nI n)), some (.int (nI s)), some (.int (nI i)), u5], [], hR Z X) = sem PGM (d + 1) yR_part (112, [some (.ref 14), some (.ref 13), some (.int (nI n)), some (.int (nI s')), some (.int 0), u5'], [], hR Z X') ∧ xF X0 X' ∧ Jn n B X' n c'
  | 0, i, hi, X, s, c, u5, F, J => by
    have hn := hX.1
    have e : i = n := by omega
    subst e
    refine ⟨X, s, c, u5, ?_, F, Jp_n J (rnl_e (by omega))⟩
    have ni : decide (nI i ≤ nI i) = true := by rw [dle (by omega) (by omega)]; simp
    rw [eR_part_10, ni, cond_true]
  | q + 1, i, hi, X, s, c, u5, F, J => by
    obtain ⟨X1, s1, c1, u1, q1, q2, q3⟩ := part_step d Z hX F (by omega) J u5
    obtain ⟨X', s', c', u', r1, r2, r3⟩ := part_loop d Z hX q (i + 1) (by omega) X1 s1 c1 u1 q2 q3
    exact ⟨X', s', c', u', q1.trans r1, r2, r3⟩
