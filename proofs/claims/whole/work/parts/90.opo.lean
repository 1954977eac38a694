/-! Calls of both: feed. -/
theorem up_up {α : Type} (f : Nat → α) (k : Nat) (v w : α) : up (up f k v) k w = up f k w := by
  funext j
  simp only [up]
  cases Nat.beq j k <;> rfl
theorem up_id {α : Type} (f : Nat → α) (k : Nat) : up f k (f k) = f := by
  funext j
  simp only [up]
  cases e : Nat.beq j k with
  | true => rw [Nat.eq_of_beq_eq_true e]; rfl
  | false => rfl
theorem xA_xA (X : XS) (k : Nat) (f h : Nat → Int32) : xA (xA X k f) k h = xA X k h := by
  show (up (up X.1 k f) k h, X.2) = (up X.1 k h, X.2)
  rw [up_up]
theorem xA_id (X : XS) (k : Nat) : xA X k (X.1 k) = X := by
  show (up X.1 k (X.1 k), X.2) = X
  rw [up_id]
theorem mV_mV (M : MS) (k : Nat) (v w : Int32) : mV (mV M k v) k w = mV M k w := by
  show (M.1, up (up M.2 k v) k w) = (M.1, up M.2 k w)
  rw [up_up]
theorem by_sgn (z : Int64) : ∃ b, b < 256 ∧ (z &&& 255).toInt32 = nI b ∧ vp_nar .byte z.toInt32.toInt8.toInt32 = sgn b := by
  refine ⟨z.toBitVec.toNat % 256, by omega, ?_, ?_⟩
  · apply Int32.toInt_inj.mp
    have e : (z &&& 255).toInt = ((z.toBitVec.toNat % 256 : Nat) : Int) := by
      have e1 : (z &&& 255).toBitVec.toNat = z.toBitVec.toNat % 256 := by
        rw [Int64.toBitVec_and, BitVec.toNat_and]
        exact Nat.and_two_pow_sub_one_eq_mod _ 8
      show (z &&& 255).toBitVec.toInt = _
      rw [BitVec.toInt_eq_toNat_cond, e1]
      rw [if_pos (by omega)]
    rw [Int64.toInt_toInt32, e, nI_toInt (by omega)]
    refine Int.bmod_eq_of_le ?_ ?_ <;> omega
  · show z.toInt32.toInt8.toInt32.toInt8.toInt32 = _
    apply Int32.toInt_inj.mp
    have zt : z.toInt = if 2 * z.toBitVec.toNat < 2 ^ 64 then (z.toBitVec.toNat : Int) else (z.toBitVec.toNat : Int) - (2 ^ 64 : Nat) := BitVec.toInt_eq_toNat_cond _
    have e1 : z.toInt32.toInt8.toInt = z.toInt.bmod (2 ^ 8) := by
      rw [Int32.toInt_toInt8, Int64.toInt_toInt32]
      simp only [Int.bmod_def]
      split <;> split <;> split <;> omega
    have e2 : z.toInt32.toInt8.toInt32.toInt8.toInt32.toInt = z.toInt.bmod (2 ^ 8) := by
      rw [Int8.toInt_toInt32, Int32.toInt_toInt8, Int8.toInt_toInt32, e1]
      simp only [Int.bmod_def]
      split <;> split <;> omega
    have e3 : (sgn (z.toBitVec.toNat % 256)).toInt = if z.toBitVec.toNat % 256 < 128 then ((z.toBitVec.toNat % 256 : Nat) : Int) else ((z.toBitVec.toNat % 256 : Nat) : Int) - 256 := by
      unfold sgn
      by_cases h : z.toBitVec.toNat % 256 < 128
      · rw [if_pos h, if_pos h, nI_toInt (by omega)]
      · rw [if_neg h, if_neg h, Int32.toInt_sub, nI_toInt (by omega), nI_toInt (by omega)]
        refine Int.bmod_eq_of_le ?_ ?_ <;> omega
    rw [e2, e3, zt]
    simp only [Int.bmod_def]
    split <;> split <;> split <;> omega
theorem INV_T {i : Nat} {X X' : XS} {N K : SS} {M M' : MS} {dd : AH} (h : INV i X N K M dd) (x1 : ∀ k, 8 ≤ k → X'.1 k = X.1 k) (x2 : ∀ k, (k = 0 ∨ 6 ≤ k) → X'.2.1 k = X.2.1 k) (x3 : X'.2.2 = X.2.2) (m1 : ∀ k, k ≠ 3 → k ≠ 4 → k ≠ 5 → M'.1 k = M.1 k) (m2 : ∀ k, (k = 0 ∨ 8 ≤ k) → M'.2 k = M.2 k) (hT : iT X' M') : INV (i + 1) X' N K M' dd := by
  obtain ⟨⟨a, a'⟩, b, c, e, f, g, k, l, m⟩ := INV_mono h
  refine ⟨⟨by rw [m1 0 (by omega) (by omega) (by omega)]; exact a, a'⟩, ?_, hT, ?_, ?_, ?_, ?_, ?_, m⟩
  · unfold iK; rw [m2 0 (by omega), m1 1 (by omega) (by omega) (by omega), x2 0 (by omega)]; exact b
  · unfold iR; rw [m2 14 (by omega), m1 8 (by omega) (by omega) (by omega), x2 6 (by omega), x1 8 (by omega), x1 9 (by omega), x1 10 (by omega)]; exact e
  · unfold iH iH1; rw [m1 9 (by omega) (by omega) (by omega), m1 10 (by omega) (by omega) (by omega), m1 11 (by omega) (by omega) (by omega), x3]; exact f
  · unfold iE iE1; rw [m1 12 (by omega) (by omega) (by omega), m1 13 (by omega) (by omega) (by omega), m1 14 (by omega) (by omega) (by omega), x3, x1 14 (by omega), x1 15 (by omega)]; exact g
  · unfold iB; rw [m2 18 (by omega), m1 15 (by omega) (by omega) (by omega), x2 8 (by omega), x1 16 (by omega)]; exact k
  · unfold iM; rw [m2 8 (by omega), m2 12 (by omega), m2 10 (by omega)]; exact l
def fdX (l : Int64) (n : Nat) : Nat → Nat → (Nat → Int32) → Nat → Int32
  | 0, _, f => f
  | q + 1, k, f => fdX l n q (k + 1) (upd f (n + k) (vp_nar .byte (l >>> ((8 * nI k).toInt64 &&& 63)).toInt32.toInt8.toInt32))
def fdM (l : Int64) (n : Nat) : Nat → Nat → (Nat → Int32) → Nat → Int32
  | 0, _, f => f
  | q + 1, k, f => fdM l n q (k + 1) (upd f (n + k) (l >>> ((8 * nI k).toInt64 &&& 63) &&& 255).toInt32)
theorem fd_both (l : Int64) (n : Nat) : ∀ (q k : Nat) (f f' : Nat → Int32), (∀ j, j < n + k → ∃ b, b < 256 ∧ f' j = nI b ∧ f j = sgn b) → ∀ j, j < n + k + q → ∃ b, b < 256 ∧ fdM l n q k f' j = nI b ∧ fdX l n q k f j = sgn b
  | 0, k, f, f', h => h
  | q + 1, k, f, f', h => by
    intro j hj
    refine fd_both l n q (k + 1) _ _ ?_ j (by omega)
    intro j hj
    by_cases e : j = n + k
    · subst e
      rw [upd_eq, upd_eq]
      exact by_sgn _
    · rw [upd_ne e, upd_ne e]
      exact h j (by omega)
theorem op_feed (d i : Nat) (g : GT) (X : XS) (N T K : SS) (M : MS) (dd : AH) (h : INV i X N K M dd) (l : Int64) (c : Int32) : OPR d i g X N T K M dd yB_feed yM_feed [.long l, .int c] := by
  have h' := h
  obtain ⟨_, hK, ⟨n, hn, t1, t2, t3⟩, hRw, hH, hE, hB, hM', hD⟩ := h'
  have cM : ∀ Z : ZT, call PGM (d + 40) yM_feed [.ref 91, .long l, .int c] (hM Z M) = sem PGM (d + 39) yM_feed (9, [some (.ref 91), some (.long l), none, some (.int c), none], [.int (bI (rng c 1 8))], hM Z M) := by
    intro Z
    rw [kM_feed, eM_feed_0, show (8 : Int64) = (nI 8).toInt64 from rfl, show (1 : Int64) = (nI 1).toInt64 from rfl, cM_rng (d + 38), aft1]
  rcases rng3 c (lo := 1) (hi := 8) (by omega) (by omega) with ⟨m, hm1, hm8, rfl⟩ | ⟨hr, hc⟩ | ⟨hr, hc1, hc2, hc3⟩
  · have rt : rng (nI m) 1 8 = true := by rw [rng_n (by omega) (by omega) (by omega)]; simp; omega
    have v1 : decide (nI m < 1) = false := by rw [show (1 : Int32) = nI 1 from rfl, dlt (by omega) (by omega)]; simp; omega
    have v2 : decide (nI m ≤ 8) = true := by rw [show (8 : Int32) = nI 8 from rfl, dle (by omega) (by omega)]; simp; omega
    have v3 : decide (nI n + nI m ≤ 200) = decide (n + m ≤ 200) := by rw [show (200 : Int32) = nI 200 from rfl, nI_add, dle (by omega) (by omega)]
    by_cases hs : n + m ≤ 200
    · have lpB : ∀ q k, k + q = m → ∀ f, sem PGM (d + 39) yB_feed (31, [some (.ref 12), some (.long l), none, some (.int (nI m)), some (.int (nI k))], [], heapOf g (xA X 0 f) N T K M dd) = some (some (.int (nI (n + m))), heapOf g (xV (xA X 0 (fdX l n q k f)) 1 (nI (n + m))) N T K M dd) := by
        intro q
        induction q with
        | zero =>
          intro k hk f
          have e1 : (xA X 0 f).2.1 1 = nI n := t1
          have km : decide (nI m ≤ nI k) = true := by rw [dle (by omega) (by omega)]; simp; omega
          rw [eB_feed_31, km, cond_true, eB_feed_74, xV_s, e1, nI_add]
          rfl
        | succ q ih =>
          intro k hk f
          have e1 : (xA X 0 f).2.1 1 = nI n := t1
          have km : decide (nI m ≤ nI k) = false := by rw [dle (by omega) (by omega)]; simp; omega
          have ib : inb (nI (n + k)) 200 = true := by rw [inb_nI (by omega)]; simp; omega
          rw [eB_feed_31, km, cond_false, e1, nI_add, ib, cond_true, nclamp (by omega), eB_feed_58, nI_1, xA_s, xA_xA]
          exact ih (k + 1) (by omega) _
      have lpM : ∀ q k, k + q = m → ∀ (Z : ZT) f, sem PGM (d + 39) yM_feed (32, [some (.ref 91), some (.long l), none, some (.int (nI m)), some (.int (nI k))], [], hM Z (mV (mA M 3 f) 1 (nI (n + k)))) = some (some (.int (nI (n + m))), hM Z (mV (mA M 3 (fdM l n q k f)) 1 (nI (n + m)))) := by
        intro q
        induction q with
        | zero =>
          intro k hk Z f
          have km : decide (nI m ≤ nI k) = true := by rw [dle (by omega) (by omega)]; simp; omega
          have ek : k = m := by omega
          subst ek
          rw [eM_feed_32, km, cond_true, mV_s]
          rfl
        | succ q ih =>
          intro k hk Z f
          have km : decide (nI m ≤ nI k) = false := by rw [dle (by omega) (by omega)]; simp; omega
          have ib : inb (nI (n + k)) 200 = true := by rw [inb_nI (by omega)]; simp; omega
          rw [eM_feed_32, km, cond_false, mV_s, ib, cond_true, nclamp (by omega), eM_feed_59, eM_feed_69, nI_1]
          have e5 : ∀ v, mV (mA (mV (mA M 3 f) 1 (nI (n + k))) 3 v) 1 ((mA (mV (mA M 3 f) 1 (nI (n + k))) 3 v).2 1 + 1) = mV (mA M 3 v) 1 (nI (n + (k + 1))) := by
            intro v
            have : (mA (mV (mA M 3 f) 1 (nI (n + k))) 3 v).2 1 = nI (n + k) := by show (mV (mA M 3 f) 1 (nI (n + k))).2 1 = _; rw [mV_s]
            rw [this, nI_1]
            show mV (mV (mA (mA M 3 f) 3 v) 1 (nI (n + k))) 1 _ = _
            rw [mA_mA, mV_mV]
            rfl
          rw [e5]
          show sem PGM (d + 39) yM_feed (32, [some (.ref 91), some (.long l), none, some (.int (nI m)), some (.int (nI (k + 1)))], [], hM Z (mV (mA M 3 (upd ((mA M 3 f).1 3) (n + k) _)) 1 (nI (n + (k + 1))))) = _
          rw [mA_s]
          exact ih (k + 1) (by omega) Z _
      have b1 := lpB m 0 (by omega) (X.1 0)
      rw [xA_id] at b1
      refine ⟨nI (n + m), xV (xA X 0 (fdX l n m 0 (X.1 0))) 1 (nI (n + m)), N, T, K, mV (mA M 3 (fdM l n m 0 (M.1 3))) 1 (nI (n + m)), dd, ?_, ?_, ?_⟩
      · rw [kB_feed, eB_feed_0, v1, v2, t1, v3]
        have : decide (n + m ≤ 200) = true := by simp [hs]
        rw [this]
        exact b1
      · have m1 := lpM m 0 (by omega) (g, xV (xA X 0 (fdX l n m 0 (X.1 0))) 1 (nI (n + m)), N, T, K, dd) (M.1 3)
        rw [mA_id, show nI (n + 0) = M.2 1 from t2.symm, mV_id] at m1
        rw [hM_eq, hM_eq, cM, rt, eM_feed_9, t2, v3]
        have : decide (n + m ≤ 200) = true := by simp [hs]
        rw [this]
        exact m1
      · refine INV_T h (fun k hk => xA_n (by omega)) (fun k hk => ?_) rfl (fun k h3 _ _ => mA_n h3) (fun k hk => ?_) ⟨n + m, hs, xV_s _ _ _, mV_s _ _ _, ?_⟩
        · rw [xV_n (by omega)]; rfl
        · rw [mV_n (by omega)]; rfl
        · show ∀ k, k < n + m → ∃ b, b < 256 ∧ (mA M 3 (fdM l n m 0 (M.1 3))).1 3 k = nI b ∧ (xA X 0 (fdX l n m 0 (X.1 0))).1 0 k = sgn b
          rw [mA_s, xA_s]
          have := fd_both l n m 0 (X.1 0) (M.1 3) t3
          exact this
    · have hs' : decide (n + m ≤ 200) = false := by simp; omega
      refine op_ro (-2) h ?_ ?_
      · rw [kB_feed, eB_feed_0, v1, v2, t1, v3, hs']
        rfl
      · rw [hM_eq, cM, rt, eM_feed_9, t2, v3, hs']
        rfl
  · refine op_ro (-1) h ?_ ?_
    · rw [kB_feed, eB_feed_0]
      show (bif decide (c < nI 1) then _ else _) = _
      rw [hc]
      rfl
    · rw [hM_eq, cM, hr, eM_feed_9]
      rfl
  · refine op_ro (-1) h ?_ ?_
    · rw [kB_feed, eB_feed_0]
      show (bif decide (c < nI 1) then _ else bif decide (c ≤ nI 8) then _ else _) = _
      rw [hc1, hc3]
      rfl
    · rw [hM_eq, cM, hr, eM_feed_9]
      rfl
