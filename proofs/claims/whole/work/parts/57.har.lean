/-! TRIALS put back: what they leave of the model. -/
/-- the same, but for what every TRIAL sets anew -/
def mJ (M M' : MS) : Prop := (∀ k, k ≠ 2 → k ≠ 6 → k ≠ 7 → M'.1 k = M.1 k) ∧ (∀ k, k ≠ 9 → k ≠ 10 → k ≠ 11 → k ≠ 13 → M'.2 k = M.2 k)
theorem mJ_refl (M : MS) : mJ M M := ⟨fun _ _ _ _ => rfl, fun _ _ _ _ _ => rfl⟩
theorem mJ_trans {M M' M'' : MS} (h : mJ M M') (h' : mJ M' M'') : mJ M M'' := ⟨fun k a b c => (h'.1 k a b c).trans (h.1 k a b c), fun k a b c e => (h'.2 k a b c e).trans (h.2 k a b c e)⟩
theorem back_eq {s e o : Nat → Int32} (h : ∀ k, 437 ≤ k → e k = s k) : cpy 437 (cpy 437 s o) e = s := by
  funext k
  by_cases hk : k < 437
  · rw [cpy_lt hk, cpy_lt hk]
  · simp [cpy, hk, h k (by omega)]
theorem cM_harmIn (d : Nat) (Z : ZT) (M : MS) (nc np nb T n t r : Nat) (B : Nat → Nat) (C : Nat → CL) (h : WF (M.1 0) nc np nb T B) (hl : lawM (M.1 0) n C) (ht : t ≤ 60) (hr : r ≤ 24) (h14 : M.2 14 = nI r) :
    ∃ M', call PGM (d + 10) yM_harmIn [.ref 91, .int (nI t)] (hM Z M) = some (some (.int (nI (trV nc np nb n C (M.2 8) (M.1 0) t))), hM Z M') ∧ mJ M M' := by
  have hnb : nb ≤ 6 := h.1.2.2.1.2
  have hnp := h.1.2.1.2
  obtain ⟨q, hq⟩ := cM_trial d Z (mV (mA M 2 (cpy 437 (M.1 0) (M.1 2))) 9 0) nc np nb T n t 0 r B C h hl ht (by omega) rfl hr h14
  have e8 : (mV (mA M 2 (cpy 437 (M.1 0) (M.1 2))) 9 0).2 8 = M.2 8 := rfl
  have e0 : (mV (mA M 2 (cpy 437 (M.1 0) (M.1 2))) 9 0).1 0 = M.1 0 := rfl
  rw [e8, e0] at hq
  rw [kM_harmIn, eM_harmIn_0, cM_puts (d + 8), aft0, eM_harmIn_4, hq, aft1, eM_harmIn_14, cM_putsBack (d + 8), aft0, eM_harmIn_19]
  refine ⟨_, rfl, fun k h2 h6 h7 => ?_, fun k h9 h10 h11 h13 => ?_⟩
  · by_cases hk : k = 0
    · subst hk
      rw [mA_s, mQ_0, mQ_n (by omega) (by omega), trM_1 (by omega), mV_1, mA_s]
      exact back_eq (fun k hk => trS_fr hnp hnb (by omega) t)
    · rw [mA_n hk, mQ_n hk h6, trM_1 h7, mV_1, mA_n h2]
  · rw [mA_2, mQ_2, trM_2 h10 h11 h13, mV_n h9, mA_2]
