/-! TRIALS put back: what they leave of the model. -/
/-- the same, but for what every TRIAL sets anew -/
def mJ (M M' : MS) : Prop := (∀ k, k ≠ 2 → k ≠ 6 → k ≠ 7 → M'.1 k = M.1 k) ∧ (∀ k, k ≠ 9 → k ≠ 10 → k ≠ 11 → k ≠ 13 → M'.2 k = M.2 k) ∧ (M'.2 10 = M.2 10 ∨ ∃ m, m ≤ 1200 ∧ M'.2 10 = nI m)
theorem mJ_refl (M : MS) : mJ M M := ⟨fun _ _ _ _ => rfl, fun _ _ _ _ _ => rfl, Or.inl rfl⟩
theorem mJ_trans {M M' M'' : MS} (h : mJ M M') (h' : mJ M' M'') : mJ M M'' := ⟨fun k a b c => (h'.1 k a b c).trans (h.1 k a b c), fun k a b c e => (h'.2.1 k a b c e).trans (h.2.1 k a b c e), by
  rcases h'.2.2 with e | e
  · rcases h.2.2 with f | f
    · exact Or.inl (e.trans f)
    · exact Or.inr (by rw [e]; exact f)
  · exact Or.inr e⟩
theorem trN_b {nc np nb n t : Nat} {C : Nat → CL} {wo : Int32} {s : Nat → Int32} (hnp : np ≤ 20) (ht : t ≤ 60) : trN nc np nb n C wo s t ≤ 1200 :=
  Nat.le_trans (trN_le t) (Nat.mul_le_mul hnp ht)
theorem back_eq {s e o : Nat → Int32} (h : ∀ k, 437 ≤ k → e k = s k) : cpy 437 (cpy 437 s o) e = s := by
  funext k
  by_cases hk : k < 437
  · rw [cpy_lt hk, cpy_lt hk]
  · simp [cpy, hk, h k (by omega)]
theorem cM_harmIn (d : Nat) (Z : ZT) (M : MS) (nc np nb T n t r : Nat) (B : Nat → Nat) (C : Nat → CL) (h : WF (M.1 0) nc np nb T B) (hl : lawM (M.1 0) n C) (ht : t ≤ 60) (hr : r ≤ 24) (h14 : M.2 14 = nI r) :
    ∃ M', call PGM (d + 10) yM_harmIn [.ref 91, .int (nI t)] (hM Z M) = some (some (.int (nI (trV nc np nb n C (M.2 8) (M.1 0) t))), hM Z M') ∧ mJ M M' := by
  have hnb : nb ≤ 6 := h.1.2.2.1.2
  have hnp := h.1.2.1.2
  obtain ⟨q, hq⟩ := cM_trial d Z (mV (mA M 2 (cpy 437 (M.1 0) (M.1 2))) 9 0) nc np nb T n t 0 r B C h hl ht (by omega) rfl hr h14
  have e8 : (mV (mA M 2 (cpy 437 (M.1 0) (M.1 2))) 9 0).2 8 = M.2 8 := rfl
  have e0 : (mV (mA M 2 (cpy 437 (M.1 0) (M.1 2))) 9 0).1 0 = M.1 0 := rfl
  rw [e8, e0] at hq
  rw [kM_harmIn, eM_harmIn_0, cM_puts (d + 8), aft0, eM_harmIn_4, hq, aft1, eM_harmIn_14, cM_putsBack (d + 8), aft0, eM_harmIn_19]
  refine ⟨_, rfl, fun k h2 h6 h7 => ?_, fun k h9 h10 h11 h13 => ?_, Or.inr ⟨_, trN_b hnp ht, by rw [mA_2, mQ_2, trM_10]⟩⟩
  · by_cases hk : k = 0
    · subst hk
      rw [mA_s, mQ_0, mQ_n (by omega) (by omega), trM_1 (by omega), mV_1, mA_s]
      exact back_eq (fun k hk => trS_fr hnp hnb (by omega) t)
    · rw [mA_n hk, mQ_n hk h6, trM_1 h7, mV_1, mA_n h2]
  · rw [mA_2, mQ_2, trM_2 h10 h11 h13, mV_n h9, mA_2]
theorem WF_seed {s : Nat → Int32} {nc np nb T : Nat} {B : Nat → Nat} {z : Int32} (h : WF s nc np nb T B) : WF (upd s 4 z) nc np nb T B :=
  WF_b (b := 0) h (by omega) (fun k h4 _ => upd_ne h4) (fun hb => wfB_congr (h.2.2.2 0 hb) (fun i _ => upd_ne (by omega)))
/-- the row of a TRIAL with a seed, one set elsewhere -/
def setAt (s : Nat → Int32) (p : Nat) (z x : Int32) : Nat → Int32 := upd (upd s 4 z) (99 + 4 * p + 1) x
theorem cM_hurtsIn (d : Nat) (Z : ZT) (M : MS) (p nc np nb T n t r : Nat) (z x : Int32) (B : Nat → Nat) (C : Nat → CL) (hp : p < 20) (hx : okQ nc x) (h : WF (M.1 0) nc np nb T B) (hl : lawM (M.1 0) n C) (ht : t ≤ 60) (hr : r ≤ 24) (h14 : M.2 14 = nI r) :
    ∃ M', call PGM (d + 10) yM_hurtsIn [.ref 91, .int (nI p), .int (nI t), .int z, .int x] (hM Z M) = some (some (.int (trS nc np nb n C (M.2 8) (setAt (M.1 0) p z x) t (99 + 4 * p + 3) - M.1 0 (99 + 4 * p + 3))), hM Z M') ∧ mJ M M' := by
  have hnb : nb ≤ 6 := h.1.2.2.1.2
  have hnp := h.1.2.1.2
  have W : WF (setAt (M.1 0) p z x) nc np nb T B := WF_place (WF_seed h) hp hx
  have L : lawM (setAt (M.1 0) p z x) n C := lawM_congr hl (by rw [setAt, upd_ne (by omega), upd_ne (by omega)]) (fun j hj => by rw [setAt, upd_ne (by omega), upd_ne (by omega)])
  obtain ⟨q, hq⟩ := cM_trial d Z (mA (mV (mA M 2 (cpy 437 (M.1 0) (M.1 2))) 9 (nI 0)) 0 (setAt (M.1 0) p z x)) nc np nb T n t 0 r B C (by rw [mA_s]; exact W) (by rw [mA_s]; exact L) ht (by omega) rfl hr h14
  have e8 : (mA (mV (mA M 2 (cpy 437 (M.1 0) (M.1 2))) 9 (nI 0)) 0 (setAt (M.1 0) p z x)).2 8 = M.2 8 := rfl
  rw [e8, mA_s] at hq
  have hd : setAt (M.1 0) p z x (99 + 4 * p + 3) = M.1 0 (99 + 4 * p + 3) := by rw [setAt, upd_ne (by omega), upd_ne (by omega)]
  rw [kM_hurtsIn, eM_hurtsIn_0, cM_puts (d + 8), aft0, eM_hurtsIn_4, eM_hurtsIn_9, eM_hurtsIn_16]
  have es : ∀ M0 : MS, M0.1 0 = M.1 0 → mA (mA M0 0 (upd (M0.1 0) 4 z)) 0 (upd ((mA M0 0 (upd (M0.1 0) 4 z)).1 0) (99 + 4 * p + 1) x) = mA M0 0 (setAt (M.1 0) p z x) := by
    intro M0 e
    rw [mA_mA, mA_s, e, setAt]
  simp (disch := omega) only [l0, l1, l2, l3, l4, l5, l6, l7, l8, l9, l10, l11, l12, l13, l14, l15, l16, l17, l18, l19, l20, l21, l22, l23, l24, l25, l26, l27, l28, l29, l30, l31, l40, l48, l52, l57, l60, l65, l97, l99, l100, l102, l119, l122, l179, l197, l200, l201, l237, l436, l437, pk_mul, nI_add, inb_nI, nclamp, dlt, dle, deq, bif_t, bif_f, bif_nt, bif_nf, aft0, aft1, decide_true, decide_false, Bool.not_true, Bool.not_false, cond_true, cond_false, Nat.add_sub_cancel, Nat.add_one_sub_one, ou9, mo1, nI_MO, OU_lt, OU_ge, Nat.not_lt_zero, Bool.or_false, Bool.or_true, Bool.true_or, Bool.false_or, Bool.and_true, Bool.and_false, Bool.true_and, Bool.false_and, bI_0n, bI_1n, Bool.not_not]
  rw [es (mV (mA M 2 (cpy 437 (M.1 0) (M.1 2))) 9 (nI 0)) rfl, eM_hurtsIn_31]
  simp (disch := omega) only [l0, l1, l2, l3, l4, l5, l6, l7, l8, l9, l10, l11, l12, l13, l14, l15, l16, l17, l18, l19, l20, l21, l22, l23, l24, l25, l26, l27, l28, l29, l30, l31, l40, l48, l52, l57, l60, l65, l97, l99, l100, l102, l119, l122, l179, l197, l200, l201, l237, l436, l437, pk_mul, nI_add, inb_nI, nclamp, dlt, dle, deq, bif_t, bif_f, bif_nt, bif_nf, aft0, aft1, decide_true, decide_false, Bool.not_true, Bool.not_false, cond_true, cond_false, Nat.add_sub_cancel, Nat.add_one_sub_one, ou9, mo1, nI_MO, OU_lt, OU_ge, Nat.not_lt_zero, Bool.or_false, Bool.or_true, Bool.true_or, Bool.false_or, Bool.and_true, Bool.and_false, Bool.true_and, Bool.false_and, bI_0n, bI_1n, Bool.not_not]
  rw [hq, aft1, eM_hurtsIn_51]
  simp (disch := omega) only [l0, l1, l2, l3, l4, l5, l6, l7, l8, l9, l10, l11, l12, l13, l14, l15, l16, l17, l18, l19, l20, l21, l22, l23, l24, l25, l26, l27, l28, l29, l30, l31, l40, l48, l52, l57, l60, l65, l97, l99, l100, l102, l119, l122, l179, l197, l200, l201, l237, l436, l437, pk_mul, nI_add, inb_nI, nclamp, dlt, dle, deq, bif_t, bif_f, bif_nt, bif_nf, aft0, aft1, decide_true, decide_false, Bool.not_true, Bool.not_false, cond_true, cond_false, Nat.add_sub_cancel, Nat.add_one_sub_one, ou9, mo1, nI_MO, OU_lt, OU_ge, Nat.not_lt_zero, Bool.or_false, Bool.or_true, Bool.true_or, Bool.false_or, Bool.and_true, Bool.and_false, Bool.true_and, Bool.false_and, bI_0n, bI_1n, Bool.not_not]
  rw [cM_putsBack (d + 8), aft0, eM_hurtsIn_75, mQ_0, mA_s, hd]
  refine ⟨_, rfl, fun k h2 h6 h7 => ?_, fun k h9 h10 h11 h13 => ?_, Or.inr ⟨_, trN_b hnp ht, by rw [mA_2, mQ_2, trM_10]⟩⟩
  · by_cases hk : k = 0
    · subst hk
      rw [mA_s, mQ_n (by omega) (by omega), trM_1 (by omega), mA_n (by omega), mV_1, mA_s]
      exact back_eq (fun k hk => by rw [trS_fr hnp hnb (by omega) t, setAt, upd_ne (by omega), upd_ne (by omega)])
    · rw [mA_n hk, mQ_n hk h6, trM_1 h7, mA_n hk, mV_1, mA_n h2]
  · rw [mA_2, mQ_2, trM_2 h10 h11 h13, mA_2, mV_n h9, mA_2]
