/-! Heaped by fewer PEOPLE. -/
def outF (s : Nat → Int32) (m : Nat) : Nat → Nat → Int32
  | 0 => s
  | j + 1 => upd (outF s m j) (99 + 4 * (m + j) + 1) OU
theorem outF_fr {s : Nat → Int32} {m k : Nat} (h : k < 99 ∨ 179 ≤ k) : ∀ j, m + j ≤ 20 → outF s m j k = s k
  | 0, _ => rfl
  | j + 1, hj => by rw [outF, upd_ne (by omega), outF_fr h j (by omega)]
theorem WF_outF {s : Nat → Int32} {nc np nb T m : Nat} {B : Nat → Nat} (h : WF s nc np nb T B) : ∀ j, m + j ≤ 20 → WF (outF s m j) nc np nb T B
  | 0, _ => h
  | j + 1, hj => WF_place (WF_outF h j (by omega)) (by omega) (Or.inl rfl)
def anyH (s : Nat → Int32) : Nat → Bool
  | 0 => false
  | p + 1 => anyH s p || (!decide (s (99 + 4 * p + 1) < nI 0) && decide (s (99 + 4 * p) = nI 6))
theorem cM_isHeapedBy (d : Nat) (Z : ZT) (M : MS) (m nc np nb T n t r : Nat) (B : Nat → Nat) (C : Nat → CL) (hm : m ≤ np) (h : WF (M.1 0) nc np nb T B) (hl : lawM (M.1 0) n C) (ht : t ≤ 60) (hr : r ≤ 24) (h14 : M.2 14 = nI r) :
    ∃ M', call PGM (d + 10) yM_isHeapedBy [.ref 91, .int (nI m), .int (nI t)] (hM Z M) = some (some (.int (bI (anyH (trS nc np nb n C (M.2 8) (outF (M.1 0) m (np - m)) t) np))), hM Z M') ∧ mJ M M' := by
  have hnb : nb ≤ 6 := h.1.2.2.1.2
  have hnp := h.1.2.1.2
  have h1 := h.1.2.1.1
  have W : WF (outF (M.1 0) m (np - m)) nc np nb T B := WF_outF h _ (by omega)
  have L : lawM (outF (M.1 0) m (np - m)) n C := lawM_congr hl (outF_fr (by omega) _ (by omega)) (fun j hj => outF_fr (by omega) _ (by omega))
  obtain ⟨q, hq⟩ := cM_trial d Z (mA (mV (mA M 2 (cpy 437 (M.1 0) (M.1 2))) 9 0) 0 (outF (M.1 0) m (np - m))) nc np nb T n t 0 r B C (by rw [mA_s]; exact W) (by rw [mA_s]; exact L) ht (by omega) rfl hr h14
  have e8 : (mA (mV (mA M 2 (cpy 437 (M.1 0) (M.1 2))) 9 0) 0 (outF (M.1 0) m (np - m))).2 8 = M.2 8 := rfl
  rw [e8, mA_s] at hq
  have lpA : ∀ k j, j + k = np - m → sem PGM (d + 9) yM_isHeapedBy (11, [some (.ref 91), some (.int (nI m)), some (.int (nI t)), some (.int (nI (m + j))), none, none], [], hM Z (mA (mV (mA M 2 (cpy 437 (M.1 0) (M.1 2))) 9 0) 0 (outF (M.1 0) m j))) = aftK (sem PGM (d + 9) yM_isHeapedBy) 1 (47, [some (.ref 91), some (.int (nI m)), some (.int (nI t)), some (.int (nI np)), none, none], [], hM Z (mA (mV (mA M 2 (cpy 437 (M.1 0) (M.1 2))) 9 0) 0 (outF (M.1 0) m (np - m)))) (call PGM (d + 9) yM_trial [.ref 91, .int (nI t)] (hM Z (mA (mV (mA M 2 (cpy 437 (M.1 0) (M.1 2))) 9 0) 0 (outF (M.1 0) m (np - m))))) := by
    intro k
    induction k with
    | zero =>
      intro j hj
      rw [eM_isHeapedBy_11, mA_s, outF_fr (by omega) j (by omega), h1, dle (by omega) (by omega), bif_t (by omega), show j = np - m by omega, show m + (np - m) = np by omega]
    | succ k ih =>
      intro j hj
      rw [eM_isHeapedBy_11, mA_s, outF_fr (by omega) j (by omega), h1, dle (by omega) (by omega), bif_f (by omega)]
      have e : (99 : Int32) + 4 * nI (m + j) + 1 = nI (99 + 4 * (m + j) + 1) := by
        simp (disch := omega) only [l0, l1, l2, l3, l4, l5, l6, l7, l8, l9, l10, l11, l12, l13, l14, l15, l16, l17, l18, l19, l20, l21, l22, l23, l24, l25, l26, l27, l28, l29, l30, l31, l40, l48, l52, l57, l60, l65, l97, l99, l100, l102, l119, l122, l179, l197, l200, l201, l237, l436, l437, pk_mul, nI_add, inb_nI, nclamp, dlt, dle, deq, bif_t, bif_f, bif_nt, bif_nf, aft0, aft1, decide_true, decide_false, Bool.not_true, Bool.not_false, cond_true, cond_false, Nat.add_sub_cancel, Nat.add_one_sub_one, ou9, mo1, nI_MO, OU_lt, OU_ge, Nat.not_lt_zero, Bool.or_false, Bool.or_true, Bool.true_or, Bool.false_or, Bool.and_true, Bool.and_false, Bool.true_and, Bool.false_and, bI_0n, bI_1n, Bool.not_not]
      rw [e, inb_nI (by omega), nclamp (by omega), bif_t (by omega), mA_mA, eM_isHeapedBy_36, nI_1]
      exact ih (j + 1) (by omega)
  have lpB : ∀ (M0 : MS) (s : Nat → Int32) (i3 : Int32), M0.1 0 = s → s 1 = nI np → ∀ k j, j + k = np → sem PGM (d + 9) yM_isHeapedBy (54, [some (.ref 91), some (.int (nI m)), some (.int (nI t)), some (.int i3), some (.int (bI (anyH s j))), some (.int (nI j))], [], hM Z M0) = some (some (.int (bI (anyH s np))), hM Z (mA M0 0 (cpy 437 (M0.1 2) (M0.1 0)))) := by
    intro M0 s i3 es hs1 k
    induction k with
    | zero =>
      intro j hj
      have ej : j = np := by omega
      subst ej
      rw [eM_isHeapedBy_54, es, hs1, dle (by omega) (by omega), bif_t (by omega), cM_putsBack (d + 8), aft0, eM_isHeapedBy_107, bI_B, es]
      rfl
    | succ k ih =>
      intro j hj
      have ih' := ih (j + 1) (by omega)
      rw [anyH, es] at ih'
      rw [eM_isHeapedBy_54, es, hs1, dle (by omega) (by omega), bif_f (by omega), cM_whereIs (d + 8) Z _ j (by omega), aft1, eM_isHeapedBy_76, cM_kindOf (d + 8) Z _ j (by omega), aft1, eM_isHeapedBy_85, es]
      simp (disch := omega) only [l0, l1, l2, l3, l4, l5, l6, l7, l8, l9, l10, l11, l12, l13, l14, l15, l16, l17, l18, l19, l20, l21, l22, l23, l24, l25, l26, l27, l28, l29, l30, l31, l40, l48, l52, l57, l60, l65, l97, l99, l100, l102, l119, l122, l179, l197, l200, l201, l237, l436, l437, pk_mul, nI_add, inb_nI, nclamp, dlt, dle, deq, bif_t, bif_f, bif_nt, bif_nf, aft0, aft1, decide_true, decide_false, Bool.not_true, Bool.not_false, cond_true, cond_false, Nat.add_sub_cancel, Nat.add_one_sub_one, ou9, mo1, nI_MO, OU_lt, OU_ge, Nat.not_lt_zero, Bool.or_false, Bool.or_true, Bool.true_or, Bool.false_or, Bool.and_true, Bool.and_false, Bool.true_and, Bool.false_and, bI_0n, bI_1n, Bool.not_not]
      cases h6 : decide (s (99 + 4 * j + 1) < nI 0) <;> cases h7 : decide (s (99 + 4 * j) = nI 6) <;> cases h8 : anyH s j <;> simp only [h6, h7, h8] at ih' ⊢ <;> exact ih'
  rw [kM_isHeapedBy, eM_isHeapedBy_0, cM_puts (d + 8), aft0, eM_isHeapedBy_4, eM_isHeapedBy_9]
  have a1 := lpA (np - m) 0 (by omega)
  have z1 : (mA (mV (mA M 2 (cpy 437 (M.1 0) (M.1 2))) 9 0) 0 (outF (M.1 0) m 0)) = mV (mA M 2 (cpy 437 (M.1 0) (M.1 2))) 9 0 := mA_id (mV (mA M 2 (cpy 437 (M.1 0) (M.1 2))) 9 0) 0
  rw [z1, hq, aft1, eM_isHeapedBy_47] at a1
  have a2 := lpB _ _ (nI (trV nc np nb n C (M.2 8) (outF (M.1 0) m (np - m)) t)) (mQ_0 (trM nc np nb n C (M.2 8) (outF (M.1 0) m (np - m)) (mA (mV (mA M 2 (cpy 437 (M.1 0) (M.1 2))) 9 0) 0 (outF (M.1 0) m (np - m))) t) q (trS nc np nb n C (M.2 8) (outF (M.1 0) m (np - m)) t)) (by rw [trS_fr hnp hnb (by omega) t, outF_fr (by omega) _ (by omega), h1]) np 0 (by omega)
  refine ⟨_, a1.trans a2, fun k h2 h6 h7 => ?_, fun k h9 h10 h11 h13 => ?_, Or.inr ⟨_, trN_b hnp ht, by rw [mA_2, mQ_2, trM_10]⟩⟩
  · by_cases hk : k = 0
    · subst hk
      rw [mA_s, mQ_0, mQ_n (by omega) (by omega), trM_1 (by omega), mA_n (by omega), mV_1, mA_s]
      exact back_eq (fun k hk => by rw [trS_fr hnp hnb (by omega) t, outF_fr (by omega) _ (by omega)])
    · rw [mA_n hk, mQ_n hk h6, trM_1 h7, mA_n hk, mV_1, mA_n h2]
  · rw [mA_2, mQ_2, trM_2 h10 h11 h13, mA_2, mV_n h9, mA_2]
