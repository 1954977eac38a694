/-! The law's loop to its end. -/
theorem sl_gv (g : GT) : sl (gv g) ≤ g.1 + 1000 := by
  unfold gv
  simp only [sl, slc, refs, ints, List.length_cons, List.length_nil]
  omega
theorem sl_X (X : XS) : sl (blkX X) ≤ 4000 := by
  unfold blkX
  simp only [sl, slc, refs, ints, List.length_cons, List.length_nil]
  omega
theorem sl_S (o : Nat) (S : SS) : sl (blkS o S) ≤ 4000 := by
  unfold blkS
  simp only [sl, slc, refs, ints, List.length_cons, List.length_nil]
  omega
theorem sl_M (M : MS) : sl (blkM M) ≤ 40000 := by
  unfold blkM
  simp only [sl, slc, refs, ints, List.length_cons, List.length_nil]
  omega
theorem sl_heap (g : GT) (X : XS) (N T K : SS) (M : MS) (dd : AH) : sl (heapOf g X N T K M dd) ≤ g.1 + 60000 + sl dd := by
  unfold heapOf
  rw [sl_app, sl_app, sl_app, sl_app, sl_app, sl_app]
  have := sl_gv g
  have := sl_X X
  have := sl_S 43 N
  have := sl_S 59 T
  have := sl_S 75 K
  have := sl_M M
  omega
theorem lw_loop (d : Nat) (g : GT) (hg : g.1 ≤ 2048) : ∀ (q i : Nat) (X : XS) (N T K : SS) (M : MS) (dd : AH), i + q = 513 → INV i X N K M dd → ∃ hF, sem PGM (d + 40) yA_law (18, [some (.ref 0), some (.ref 12), some (.ref 91), some (.int (nI (4 * i)))], [], heapOf g X N T K M dd) = some (some (.int 1), hF) ∧ hF.length ≤ 600000 ∧ sl hF ≤ 7302250 := by
  have fin : ∀ (i : Nat) (X : XS) (N T K : SS) (M : MS) (dd : AH), i ≤ 513 → INV i X N K M dd → ¬ 4 * i + 3 < g.1 → ∃ hF, sem PGM (d + 40) yA_law (18, [some (.ref 0), some (.ref 12), some (.ref 91), some (.int (nI (4 * i)))], [], heapOf g X N T K M dd) = some (some (.int 1), hF) ∧ hF.length ≤ 600000 ∧ sl hF ≤ 7302250 := by
    intro i X N T K M dd hi h hL
    have hD := h.2.2.2.2.2.2.2.2
    refine ⟨heapOf g X N T K M dd, ?_, ?_, ?_⟩
    · have lt : decide (nI g.1 - 4 < nI (4 * i)) = true := by
        rw [decide_eq_true_eq, Int32.lt_iff_toInt_lt]
        have e4 : (4 : Int32).toInt = 4 := rfl
        rw [Int32.toInt_sub, nI_toInt (by omega), nI_toInt (by omega), e4, Int.bmod_eq_of_le (by omega) (by omega)]
        omega
      rw [eA_law_18, lw_okL, lw_len, lt]
      rfl
    · rw [heapOf_len]
      have := hD.1
      omega
    · have h1 := sl_heap g X N T K M dd
      have h2 := hD.2
      omega
  intro q
  induction q with
  | zero =>
    intro i X N T K M dd hi h
    exact fin i X N T K M dd (by omega) h (by omega)
  | succ q ih =>
    intro i X N T K M dd hi h
    by_cases hL : 4 * i + 3 < g.1
    · obtain ⟨X', N', T', K', M', dd', c1, c2⟩ := lw_step d i g X N T K M dd h (by omega) hg hL
      rw [c1]
      exact ih (i + 1) X' N' T' K' M' dd' (by omega) c2
    · exact fin i X N T K M dd (by omega) h hL
