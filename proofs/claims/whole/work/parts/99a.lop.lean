/-! The law: one call of both after another. -/
section
variable (d i : Nat) (g : GT) (X : XS) (N T K : SS) (M : MS) (dd : AH)
set_option maxRecDepth 100000 in
theorem lw_hat (g : GT) (X : XS) (N T K : SS) (M : MS) (dd : AH) : hat (heapOf g X N T K M dd) 0 = some (.inl (.int, g.1, .inl g.2)) := id rfl
theorem lw_okL (g : GT) (X : XS) (N T K : SS) (M : MS) (dd : AH) : okL (heapOf g X N T K M dd) 0 = true := by unfold okL; rw [lw_hat]
theorem lw_len (g : GT) (X : XS) (N T K : SS) (M : MS) (dd : AH) : lenA (heapOf g X N T K M dd) 0 = g.1 := by unfold lenA; rw [lw_hat]
theorem lw_in {g : GT} {j : Nat} (h : j < g.1) (hg : g.1 ≤ 2048) (X : XS) (N T K : SS) (M : MS) (dd : AH) : inA (heapOf g X N T K M dd) 0 0 (nI j) = true := by
  unfold inA
  rw [lw_hat]
  show (true && inb (nI j) g.1) = true
  rw [inb_nI (by omega)]
  simp [h]
theorem lw_r {g : GT} {j : Nat} (h : j < g.1) (hg : g.1 ≤ 2048) (X : XS) (N T K : SS) (M : MS) (dd : AH) : rA (heapOf g X N T K M dd) 0 (nI j) = g.2 j := by
  unfold rA
  rw [lw_hat]
  show g.2 (nI j).toNatClampNeg = _
  rw [nclamp (by omega)]
set_option maxRecDepth 100000 in
theorem lw_c1 (g : GT) (X : XS) (N T K : SS) (M : MS) (dd : AH) : okC (heapOf g X N T K M dd) 12 6 = true := id rfl
set_option maxRecDepth 100000 in
theorem lw_c2 (g : GT) (X : XS) (N T K : SS) (M : MS) (dd : AH) : okC (heapOf g X N T K M dd) 91 7 = true := id rfl
theorem lw_1 (j : Nat) : nI j + 1 = nI (j + 1) := nI_1 j
theorem lw_2 (j : Nat) : nI j + 2 = nI (j + 2) := by rw [show (2 : Int32) = nI 2 from rfl, nI_add]
theorem lw_3 (j : Nat) : nI j + 3 = nI (j + 3) := by rw [show (3 : Int32) = nI 3 from rfl, nI_add]
theorem lw_4 (j : Nat) : nI j + 4 = nI (j + 4) := by rw [show (4 : Int32) = nI 4 from rfl, nI_add]
theorem lw_d (r : Int32) : decide (r = r) = true := by simp
theorem lw_street (h : INV i X N K M dd) (hi : i ≤ 512) (hg : g.1 ≤ 2048) (hL : 4 * i + 3 < g.1) : ∃ X' N' T' K' M' dd', aftK (sem PGM (d + 40) yA_law) 1 (209, [some (.ref 0), some (.ref 12), some (.ref 91), some (.int (nI (4 * i)))], [], heapOf g X N T K M dd) (call PGM (d + 40) yB_street [.ref 12, .int (g.2 (4 * i + 1))] (heapOf g X N T K M dd)) = sem PGM (d + 40) yA_law (18, [some (.ref 0), some (.ref 12), some (.ref 91), some (.int (nI (4 * i + 4)))], [], heapOf g X' N' T' K' M' dd') ∧ INV (i + 1) X' N' K' M' dd' := by
  have o : OPR d i g X N T K M dd yB_street yM_street [.int (g.2 (4 * i + 1))] := by first | exact op_street d i g X N T K M dd h (g.2 (4 * i + 1)) | exact op_street d i g X N T K M dd h hi (g.2 (4 * i + 1))
  obtain ⟨r, X', N', T', K', M', dd', c1, c2, c3⟩ := o
  refine ⟨X', N', T', K', M', dd', ?_, c3⟩
  rw [c1, aft1, eA_law_209, lw_1, lw_in (show 4 * i + 1 < g.1 by omega) hg, lw_r (show 4 * i + 1 < g.1 by omega) hg, lw_c2, c2]
  simp only [cond_true, Bool.and_self]
  rw [aft1, eA_law_218, lw_d, cond_true, lw_4]
theorem lw_cell (h : INV i X N K M dd) (hi : i ≤ 512) (hg : g.1 ≤ 2048) (hL : 4 * i + 3 < g.1) : ∃ X' N' T' K' M' dd', aftK (sem PGM (d + 40) yA_law) 1 (242, [some (.ref 0), some (.ref 12), some (.ref 91), some (.int (nI (4 * i)))], [], heapOf g X N T K M dd) (call PGM (d + 40) yB_cell [.ref 12, .int (g.2 (4 * i + 1)), .int (g.2 (4 * i + 2)), .int (g.2 (4 * i + 3))] (heapOf g X N T K M dd)) = sem PGM (d + 40) yA_law (18, [some (.ref 0), some (.ref 12), some (.ref 91), some (.int (nI (4 * i + 4)))], [], heapOf g X' N' T' K' M' dd') ∧ INV (i + 1) X' N' K' M' dd' := by
  have o : OPR d i g X N T K M dd yB_cell yM_cell [.int (g.2 (4 * i + 1)), .int (g.2 (4 * i + 2)), .int (g.2 (4 * i + 3))] := by first | exact op_cell d i g X N T K M dd h (g.2 (4 * i + 1)) (g.2 (4 * i + 2)) (g.2 (4 * i + 3)) | exact op_cell d i g X N T K M dd h hi (g.2 (4 * i + 1)) (g.2 (4 * i + 2)) (g.2 (4 * i + 3))
  obtain ⟨r, X', N', T', K', M', dd', c1, c2, c3⟩ := o
  refine ⟨X', N', T', K', M', dd', ?_, c3⟩
  rw [c1, aft1, eA_law_242, lw_1, lw_in (show 4 * i + 1 < g.1 by omega) hg, lw_r (show 4 * i + 1 < g.1 by omega) hg, lw_2, lw_in (show 4 * i + 2 < g.1 by omega) hg, lw_r (show 4 * i + 2 < g.1 by omega) hg, lw_3, lw_in (show 4 * i + 3 < g.1 by omega) hg, lw_r (show 4 * i + 3 < g.1 by omega) hg, lw_c2, c2]
  simp only [cond_true, Bool.and_self]
  rw [aft1, eA_law_261, lw_d, cond_true, lw_4]
theorem lw_cellOf (h : INV i X N K M dd) (hi : i ≤ 512) (hg : g.1 ≤ 2048) (hL : 4 * i + 3 < g.1) : ∃ X' N' T' K' M' dd', aftK (sem PGM (d + 40) yA_law) 1 (280, [some (.ref 0), some (.ref 12), some (.ref 91), some (.int (nI (4 * i)))], [], heapOf g X N T K M dd) (call PGM (d + 40) yB_cellOf [.ref 12, .int (g.2 (4 * i + 1)), .int (g.2 (4 * i + 2))] (heapOf g X N T K M dd)) = sem PGM (d + 40) yA_law (18, [some (.ref 0), some (.ref 12), some (.ref 91), some (.int (nI (4 * i + 4)))], [], heapOf g X' N' T' K' M' dd') ∧ INV (i + 1) X' N' K' M' dd' := by
  have o : OPR d i g X N T K M dd yB_cellOf yM_cellOf [.int (g.2 (4 * i + 1)), .int (g.2 (4 * i + 2))] := by first | exact op_cellOf d i g X N T K M dd h (g.2 (4 * i + 1)) (g.2 (4 * i + 2)) | exact op_cellOf d i g X N T K M dd h hi (g.2 (4 * i + 1)) (g.2 (4 * i + 2))
  obtain ⟨r, X', N', T', K', M', dd', c1, c2, c3⟩ := o
  refine ⟨X', N', T', K', M', dd', ?_, c3⟩
  rw [c1, aft1, eA_law_280, lw_1, lw_in (show 4 * i + 1 < g.1 by omega) hg, lw_r (show 4 * i + 1 < g.1 by omega) hg, lw_2, lw_in (show 4 * i + 2 < g.1 by omega) hg, lw_r (show 4 * i + 2 < g.1 by omega) hg, lw_c2, c2]
  simp only [cond_true, Bool.and_self]
  rw [aft1, eA_law_294, lw_d, cond_true, lw_4]
theorem lw_rule (h : INV i X N K M dd) (hi : i ≤ 512) (hg : g.1 ≤ 2048) (hL : 4 * i + 3 < g.1) : ∃ X' N' T' K' M' dd', aftK (sem PGM (d + 40) yA_law) 1 (313, [some (.ref 0), some (.ref 12), some (.ref 91), some (.int (nI (4 * i)))], [], heapOf g X N T K M dd) (call PGM (d + 40) yB_rule [.ref 12, .int (g.2 (4 * i + 1)), .int (g.2 (4 * i + 2))] (heapOf g X N T K M dd)) = sem PGM (d + 40) yA_law (18, [some (.ref 0), some (.ref 12), some (.ref 91), some (.int (nI (4 * i + 4)))], [], heapOf g X' N' T' K' M' dd') ∧ INV (i + 1) X' N' K' M' dd' := by
  have o : OPR d i g X N T K M dd yB_rule yM_rule [.int (g.2 (4 * i + 1)), .int (g.2 (4 * i + 2))] := by first | exact op_rule d i g X N T K M dd h (g.2 (4 * i + 1)) (g.2 (4 * i + 2)) | exact op_rule d i g X N T K M dd h hi (g.2 (4 * i + 1)) (g.2 (4 * i + 2))
  obtain ⟨r, X', N', T', K', M', dd', c1, c2, c3⟩ := o
  refine ⟨X', N', T', K', M', dd', ?_, c3⟩
  rw [c1, aft1, eA_law_313, lw_1, lw_in (show 4 * i + 1 < g.1 by omega) hg, lw_r (show 4 * i + 1 < g.1 by omega) hg, lw_2, lw_in (show 4 * i + 2 < g.1 by omega) hg, lw_r (show 4 * i + 2 < g.1 by omega) hg, lw_c2, c2]
  simp only [cond_true, Bool.and_self]
  rw [aft1, eA_law_327, lw_d, cond_true, lw_4]
theorem lw_seed (h : INV i X N K M dd) (hi : i ≤ 512) (hg : g.1 ≤ 2048) (hL : 4 * i + 3 < g.1) : ∃ X' N' T' K' M' dd', aftK (sem PGM (d + 40) yA_law) 1 (341, [some (.ref 0), some (.ref 12), some (.ref 91), some (.int (nI (4 * i)))], [], heapOf g X N T K M dd) (call PGM (d + 40) yB_seed [.ref 12, .int (g.2 (4 * i + 1))] (heapOf g X N T K M dd)) = sem PGM (d + 40) yA_law (18, [some (.ref 0), some (.ref 12), some (.ref 91), some (.int (nI (4 * i + 4)))], [], heapOf g X' N' T' K' M' dd') ∧ INV (i + 1) X' N' K' M' dd' := by
  have o : OPR d i g X N T K M dd yB_seed yM_seed [.int (g.2 (4 * i + 1))] := by first | exact op_seed d i g X N T K M dd h (g.2 (4 * i + 1)) | exact op_seed d i g X N T K M dd h hi (g.2 (4 * i + 1))
  obtain ⟨r, X', N', T', K', M', dd', c1, c2, c3⟩ := o
  refine ⟨X', N', T', K', M', dd', ?_, c3⟩
  rw [c1, aft1, eA_law_341, lw_1, lw_in (show 4 * i + 1 < g.1 by omega) hg, lw_r (show 4 * i + 1 < g.1 by omega) hg, lw_c2, c2]
  simp only [cond_true, Bool.and_self]
  rw [aft1, eA_law_350, lw_d, cond_true, lw_4]
theorem lw_person (h : INV i X N K M dd) (hi : i ≤ 512) (hg : g.1 ≤ 2048) (hL : 4 * i + 3 < g.1) : ∃ X' N' T' K' M' dd', aftK (sem PGM (d + 40) yA_law) 1 (374, [some (.ref 0), some (.ref 12), some (.ref 91), some (.int (nI (4 * i)))], [], heapOf g X N T K M dd) (call PGM (d + 40) yB_person [.ref 12, .int (g.2 (4 * i + 1)), .int (g.2 (4 * i + 2)), .int (g.2 (4 * i + 3))] (heapOf g X N T K M dd)) = sem PGM (d + 40) yA_law (18, [some (.ref 0), some (.ref 12), some (.ref 91), some (.int (nI (4 * i + 4)))], [], heapOf g X' N' T' K' M' dd') ∧ INV (i + 1) X' N' K' M' dd' := by
  have o : OPR d i g X N T K M dd yB_person yM_person [.int (g.2 (4 * i + 1)), .int (g.2 (4 * i + 2)), .int (g.2 (4 * i + 3))] := by first | exact op_person d i g X N T K M dd h (g.2 (4 * i + 1)) (g.2 (4 * i + 2)) (g.2 (4 * i + 3)) | exact op_person d i g X N T K M dd h hi (g.2 (4 * i + 1)) (g.2 (4 * i + 2)) (g.2 (4 * i + 3))
  obtain ⟨r, X', N', T', K', M', dd', c1, c2, c3⟩ := o
  refine ⟨X', N', T', K', M', dd', ?_, c3⟩
  rw [c1, aft1, eA_law_374, lw_1, lw_in (show 4 * i + 1 < g.1 by omega) hg, lw_r (show 4 * i + 1 < g.1 by omega) hg, lw_2, lw_in (show 4 * i + 2 < g.1 by omega) hg, lw_r (show 4 * i + 2 < g.1 by omega) hg, lw_3, lw_in (show 4 * i + 3 < g.1 by omega) hg, lw_r (show 4 * i + 3 < g.1 by omega) hg, lw_c2, c2]
  simp only [cond_true, Bool.and_self]
  rw [aft1, eA_law_393, lw_d, cond_true, lw_4]
theorem lw_personOf (h : INV i X N K M dd) (hi : i ≤ 512) (hg : g.1 ≤ 2048) (hL : 4 * i + 3 < g.1) : ∃ X' N' T' K' M' dd', aftK (sem PGM (d + 40) yA_law) 1 (412, [some (.ref 0), some (.ref 12), some (.ref 91), some (.int (nI (4 * i)))], [], heapOf g X N T K M dd) (call PGM (d + 40) yB_personOf [.ref 12, .int (g.2 (4 * i + 1)), .int (g.2 (4 * i + 2))] (heapOf g X N T K M dd)) = sem PGM (d + 40) yA_law (18, [some (.ref 0), some (.ref 12), some (.ref 91), some (.int (nI (4 * i + 4)))], [], heapOf g X' N' T' K' M' dd') ∧ INV (i + 1) X' N' K' M' dd' := by
  have o : OPR d i g X N T K M dd yB_personOf yM_personOf [.int (g.2 (4 * i + 1)), .int (g.2 (4 * i + 2))] := by first | exact op_personOf d i g X N T K M dd h (g.2 (4 * i + 1)) (g.2 (4 * i + 2)) | exact op_personOf d i g X N T K M dd h hi (g.2 (4 * i + 1)) (g.2 (4 * i + 2))
  obtain ⟨r, X', N', T', K', M', dd', c1, c2, c3⟩ := o
  refine ⟨X', N', T', K', M', dd', ?_, c3⟩
  rw [c1, aft1, eA_law_412, lw_1, lw_in (show 4 * i + 1 < g.1 by omega) hg, lw_r (show 4 * i + 1 < g.1 by omega) hg, lw_2, lw_in (show 4 * i + 2 < g.1 by omega) hg, lw_r (show 4 * i + 2 < g.1 by omega) hg, lw_c2, c2]
  simp only [cond_true, Bool.and_self]
  rw [aft1, eA_law_426, lw_d, cond_true, lw_4]
theorem lw_beast (h : INV i X N K M dd) (hi : i ≤ 512) (hg : g.1 ≤ 2048) (hL : 4 * i + 3 < g.1) : ∃ X' N' T' K' M' dd', aftK (sem PGM (d + 40) yA_law) 1 (445, [some (.ref 0), some (.ref 12), some (.ref 91), some (.int (nI (4 * i)))], [], heapOf g X N T K M dd) (call PGM (d + 40) yB_beast [.ref 12, .int (g.2 (4 * i + 1)), .int (g.2 (4 * i + 2))] (heapOf g X N T K M dd)) = sem PGM (d + 40) yA_law (18, [some (.ref 0), some (.ref 12), some (.ref 91), some (.int (nI (4 * i + 4)))], [], heapOf g X' N' T' K' M' dd') ∧ INV (i + 1) X' N' K' M' dd' := by
  have o : OPR d i g X N T K M dd yB_beast yM_beast [.int (g.2 (4 * i + 1)), .int (g.2 (4 * i + 2))] := by first | exact op_beast d i g X N T K M dd h (g.2 (4 * i + 1)) (g.2 (4 * i + 2)) | exact op_beast d i g X N T K M dd h hi (g.2 (4 * i + 1)) (g.2 (4 * i + 2))
  obtain ⟨r, X', N', T', K', M', dd', c1, c2, c3⟩ := o
  refine ⟨X', N', T', K', M', dd', ?_, c3⟩
  rw [c1, aft1, eA_law_445, lw_1, lw_in (show 4 * i + 1 < g.1 by omega) hg, lw_r (show 4 * i + 1 < g.1 by omega) hg, lw_2, lw_in (show 4 * i + 2 < g.1 by omega) hg, lw_r (show 4 * i + 2 < g.1 by omega) hg, lw_c2, c2]
  simp only [cond_true, Bool.and_self]
  rw [aft1, eA_law_459, lw_d, cond_true, lw_4]
theorem lw_beastOf (h : INV i X N K M dd) (hi : i ≤ 512) (hg : g.1 ≤ 2048) (hL : 4 * i + 3 < g.1) : ∃ X' N' T' K' M' dd', aftK (sem PGM (d + 40) yA_law) 1 (478, [some (.ref 0), some (.ref 12), some (.ref 91), some (.int (nI (4 * i)))], [], heapOf g X N T K M dd) (call PGM (d + 40) yB_beastOf [.ref 12, .int (g.2 (4 * i + 1)), .int (g.2 (4 * i + 2))] (heapOf g X N T K M dd)) = sem PGM (d + 40) yA_law (18, [some (.ref 0), some (.ref 12), some (.ref 91), some (.int (nI (4 * i + 4)))], [], heapOf g X' N' T' K' M' dd') ∧ INV (i + 1) X' N' K' M' dd' := by
  have o : OPR d i g X N T K M dd yB_beastOf yM_beastOf [.int (g.2 (4 * i + 1)), .int (g.2 (4 * i + 2))] := by first | exact op_beastOf d i g X N T K M dd h (g.2 (4 * i + 1)) (g.2 (4 * i + 2)) | exact op_beastOf d i g X N T K M dd h hi (g.2 (4 * i + 1)) (g.2 (4 * i + 2))
  obtain ⟨r, X', N', T', K', M', dd', c1, c2, c3⟩ := o
  refine ⟨X', N', T', K', M', dd', ?_, c3⟩
  rw [c1, aft1, eA_law_478, lw_1, lw_in (show 4 * i + 1 < g.1 by omega) hg, lw_r (show 4 * i + 1 < g.1 by omega) hg, lw_2, lw_in (show 4 * i + 2 < g.1 by omega) hg, lw_r (show 4 * i + 2 < g.1 by omega) hg, lw_c2, c2]
  simp only [cond_true, Bool.and_self]
  rw [aft1, eA_law_492, lw_d, cond_true, lw_4]
theorem lw_moves (h : INV i X N K M dd) (hi : i ≤ 512) (hg : g.1 ≤ 2048) (hL : 4 * i + 3 < g.1) : ∃ X' N' T' K' M' dd', aftK (sem PGM (d + 40) yA_law) 1 (516, [some (.ref 0), some (.ref 12), some (.ref 91), some (.int (nI (4 * i)))], [], heapOf g X N T K M dd) (call PGM (d + 40) yB_moves [.ref 12, .int (g.2 (4 * i + 1)), .int (g.2 (4 * i + 2)), .int (g.2 (4 * i + 3))] (heapOf g X N T K M dd)) = sem PGM (d + 40) yA_law (18, [some (.ref 0), some (.ref 12), some (.ref 91), some (.int (nI (4 * i + 4)))], [], heapOf g X' N' T' K' M' dd') ∧ INV (i + 1) X' N' K' M' dd' := by
  have o : OPR d i g X N T K M dd yB_moves yM_moves [.int (g.2 (4 * i + 1)), .int (g.2 (4 * i + 2)), .int (g.2 (4 * i + 3))] := by first | exact op_moves d i g X N T K M dd h (g.2 (4 * i + 1)) (g.2 (4 * i + 2)) (g.2 (4 * i + 3)) | exact op_moves d i g X N T K M dd h hi (g.2 (4 * i + 1)) (g.2 (4 * i + 2)) (g.2 (4 * i + 3))
  obtain ⟨r, X', N', T', K', M', dd', c1, c2, c3⟩ := o
  refine ⟨X', N', T', K', M', dd', ?_, c3⟩
  rw [c1, aft1, eA_law_516, lw_1, lw_in (show 4 * i + 1 < g.1 by omega) hg, lw_r (show 4 * i + 1 < g.1 by omega) hg, lw_2, lw_in (show 4 * i + 2 < g.1 by omega) hg, lw_r (show 4 * i + 2 < g.1 by omega) hg, lw_3, lw_in (show 4 * i + 3 < g.1 by omega) hg, lw_r (show 4 * i + 3 < g.1 by omega) hg, lw_c2, c2]
  simp only [cond_true, Bool.and_self]
  rw [aft1, eA_law_535, lw_d, cond_true, lw_4]
theorem lw_feed (h : INV i X N K M dd) (hi : i ≤ 512) (hg : g.1 ≤ 2048) (hL : 4 * i + 3 < g.1) : ∃ X' N' T' K' M' dd', aftK (sem PGM (d + 40) yA_law) 1 (569, [some (.ref 0), some (.ref 12), some (.ref 91), some (.int (nI (4 * i)))], [], heapOf g X N T K M dd) (call PGM (d + 40) yB_feed [.ref 12, .long (((g.2 (4 * i + 1)).toInt64 <<< (((32 : Int32)).toInt64 &&& 63)) ||| ((g.2 (4 * i + 2)).toInt64 &&& 4294967295)), .int (g.2 (4 * i + 3))] (heapOf g X N T K M dd)) = sem PGM (d + 40) yA_law (18, [some (.ref 0), some (.ref 12), some (.ref 91), some (.int (nI (4 * i + 4)))], [], heapOf g X' N' T' K' M' dd') ∧ INV (i + 1) X' N' K' M' dd' := by
  have o : OPR d i g X N T K M dd yB_feed yM_feed [.long (((g.2 (4 * i + 1)).toInt64 <<< (((32 : Int32)).toInt64 &&& 63)) ||| ((g.2 (4 * i + 2)).toInt64 &&& 4294967295)), .int (g.2 (4 * i + 3))] := by first | exact op_feed d i g X N T K M dd h (((g.2 (4 * i + 1)).toInt64 <<< (((32 : Int32)).toInt64 &&& 63)) ||| ((g.2 (4 * i + 2)).toInt64 &&& 4294967295)) (g.2 (4 * i + 3)) | exact op_feed d i g X N T K M dd h hi (((g.2 (4 * i + 1)).toInt64 <<< (((32 : Int32)).toInt64 &&& 63)) ||| ((g.2 (4 * i + 2)).toInt64 &&& 4294967295)) (g.2 (4 * i + 3))
  obtain ⟨r, X', N', T', K', M', dd', c1, c2, c3⟩ := o
  refine ⟨X', N', T', K', M', dd', ?_, c3⟩
  rw [c1, aft1, eA_law_569, lw_1, lw_in (show 4 * i + 1 < g.1 by omega) hg, lw_r (show 4 * i + 1 < g.1 by omega) hg, lw_2, lw_in (show 4 * i + 2 < g.1 by omega) hg, lw_r (show 4 * i + 2 < g.1 by omega) hg, lw_3, lw_in (show 4 * i + 3 < g.1 by omega) hg, lw_r (show 4 * i + 3 < g.1 by omega) hg, lw_c2, c2]
  simp only [cond_true, Bool.and_self]
  rw [aft1, eA_law_598, lw_d, cond_true, lw_4]
theorem lw_read (h : INV i X N K M dd) (hi : i ≤ 512) (hg : g.1 ≤ 2048) (hL : 4 * i + 3 < g.1) : ∃ X' N' T' K' M' dd', aftK (sem PGM (d + 40) yA_law) 1 (607, [some (.ref 0), some (.ref 12), some (.ref 91), some (.int (nI (4 * i)))], [], heapOf g X N T K M dd) (call PGM (d + 40) yB_read [.ref 12] (heapOf g X N T K M dd)) = sem PGM (d + 40) yA_law (18, [some (.ref 0), some (.ref 12), some (.ref 91), some (.int (nI (4 * i + 4)))], [], heapOf g X' N' T' K' M' dd') ∧ INV (i + 1) X' N' K' M' dd' := by
  have o : OPR d i g X N T K M dd yB_read yM_read [] := by first | exact op_read d i g X N T K M dd h  | exact op_read d i g X N T K M dd h hi 
  obtain ⟨r, X', N', T', K', M', dd', c1, c2, c3⟩ := o
  refine ⟨X', N', T', K', M', dd', ?_, c3⟩
  rw [c1, aft1, eA_law_607, lw_c2, c2]
  simp only [cond_true, Bool.and_self]
  rw [aft1, eA_law_611, lw_d, cond_true, lw_4]
theorem lw_says (h : INV i X N K M dd) (hi : i ≤ 512) (hg : g.1 ≤ 2048) (hL : 4 * i + 3 < g.1) : ∃ X' N' T' K' M' dd', aftK (sem PGM (d + 40) yA_law) 1 (625, [some (.ref 0), some (.ref 12), some (.ref 91), some (.int (nI (4 * i)))], [], heapOf g X N T K M dd) (call PGM (d + 40) yB_says [.ref 12, .int (g.2 (4 * i + 1))] (heapOf g X N T K M dd)) = sem PGM (d + 40) yA_law (18, [some (.ref 0), some (.ref 12), some (.ref 91), some (.int (nI (4 * i + 4)))], [], heapOf g X' N' T' K' M' dd') ∧ INV (i + 1) X' N' K' M' dd' := by
  have o : OPR d i g X N T K M dd yB_says yM_says [.int (g.2 (4 * i + 1))] := by first | exact op_says d i g X N T K M dd h (g.2 (4 * i + 1)) | exact op_says d i g X N T K M dd h hi (g.2 (4 * i + 1))
  obtain ⟨r, X', N', T', K', M', dd', c1, c2, c3⟩ := o
  refine ⟨X', N', T', K', M', dd', ?_, c3⟩
  rw [c1, aft1, eA_law_625, lw_1, lw_in (show 4 * i + 1 < g.1 by omega) hg, lw_r (show 4 * i + 1 < g.1 by omega) hg, lw_c2, c2]
  simp only [cond_true, Bool.and_self]
  rw [aft1, eA_law_634, lw_d, cond_true, lw_4]
theorem lw_fact (h : INV i X N K M dd) (hi : i ≤ 512) (hg : g.1 ≤ 2048) (hL : 4 * i + 3 < g.1) : ∃ X' N' T' K' M' dd', aftK (sem PGM (d + 40) yA_law) 1 (653, [some (.ref 0), some (.ref 12), some (.ref 91), some (.int (nI (4 * i)))], [], heapOf g X N T K M dd) (call PGM (d + 40) yB_fact [.ref 12, .int (g.2 (4 * i + 1)), .int (g.2 (4 * i + 2))] (heapOf g X N T K M dd)) = sem PGM (d + 40) yA_law (18, [some (.ref 0), some (.ref 12), some (.ref 91), some (.int (nI (4 * i + 4)))], [], heapOf g X' N' T' K' M' dd') ∧ INV (i + 1) X' N' K' M' dd' := by
  have o : OPR d i g X N T K M dd yB_fact yM_fact [.int (g.2 (4 * i + 1)), .int (g.2 (4 * i + 2))] := by first | exact op_fact d i g X N T K M dd h (g.2 (4 * i + 1)) (g.2 (4 * i + 2)) | exact op_fact d i g X N T K M dd h hi (g.2 (4 * i + 1)) (g.2 (4 * i + 2))
  obtain ⟨r, X', N', T', K', M', dd', c1, c2, c3⟩ := o
  refine ⟨X', N', T', K', M', dd', ?_, c3⟩
  rw [c1, aft1, eA_law_653, lw_1, lw_in (show 4 * i + 1 < g.1 by omega) hg, lw_r (show 4 * i + 1 < g.1 by omega) hg, lw_2, lw_in (show 4 * i + 2 < g.1 by omega) hg, lw_r (show 4 * i + 2 < g.1 by omega) hg, lw_c2, c2]
  simp only [cond_true, Bool.and_self]
  rw [aft1, eA_law_667, lw_d, cond_true, lw_4]
theorem lw_run (h : INV i X N K M dd) (hi : i ≤ 512) (hg : g.1 ≤ 2048) (hL : 4 * i + 3 < g.1) : ∃ X' N' T' K' M' dd', aftK (sem PGM (d + 40) yA_law) 1 (681, [some (.ref 0), some (.ref 12), some (.ref 91), some (.int (nI (4 * i)))], [], heapOf g X N T K M dd) (call PGM (d + 40) yB_run [.ref 12, .int (g.2 (4 * i + 1))] (heapOf g X N T K M dd)) = sem PGM (d + 40) yA_law (18, [some (.ref 0), some (.ref 12), some (.ref 91), some (.int (nI (4 * i + 4)))], [], heapOf g X' N' T' K' M' dd') ∧ INV (i + 1) X' N' K' M' dd' := by
  have o : OPR d i g X N T K M dd yB_run yM_run [.int (g.2 (4 * i + 1))] := by first | exact op_run d i g X N T K M dd h (g.2 (4 * i + 1)) | exact op_run d i g X N T K M dd h hi (g.2 (4 * i + 1))
  obtain ⟨r, X', N', T', K', M', dd', c1, c2, c3⟩ := o
  refine ⟨X', N', T', K', M', dd', ?_, c3⟩
  rw [c1, aft1, eA_law_681, lw_1, lw_in (show 4 * i + 1 < g.1 by omega) hg, lw_r (show 4 * i + 1 < g.1 by omega) hg, lw_c2, c2]
  simp only [cond_true, Bool.and_self]
  rw [aft1, eA_law_690, lw_d, cond_true, lw_4]
theorem lw_morning (h : INV i X N K M dd) (hi : i ≤ 512) (hg : g.1 ≤ 2048) (hL : 4 * i + 3 < g.1) : ∃ X' N' T' K' M' dd', aftK (sem PGM (d + 40) yA_law) 1 (704, [some (.ref 0), some (.ref 12), some (.ref 91), some (.int (nI (4 * i)))], [], heapOf g X N T K M dd) (call PGM (d + 40) yB_morning [.ref 12, .int (g.2 (4 * i + 1))] (heapOf g X N T K M dd)) = sem PGM (d + 40) yA_law (18, [some (.ref 0), some (.ref 12), some (.ref 91), some (.int (nI (4 * i + 4)))], [], heapOf g X' N' T' K' M' dd') ∧ INV (i + 1) X' N' K' M' dd' := by
  have o : OPR d i g X N T K M dd yB_morning yM_morning [.int (g.2 (4 * i + 1))] := by first | exact op_morning d i g X N T K M dd h (g.2 (4 * i + 1)) | exact op_morning d i g X N T K M dd h hi (g.2 (4 * i + 1))
  obtain ⟨r, X', N', T', K', M', dd', c1, c2, c3⟩ := o
  refine ⟨X', N', T', K', M', dd', ?_, c3⟩
  rw [c1, aft1, eA_law_704, lw_1, lw_in (show 4 * i + 1 < g.1 by omega) hg, lw_r (show 4 * i + 1 < g.1 by omega) hg, lw_c2, c2]
  simp only [cond_true, Bool.and_self]
  rw [aft1, eA_law_713, lw_d, cond_true, lw_4]
theorem lw_odds (h : INV i X N K M dd) (hi : i ≤ 512) (hg : g.1 ≤ 2048) (hL : 4 * i + 3 < g.1) : ∃ X' N' T' K' M' dd', aftK (sem PGM (d + 40) yA_law) 1 (737, [some (.ref 0), some (.ref 12), some (.ref 91), some (.int (nI (4 * i)))], [], heapOf g X N T K M dd) (call PGM (d + 40) yB_odds [.ref 12, .int (g.2 (4 * i + 1)), .int (g.2 (4 * i + 2)), .int (g.2 (4 * i + 3))] (heapOf g X N T K M dd)) = sem PGM (d + 40) yA_law (18, [some (.ref 0), some (.ref 12), some (.ref 91), some (.int (nI (4 * i + 4)))], [], heapOf g X' N' T' K' M' dd') ∧ INV (i + 1) X' N' K' M' dd' := by
  have o : OPR d i g X N T K M dd yB_odds yM_odds [.int (g.2 (4 * i + 1)), .int (g.2 (4 * i + 2)), .int (g.2 (4 * i + 3))] := by first | exact op_odds d i g X N T K M dd h (g.2 (4 * i + 1)) (g.2 (4 * i + 2)) (g.2 (4 * i + 3)) | exact op_odds d i g X N T K M dd h hi (g.2 (4 * i + 1)) (g.2 (4 * i + 2)) (g.2 (4 * i + 3))
  obtain ⟨r, X', N', T', K', M', dd', c1, c2, c3⟩ := o
  refine ⟨X', N', T', K', M', dd', ?_, c3⟩
  rw [c1, aft1, eA_law_737, lw_1, lw_in (show 4 * i + 1 < g.1 by omega) hg, lw_r (show 4 * i + 1 < g.1 by omega) hg, lw_2, lw_in (show 4 * i + 2 < g.1 by omega) hg, lw_r (show 4 * i + 2 < g.1 by omega) hg, lw_3, lw_in (show 4 * i + 3 < g.1 by omega) hg, lw_r (show 4 * i + 3 < g.1 by omega) hg, lw_c2, c2]
  simp only [cond_true, Bool.and_self]
  rw [aft1, eA_law_756, lw_d, cond_true, lw_4]
theorem lw_begin (h : INV i X N K M dd) (hi : i ≤ 512) (hg : g.1 ≤ 2048) (hL : 4 * i + 3 < g.1) : ∃ X' N' T' K' M' dd', aftK (sem PGM (d + 40) yA_law) 1 (775, [some (.ref 0), some (.ref 12), some (.ref 91), some (.int (nI (4 * i)))], [], heapOf g X N T K M dd) (call PGM (d + 40) yB_begin [.ref 12, .int (g.2 (4 * i + 1)), .int (g.2 (4 * i + 2))] (heapOf g X N T K M dd)) = sem PGM (d + 40) yA_law (18, [some (.ref 0), some (.ref 12), some (.ref 91), some (.int (nI (4 * i + 4)))], [], heapOf g X' N' T' K' M' dd') ∧ INV (i + 1) X' N' K' M' dd' := by
  have o : OPR d i g X N T K M dd yB_begin yM_begin [.int (g.2 (4 * i + 1)), .int (g.2 (4 * i + 2))] := by first | exact op_begin d i g X N T K M dd h (g.2 (4 * i + 1)) (g.2 (4 * i + 2)) | exact op_begin d i g X N T K M dd h hi (g.2 (4 * i + 1)) (g.2 (4 * i + 2))
  obtain ⟨r, X', N', T', K', M', dd', c1, c2, c3⟩ := o
  refine ⟨X', N', T', K', M', dd', ?_, c3⟩
  rw [c1, aft1, eA_law_775, lw_1, lw_in (show 4 * i + 1 < g.1 by omega) hg, lw_r (show 4 * i + 1 < g.1 by omega) hg, lw_2, lw_in (show 4 * i + 2 < g.1 by omega) hg, lw_r (show 4 * i + 2 < g.1 by omega) hg, lw_c2, c2]
  simp only [cond_true, Bool.and_self]
  rw [aft1, eA_law_789, lw_d, cond_true, lw_4]
theorem lw_door (h : INV i X N K M dd) (hi : i ≤ 512) (hg : g.1 ≤ 2048) (hL : 4 * i + 3 < g.1) : ∃ X' N' T' K' M' dd', aftK (sem PGM (d + 40) yA_law) 1 (803, [some (.ref 0), some (.ref 12), some (.ref 91), some (.int (nI (4 * i)))], [], heapOf g X N T K M dd) (call PGM (d + 40) yB_door [.ref 12, .int (g.2 (4 * i + 1))] (heapOf g X N T K M dd)) = sem PGM (d + 40) yA_law (18, [some (.ref 0), some (.ref 12), some (.ref 91), some (.int (nI (4 * i + 4)))], [], heapOf g X' N' T' K' M' dd') ∧ INV (i + 1) X' N' K' M' dd' := by
  have o : OPR d i g X N T K M dd yB_door yM_door [.int (g.2 (4 * i + 1))] := by first | exact op_door d i g X N T K M dd h (g.2 (4 * i + 1)) | exact op_door d i g X N T K M dd h hi (g.2 (4 * i + 1))
  obtain ⟨r, X', N', T', K', M', dd', c1, c2, c3⟩ := o
  refine ⟨X', N', T', K', M', dd', ?_, c3⟩
  rw [c1, aft1, eA_law_803, lw_1, lw_in (show 4 * i + 1 < g.1 by omega) hg, lw_r (show 4 * i + 1 < g.1 by omega) hg, lw_c2, c2]
  simp only [cond_true, Bool.and_self]
  rw [aft1, eA_law_812, lw_d, cond_true, lw_4]
theorem lw_limit (h : INV i X N K M dd) (hi : i ≤ 512) (hg : g.1 ≤ 2048) (hL : 4 * i + 3 < g.1) : ∃ X' N' T' K' M' dd', aftK (sem PGM (d + 40) yA_law) 1 (826, [some (.ref 0), some (.ref 12), some (.ref 91), some (.int (nI (4 * i)))], [], heapOf g X N T K M dd) (call PGM (d + 40) yB_limit [.ref 12, .int (g.2 (4 * i + 1))] (heapOf g X N T K M dd)) = sem PGM (d + 40) yA_law (18, [some (.ref 0), some (.ref 12), some (.ref 91), some (.int (nI (4 * i + 4)))], [], heapOf g X' N' T' K' M' dd') ∧ INV (i + 1) X' N' K' M' dd' := by
  have o : OPR d i g X N T K M dd yB_limit yM_limit [.int (g.2 (4 * i + 1))] := by first | exact op_limit d i g X N T K M dd h (g.2 (4 * i + 1)) | exact op_limit d i g X N T K M dd h hi (g.2 (4 * i + 1))
  obtain ⟨r, X', N', T', K', M', dd', c1, c2, c3⟩ := o
  refine ⟨X', N', T', K', M', dd', ?_, c3⟩
  rw [c1, aft1, eA_law_826, lw_1, lw_in (show 4 * i + 1 < g.1 by omega) hg, lw_r (show 4 * i + 1 < g.1 by omega) hg, lw_c2, c2]
  simp only [cond_true, Bool.and_self]
  rw [aft1, eA_law_835, lw_d, cond_true, lw_4]
theorem lw_law (h : INV i X N K M dd) (hi : i ≤ 512) (hg : g.1 ≤ 2048) (hL : 4 * i + 3 < g.1) : ∃ X' N' T' K' M' dd', aftK (sem PGM (d + 40) yA_law) 1 (854, [some (.ref 0), some (.ref 12), some (.ref 91), some (.int (nI (4 * i)))], [], heapOf g X N T K M dd) (call PGM (d + 40) yB_law [.ref 12, .int (g.2 (4 * i + 1)), .int (g.2 (4 * i + 2))] (heapOf g X N T K M dd)) = sem PGM (d + 40) yA_law (18, [some (.ref 0), some (.ref 12), some (.ref 91), some (.int (nI (4 * i + 4)))], [], heapOf g X' N' T' K' M' dd') ∧ INV (i + 1) X' N' K' M' dd' := by
  have o : OPR d i g X N T K M dd yB_law yM_law [.int (g.2 (4 * i + 1)), .int (g.2 (4 * i + 2))] := by first | exact op_law d i g X N T K M dd h (g.2 (4 * i + 1)) (g.2 (4 * i + 2)) | exact op_law d i g X N T K M dd h hi (g.2 (4 * i + 1)) (g.2 (4 * i + 2))
  obtain ⟨r, X', N', T', K', M', dd', c1, c2, c3⟩ := o
  refine ⟨X', N', T', K', M', dd', ?_, c3⟩
  rw [c1, aft1, eA_law_854, lw_1, lw_in (show 4 * i + 1 < g.1 by omega) hg, lw_r (show 4 * i + 1 < g.1 by omega) hg, lw_2, lw_in (show 4 * i + 2 < g.1 by omega) hg, lw_r (show 4 * i + 2 < g.1 by omega) hg, lw_c2, c2]
  simp only [cond_true, Bool.and_self]
  rw [aft1, eA_law_868, lw_d, cond_true, lw_4]
theorem lw_together (h : INV i X N K M dd) (hi : i ≤ 512) (hg : g.1 ≤ 2048) (hL : 4 * i + 3 < g.1) : ∃ X' N' T' K' M' dd', aftK (sem PGM (d + 40) yA_law) 1 (882, [some (.ref 0), some (.ref 12), some (.ref 91), some (.int (nI (4 * i)))], [], heapOf g X N T K M dd) (call PGM (d + 40) yB_together [.ref 12, .int (g.2 (4 * i + 1))] (heapOf g X N T K M dd)) = sem PGM (d + 40) yA_law (18, [some (.ref 0), some (.ref 12), some (.ref 91), some (.int (nI (4 * i + 4)))], [], heapOf g X' N' T' K' M' dd') ∧ INV (i + 1) X' N' K' M' dd' := by
  have o : OPR d i g X N T K M dd yB_together yM_together [.int (g.2 (4 * i + 1))] := by first | exact op_together d i g X N T K M dd h (g.2 (4 * i + 1)) | exact op_together d i g X N T K M dd h hi (g.2 (4 * i + 1))
  obtain ⟨r, X', N', T', K', M', dd', c1, c2, c3⟩ := o
  refine ⟨X', N', T', K', M', dd', ?_, c3⟩
  rw [c1, aft1, eA_law_882, lw_1, lw_in (show 4 * i + 1 < g.1 by omega) hg, lw_r (show 4 * i + 1 < g.1 by omega) hg, lw_c2, c2]
  simp only [cond_true, Bool.and_self]
  rw [aft1, eA_law_891, lw_d, cond_true, lw_4]
theorem lw_harm (h : INV i X N K M dd) (hi : i ≤ 512) (hg : g.1 ≤ 2048) (hL : 4 * i + 3 < g.1) : ∃ X' N' T' K' M' dd', aftK (sem PGM (d + 40) yA_law) 1 (905, [some (.ref 0), some (.ref 12), some (.ref 91), some (.int (nI (4 * i)))], [], heapOf g X N T K M dd) (call PGM (d + 40) yB_harm [.ref 12, .int (g.2 (4 * i + 1))] (heapOf g X N T K M dd)) = sem PGM (d + 40) yA_law (18, [some (.ref 0), some (.ref 12), some (.ref 91), some (.int (nI (4 * i + 4)))], [], heapOf g X' N' T' K' M' dd') ∧ INV (i + 1) X' N' K' M' dd' := by
  have o : OPR d i g X N T K M dd yB_harm yM_harm [.int (g.2 (4 * i + 1))] := by first | exact op_harm d i g X N T K M dd h (g.2 (4 * i + 1)) | exact op_harm d i g X N T K M dd h hi (g.2 (4 * i + 1))
  obtain ⟨r, X', N', T', K', M', dd', c1, c2, c3⟩ := o
  refine ⟨X', N', T', K', M', dd', ?_, c3⟩
  rw [c1, aft1, eA_law_905, lw_1, lw_in (show 4 * i + 1 < g.1 by omega) hg, lw_r (show 4 * i + 1 < g.1 by omega) hg, lw_c2, c2]
  simp only [cond_true, Bool.and_self]
  rw [aft1, eA_law_914, lw_d, cond_true, lw_4]
theorem lw_prove (h : INV i X N K M dd) (hi : i ≤ 512) (hg : g.1 ≤ 2048) (hL : 4 * i + 3 < g.1) : ∃ X' N' T' K' M' dd', aftK (sem PGM (d + 40) yA_law) 1 (928, [some (.ref 0), some (.ref 12), some (.ref 91), some (.int (nI (4 * i)))], [], heapOf g X N T K M dd) (call PGM (d + 40) yB_prove [.ref 12, .int (g.2 (4 * i + 1))] (heapOf g X N T K M dd)) = sem PGM (d + 40) yA_law (18, [some (.ref 0), some (.ref 12), some (.ref 91), some (.int (nI (4 * i + 4)))], [], heapOf g X' N' T' K' M' dd') ∧ INV (i + 1) X' N' K' M' dd' := by
  have o : OPR d i g X N T K M dd yB_prove yM_prove [.int (g.2 (4 * i + 1))] := by first | exact op_prove d i g X N T K M dd h (g.2 (4 * i + 1)) | exact op_prove d i g X N T K M dd h hi (g.2 (4 * i + 1))
  obtain ⟨r, X', N', T', K', M', dd', c1, c2, c3⟩ := o
  refine ⟨X', N', T', K', M', dd', ?_, c3⟩
  rw [c1, aft1, eA_law_928, lw_1, lw_in (show 4 * i + 1 < g.1 by omega) hg, lw_r (show 4 * i + 1 < g.1 by omega) hg, lw_c2, c2]
  simp only [cond_true, Bool.and_self]
  rw [aft1, eA_law_937, lw_d, cond_true, lw_4]
theorem lw_row (h : INV i X N K M dd) (hi : i ≤ 512) (hg : g.1 ≤ 2048) (hL : 4 * i + 3 < g.1) : ∃ X' N' T' K' M' dd', aftK (sem PGM (d + 40) yA_law) 1 (956, [some (.ref 0), some (.ref 12), some (.ref 91), some (.int (nI (4 * i)))], [], heapOf g X N T K M dd) (call PGM (d + 40) yB_row [.ref 12, .int (g.2 (4 * i + 1)), .int (g.2 (4 * i + 2))] (heapOf g X N T K M dd)) = sem PGM (d + 40) yA_law (18, [some (.ref 0), some (.ref 12), some (.ref 91), some (.int (nI (4 * i + 4)))], [], heapOf g X' N' T' K' M' dd') ∧ INV (i + 1) X' N' K' M' dd' := by
  have o : OPR d i g X N T K M dd yB_row yM_row [.int (g.2 (4 * i + 1)), .int (g.2 (4 * i + 2))] := by first | exact op_row d i g X N T K M dd h (g.2 (4 * i + 1)) (g.2 (4 * i + 2)) | exact op_row d i g X N T K M dd h hi (g.2 (4 * i + 1)) (g.2 (4 * i + 2))
  obtain ⟨r, X', N', T', K', M', dd', c1, c2, c3⟩ := o
  refine ⟨X', N', T', K', M', dd', ?_, c3⟩
  rw [c1, aft1, eA_law_956, lw_1, lw_in (show 4 * i + 1 < g.1 by omega) hg, lw_r (show 4 * i + 1 < g.1 by omega) hg, lw_2, lw_in (show 4 * i + 2 < g.1 by omega) hg, lw_r (show 4 * i + 2 < g.1 by omega) hg, lw_c2, c2]
  simp only [cond_true, Bool.and_self]
  rw [aft1, eA_law_970, lw_d, cond_true, lw_4]
theorem lw_alterRow (h : INV i X N K M dd) (hi : i ≤ 512) (hg : g.1 ≤ 2048) (hL : 4 * i + 3 < g.1) : ∃ X' N' T' K' M' dd', aftK (sem PGM (d + 40) yA_law) 1 (994, [some (.ref 0), some (.ref 12), some (.ref 91), some (.int (nI (4 * i)))], [], heapOf g X N T K M dd) (call PGM (d + 40) yB_alterRow [.ref 12, .int (g.2 (4 * i + 1)), .int (g.2 (4 * i + 2)), .int (g.2 (4 * i + 3))] (heapOf g X N T K M dd)) = sem PGM (d + 40) yA_law (18, [some (.ref 0), some (.ref 12), some (.ref 91), some (.int (nI (4 * i + 4)))], [], heapOf g X' N' T' K' M' dd') ∧ INV (i + 1) X' N' K' M' dd' := by
  have o : OPR d i g X N T K M dd yB_alterRow yM_alterRow [.int (g.2 (4 * i + 1)), .int (g.2 (4 * i + 2)), .int (g.2 (4 * i + 3))] := by first | exact op_alterRow d i g X N T K M dd h (g.2 (4 * i + 1)) (g.2 (4 * i + 2)) (g.2 (4 * i + 3)) | exact op_alterRow d i g X N T K M dd h hi (g.2 (4 * i + 1)) (g.2 (4 * i + 2)) (g.2 (4 * i + 3))
  obtain ⟨r, X', N', T', K', M', dd', c1, c2, c3⟩ := o
  refine ⟨X', N', T', K', M', dd', ?_, c3⟩
  rw [c1, aft1, eA_law_994, lw_1, lw_in (show 4 * i + 1 < g.1 by omega) hg, lw_r (show 4 * i + 1 < g.1 by omega) hg, lw_2, lw_in (show 4 * i + 2 < g.1 by omega) hg, lw_r (show 4 * i + 2 < g.1 by omega) hg, lw_3, lw_in (show 4 * i + 3 < g.1 by omega) hg, lw_r (show 4 * i + 3 < g.1 by omega) hg, lw_c2, c2]
  simp only [cond_true, Bool.and_self]
  rw [aft1, eA_law_1013, lw_d, cond_true, lw_4]
theorem lw_judge (h : INV i X N K M dd) (hi : i ≤ 512) (hg : g.1 ≤ 2048) (hL : 4 * i + 3 < g.1) : ∃ X' N' T' K' M' dd', aftK (sem PGM (d + 40) yA_law) 1 (1022, [some (.ref 0), some (.ref 12), some (.ref 91), some (.int (nI (4 * i)))], [], heapOf g X N T K M dd) (call PGM (d + 40) yB_judge [.ref 12] (heapOf g X N T K M dd)) = sem PGM (d + 40) yA_law (18, [some (.ref 0), some (.ref 12), some (.ref 91), some (.int (nI (4 * i + 4)))], [], heapOf g X' N' T' K' M' dd') ∧ INV (i + 1) X' N' K' M' dd' := by
  have o : OPR d i g X N T K M dd yB_judge yM_judge [] := by first | exact op_judge d i g X N T K M dd h  | exact op_judge d i g X N T K M dd h hi 
  obtain ⟨r, X', N', T', K', M', dd', c1, c2, c3⟩ := o
  refine ⟨X', N', T', K', M', dd', ?_, c3⟩
  rw [c1, aft1, eA_law_1022, lw_c2, c2]
  simp only [cond_true, Bool.and_self]
  rw [aft1, eA_law_1026, lw_d, cond_true, lw_4]
theorem lw_sheet (h : INV i X N K M dd) (hi : i ≤ 512) (hg : g.1 ≤ 2048) (hL : 4 * i + 3 < g.1) : ∃ X' N' T' K' M' dd', aftK (sem PGM (d + 40) yA_law) 1 (1050, [some (.ref 0), some (.ref 12), some (.ref 91), some (.int (nI (4 * i)))], [], heapOf g X N T K M dd) (call PGM (d + 40) yB_sheet [.ref 12, .int (g.2 (4 * i + 1)), .int (g.2 (4 * i + 2)), .int (g.2 (4 * i + 3))] (heapOf g X N T K M dd)) = sem PGM (d + 40) yA_law (18, [some (.ref 0), some (.ref 12), some (.ref 91), some (.int (nI (4 * i + 4)))], [], heapOf g X' N' T' K' M' dd') ∧ INV (i + 1) X' N' K' M' dd' := by
  have o : OPR d i g X N T K M dd yB_sheet yM_sheet [.int (g.2 (4 * i + 1)), .int (g.2 (4 * i + 2)), .int (g.2 (4 * i + 3))] := by first | exact op_sheet d i g X N T K M dd h (g.2 (4 * i + 1)) (g.2 (4 * i + 2)) (g.2 (4 * i + 3)) | exact op_sheet d i g X N T K M dd h hi (g.2 (4 * i + 1)) (g.2 (4 * i + 2)) (g.2 (4 * i + 3))
  obtain ⟨r, X', N', T', K', M', dd', c1, c2, c3⟩ := o
  refine ⟨X', N', T', K', M', dd', ?_, c3⟩
  rw [c1, aft1, eA_law_1050, lw_1, lw_in (show 4 * i + 1 < g.1 by omega) hg, lw_r (show 4 * i + 1 < g.1 by omega) hg, lw_2, lw_in (show 4 * i + 2 < g.1 by omega) hg, lw_r (show 4 * i + 2 < g.1 by omega) hg, lw_3, lw_in (show 4 * i + 3 < g.1 by omega) hg, lw_r (show 4 * i + 3 < g.1 by omega) hg, lw_c2, c2]
  simp only [cond_true, Bool.and_self]
  rw [aft1, eA_law_1069, lw_d, cond_true, lw_4]
theorem lw_put (h : INV i X N K M dd) (hi : i ≤ 512) (hg : g.1 ≤ 2048) (hL : 4 * i + 3 < g.1) : ∃ X' N' T' K' M' dd', aftK (sem PGM (d + 40) yA_law) 1 (1093, [some (.ref 0), some (.ref 12), some (.ref 91), some (.int (nI (4 * i)))], [], heapOf g X N T K M dd) (call PGM (d + 40) yB_put [.ref 12, .int (g.2 (4 * i + 1)), .int (g.2 (4 * i + 2)), .int (g.2 (4 * i + 3))] (heapOf g X N T K M dd)) = sem PGM (d + 40) yA_law (18, [some (.ref 0), some (.ref 12), some (.ref 91), some (.int (nI (4 * i + 4)))], [], heapOf g X' N' T' K' M' dd') ∧ INV (i + 1) X' N' K' M' dd' := by
  have o : OPR d i g X N T K M dd yB_put yM_put [.int (g.2 (4 * i + 1)), .int (g.2 (4 * i + 2)), .int (g.2 (4 * i + 3))] := by first | exact op_put d i g X N T K M dd h (g.2 (4 * i + 1)) (g.2 (4 * i + 2)) (g.2 (4 * i + 3)) | exact op_put d i g X N T K M dd h hi (g.2 (4 * i + 1)) (g.2 (4 * i + 2)) (g.2 (4 * i + 3))
  obtain ⟨r, X', N', T', K', M', dd', c1, c2, c3⟩ := o
  refine ⟨X', N', T', K', M', dd', ?_, c3⟩
  rw [c1, aft1, eA_law_1093, lw_1, lw_in (show 4 * i + 1 < g.1 by omega) hg, lw_r (show 4 * i + 1 < g.1 by omega) hg, lw_2, lw_in (show 4 * i + 2 < g.1 by omega) hg, lw_r (show 4 * i + 2 < g.1 by omega) hg, lw_3, lw_in (show 4 * i + 3 < g.1 by omega) hg, lw_r (show 4 * i + 3 < g.1 by omega) hg, lw_c2, c2]
  simp only [cond_true, Bool.and_self]
  rw [aft1, eA_law_1112, lw_d, cond_true, lw_4]
theorem lw_item (h : INV i X N K M dd) (hi : i ≤ 512) (hg : g.1 ≤ 2048) (hL : 4 * i + 3 < g.1) : ∃ X' N' T' K' M' dd', aftK (sem PGM (d + 40) yA_law) 1 (1136, [some (.ref 0), some (.ref 12), some (.ref 91), some (.int (nI (4 * i)))], [], heapOf g X N T K M dd) (call PGM (d + 40) yB_item [.ref 12, .int (g.2 (4 * i + 1)), .int (g.2 (4 * i + 2)), .int (g.2 (4 * i + 3))] (heapOf g X N T K M dd)) = sem PGM (d + 40) yA_law (18, [some (.ref 0), some (.ref 12), some (.ref 91), some (.int (nI (4 * i + 4)))], [], heapOf g X' N' T' K' M' dd') ∧ INV (i + 1) X' N' K' M' dd' := by
  have o : OPR d i g X N T K M dd yB_item yM_item [.int (g.2 (4 * i + 1)), .int (g.2 (4 * i + 2)), .int (g.2 (4 * i + 3))] := by first | exact op_item d i g X N T K M dd h (g.2 (4 * i + 1)) (g.2 (4 * i + 2)) (g.2 (4 * i + 3)) | exact op_item d i g X N T K M dd h hi (g.2 (4 * i + 1)) (g.2 (4 * i + 2)) (g.2 (4 * i + 3))
  obtain ⟨r, X', N', T', K', M', dd', c1, c2, c3⟩ := o
  refine ⟨X', N', T', K', M', dd', ?_, c3⟩
  rw [c1, aft1, eA_law_1136, lw_1, lw_in (show 4 * i + 1 < g.1 by omega) hg, lw_r (show 4 * i + 1 < g.1 by omega) hg, lw_2, lw_in (show 4 * i + 2 < g.1 by omega) hg, lw_r (show 4 * i + 2 < g.1 by omega) hg, lw_3, lw_in (show 4 * i + 3 < g.1 by omega) hg, lw_r (show 4 * i + 3 < g.1 by omega) hg, lw_c2, c2]
  simp only [cond_true, Bool.and_self]
  rw [aft1, eA_law_1155, lw_d, cond_true, lw_4]
theorem lw_widths (h : INV i X N K M dd) (hi : i ≤ 512) (hg : g.1 ≤ 2048) (hL : 4 * i + 3 < g.1) : ∃ X' N' T' K' M' dd', aftK (sem PGM (d + 40) yA_law) 1 (1179, [some (.ref 0), some (.ref 12), some (.ref 91), some (.int (nI (4 * i)))], [], heapOf g X N T K M dd) (call PGM (d + 40) yB_widths [.ref 12, .int (g.2 (4 * i + 1)), .int (g.2 (4 * i + 2)), .int (g.2 (4 * i + 3))] (heapOf g X N T K M dd)) = sem PGM (d + 40) yA_law (18, [some (.ref 0), some (.ref 12), some (.ref 91), some (.int (nI (4 * i + 4)))], [], heapOf g X' N' T' K' M' dd') ∧ INV (i + 1) X' N' K' M' dd' := by
  have o : OPR d i g X N T K M dd yB_widths yM_widths [.int (g.2 (4 * i + 1)), .int (g.2 (4 * i + 2)), .int (g.2 (4 * i + 3))] := by first | exact op_widths d i g X N T K M dd h (g.2 (4 * i + 1)) (g.2 (4 * i + 2)) (g.2 (4 * i + 3)) | exact op_widths d i g X N T K M dd h hi (g.2 (4 * i + 1)) (g.2 (4 * i + 2)) (g.2 (4 * i + 3))
  obtain ⟨r, X', N', T', K', M', dd', c1, c2, c3⟩ := o
  refine ⟨X', N', T', K', M', dd', ?_, c3⟩
  rw [c1, aft1, eA_law_1179, lw_1, lw_in (show 4 * i + 1 < g.1 by omega) hg, lw_r (show 4 * i + 1 < g.1 by omega) hg, lw_2, lw_in (show 4 * i + 2 < g.1 by omega) hg, lw_r (show 4 * i + 2 < g.1 by omega) hg, lw_3, lw_in (show 4 * i + 3 < g.1 by omega) hg, lw_r (show 4 * i + 3 < g.1 by omega) hg, lw_c2, c2]
  simp only [cond_true, Bool.and_self]
  rw [aft1, eA_law_1198, lw_d, cond_true, lw_4]
theorem lw_shelf (h : INV i X N K M dd) (hi : i ≤ 512) (hg : g.1 ≤ 2048) (hL : 4 * i + 3 < g.1) : ∃ X' N' T' K' M' dd', aftK (sem PGM (d + 40) yA_law) 1 (1222, [some (.ref 0), some (.ref 12), some (.ref 91), some (.int (nI (4 * i)))], [], heapOf g X N T K M dd) (call PGM (d + 40) yB_shelf [.ref 12, .int (g.2 (4 * i + 1)), .int (g.2 (4 * i + 2)), .int (g.2 (4 * i + 3))] (heapOf g X N T K M dd)) = sem PGM (d + 40) yA_law (18, [some (.ref 0), some (.ref 12), some (.ref 91), some (.int (nI (4 * i + 4)))], [], heapOf g X' N' T' K' M' dd') ∧ INV (i + 1) X' N' K' M' dd' := by
  have o : OPR d i g X N T K M dd yB_shelf yM_shelf [.int (g.2 (4 * i + 1)), .int (g.2 (4 * i + 2)), .int (g.2 (4 * i + 3))] := by first | exact op_shelf d i g X N T K M dd h (g.2 (4 * i + 1)) (g.2 (4 * i + 2)) (g.2 (4 * i + 3)) | exact op_shelf d i g X N T K M dd h hi (g.2 (4 * i + 1)) (g.2 (4 * i + 2)) (g.2 (4 * i + 3))
  obtain ⟨r, X', N', T', K', M', dd', c1, c2, c3⟩ := o
  refine ⟨X', N', T', K', M', dd', ?_, c3⟩
  rw [c1, aft1, eA_law_1222, lw_1, lw_in (show 4 * i + 1 < g.1 by omega) hg, lw_r (show 4 * i + 1 < g.1 by omega) hg, lw_2, lw_in (show 4 * i + 2 < g.1 by omega) hg, lw_r (show 4 * i + 2 < g.1 by omega) hg, lw_3, lw_in (show 4 * i + 3 < g.1 by omega) hg, lw_r (show 4 * i + 3 < g.1 by omega) hg, lw_c2, c2]
  simp only [cond_true, Bool.and_self]
  rw [aft1, eA_law_1241, lw_d, cond_true, lw_4]
theorem lw_taken (h : INV i X N K M dd) (hi : i ≤ 512) (hg : g.1 ≤ 2048) (hL : 4 * i + 3 < g.1) : ∃ X' N' T' K' M' dd', aftK (sem PGM (d + 40) yA_law) 1 (1260, [some (.ref 0), some (.ref 12), some (.ref 91), some (.int (nI (4 * i)))], [], heapOf g X N T K M dd) (call PGM (d + 40) yB_taken [.ref 12, .int (g.2 (4 * i + 1)), .int (g.2 (4 * i + 2))] (heapOf g X N T K M dd)) = sem PGM (d + 40) yA_law (18, [some (.ref 0), some (.ref 12), some (.ref 91), some (.int (nI (4 * i + 4)))], [], heapOf g X' N' T' K' M' dd') ∧ INV (i + 1) X' N' K' M' dd' := by
  have o : OPR d i g X N T K M dd yB_taken yM_taken [.int (g.2 (4 * i + 1)), .int (g.2 (4 * i + 2))] := by first | exact op_taken d i g X N T K M dd h (g.2 (4 * i + 1)) (g.2 (4 * i + 2)) | exact op_taken d i g X N T K M dd h hi (g.2 (4 * i + 1)) (g.2 (4 * i + 2))
  obtain ⟨r, X', N', T', K', M', dd', c1, c2, c3⟩ := o
  refine ⟨X', N', T', K', M', dd', ?_, c3⟩
  rw [c1, aft1, eA_law_1260, lw_1, lw_in (show 4 * i + 1 < g.1 by omega) hg, lw_r (show 4 * i + 1 < g.1 by omega) hg, lw_2, lw_in (show 4 * i + 2 < g.1 by omega) hg, lw_r (show 4 * i + 2 < g.1 by omega) hg, lw_c2, c2]
  simp only [cond_true, Bool.and_self]
  rw [aft1, eA_law_1274, lw_d, cond_true, lw_4]
theorem lw_act (h : INV i X N K M dd) (hi : i ≤ 512) (hg : g.1 ≤ 2048) (hL : 4 * i + 3 < g.1) : ∃ X' N' T' K' M' dd', aftK (sem PGM (d + 40) yA_law) 1 (1298, [some (.ref 0), some (.ref 12), some (.ref 91), some (.int (nI (4 * i)))], [], heapOf g X N T K M dd) (call PGM (d + 40) yB_act [.ref 12, .int (g.2 (4 * i + 1)), .int (g.2 (4 * i + 2)), .int (g.2 (4 * i + 3))] (heapOf g X N T K M dd)) = sem PGM (d + 40) yA_law (18, [some (.ref 0), some (.ref 12), some (.ref 91), some (.int (nI (4 * i + 4)))], [], heapOf g X' N' T' K' M' dd') ∧ INV (i + 1) X' N' K' M' dd' := by
  have o : OPR d i g X N T K M dd yB_act yM_act [.int (g.2 (4 * i + 1)), .int (g.2 (4 * i + 2)), .int (g.2 (4 * i + 3))] := by first | exact op_act d i g X N T K M dd h (g.2 (4 * i + 1)) (g.2 (4 * i + 2)) (g.2 (4 * i + 3)) | exact op_act d i g X N T K M dd h hi (g.2 (4 * i + 1)) (g.2 (4 * i + 2)) (g.2 (4 * i + 3))
  obtain ⟨r, X', N', T', K', M', dd', c1, c2, c3⟩ := o
  refine ⟨X', N', T', K', M', dd', ?_, c3⟩
  rw [c1, aft1, eA_law_1298, lw_1, lw_in (show 4 * i + 1 < g.1 by omega) hg, lw_r (show 4 * i + 1 < g.1 by omega) hg, lw_2, lw_in (show 4 * i + 2 < g.1 by omega) hg, lw_r (show 4 * i + 2 < g.1 by omega) hg, lw_3, lw_in (show 4 * i + 3 < g.1 by omega) hg, lw_r (show 4 * i + 3 < g.1 by omega) hg, lw_c2, c2]
  simp only [cond_true, Bool.and_self]
  rw [aft1, eA_law_1317, lw_d, cond_true, lw_4]
theorem lw_trace (h : INV i X N K M dd) (hi : i ≤ 512) (hg : g.1 ≤ 2048) (hL : 4 * i + 3 < g.1) : ∃ X' N' T' K' M' dd', aftK (sem PGM (d + 40) yA_law) 1 (1331, [some (.ref 0), some (.ref 12), some (.ref 91), some (.int (nI (4 * i)))], [], heapOf g X N T K M dd) (call PGM (d + 40) yB_trace [.ref 12, .int (g.2 (4 * i + 1))] (heapOf g X N T K M dd)) = sem PGM (d + 40) yA_law (18, [some (.ref 0), some (.ref 12), some (.ref 91), some (.int (nI (4 * i + 4)))], [], heapOf g X' N' T' K' M' dd') ∧ INV (i + 1) X' N' K' M' dd' := by
  have o : OPR d i g X N T K M dd yB_trace yM_trace [.int (g.2 (4 * i + 1))] := by first | exact op_trace d i g X N T K M dd h (g.2 (4 * i + 1)) | exact op_trace d i g X N T K M dd h hi (g.2 (4 * i + 1))
  obtain ⟨r, X', N', T', K', M', dd', c1, c2, c3⟩ := o
  refine ⟨X', N', T', K', M', dd', ?_, c3⟩
  rw [c1, aft1, eA_law_1331, lw_1, lw_in (show 4 * i + 1 < g.1 by omega) hg, lw_r (show 4 * i + 1 < g.1 by omega) hg, lw_c2, c2]
  simp only [cond_true, Bool.and_self]
  rw [aft1, eA_law_1340, lw_d, cond_true, lw_4]
theorem lw_many (h : INV i X N K M dd) (hi : i ≤ 512) (hg : g.1 ≤ 2048) (hL : 4 * i + 3 < g.1) : ∃ X' N' T' K' M' dd', aftK (sem PGM (d + 40) yA_law) 1 (1354, [some (.ref 0), some (.ref 12), some (.ref 91), some (.int (nI (4 * i)))], [], heapOf g X N T K M dd) (call PGM (d + 40) yB_many [.ref 12, .int (g.2 (4 * i + 1))] (heapOf g X N T K M dd)) = sem PGM (d + 40) yA_law (18, [some (.ref 0), some (.ref 12), some (.ref 91), some (.int (nI (4 * i + 4)))], [], heapOf g X' N' T' K' M' dd') ∧ INV (i + 1) X' N' K' M' dd' := by
  have o : OPR d i g X N T K M dd yB_many yM_many [.int (g.2 (4 * i + 1))] := by first | exact op_many d i g X N T K M dd h (g.2 (4 * i + 1)) | exact op_many d i g X N T K M dd h hi (g.2 (4 * i + 1))
  obtain ⟨r, X', N', T', K', M', dd', c1, c2, c3⟩ := o
  refine ⟨X', N', T', K', M', dd', ?_, c3⟩
  rw [c1, aft1, eA_law_1354, lw_1, lw_in (show 4 * i + 1 < g.1 by omega) hg, lw_r (show 4 * i + 1 < g.1 by omega) hg, lw_c2, c2]
  simp only [cond_true, Bool.and_self]
  rw [aft1, eA_law_1363, lw_d, cond_true, lw_4]
theorem lw_keep (h : INV i X N K M dd) (hi : i ≤ 512) (hg : g.1 ≤ 2048) (hL : 4 * i + 3 < g.1) : ∃ X' N' T' K' M' dd', aftK (sem PGM (d + 40) yA_law) 1 (1372, [some (.ref 0), some (.ref 12), some (.ref 91), some (.int (nI (4 * i)))], [], heapOf g X N T K M dd) (call PGM (d + 40) yB_keep [.ref 12] (heapOf g X N T K M dd)) = sem PGM (d + 40) yA_law (18, [some (.ref 0), some (.ref 12), some (.ref 91), some (.int (nI (4 * i + 4)))], [], heapOf g X' N' T' K' M' dd') ∧ INV (i + 1) X' N' K' M' dd' := by
  have o : OPR d i g X N T K M dd yB_keep yM_keep [] := by first | exact op_keep d i g X N T K M dd h  | exact op_keep d i g X N T K M dd h hi 
  obtain ⟨r, X', N', T', K', M', dd', c1, c2, c3⟩ := o
  refine ⟨X', N', T', K', M', dd', ?_, c3⟩
  rw [c1, aft1, eA_law_1372, lw_c2, c2]
  simp only [cond_true, Bool.and_self]
  rw [aft1, eA_law_1376, lw_d, cond_true, lw_4]
theorem lw_again (h : INV i X N K M dd) (hi : i ≤ 512) (hg : g.1 ≤ 2048) (hL : 4 * i + 3 < g.1) : ∃ X' N' T' K' M' dd', aftK (sem PGM (d + 40) yA_law) 1 (1385, [some (.ref 0), some (.ref 12), some (.ref 91), some (.int (nI (4 * i)))], [], heapOf g X N T K M dd) (call PGM (d + 40) yB_again [.ref 12] (heapOf g X N T K M dd)) = sem PGM (d + 40) yA_law (18, [some (.ref 0), some (.ref 12), some (.ref 91), some (.int (nI (4 * i + 4)))], [], heapOf g X' N' T' K' M' dd') ∧ INV (i + 1) X' N' K' M' dd' := by
  have o : OPR d i g X N T K M dd yB_again yM_again [] := by first | exact op_again d i g X N T K M dd h  | exact op_again d i g X N T K M dd h hi 
  obtain ⟨r, X', N', T', K', M', dd', c1, c2, c3⟩ := o
  refine ⟨X', N', T', K', M', dd', ?_, c3⟩
  rw [c1, aft1, eA_law_1385, lw_c2, c2]
  simp only [cond_true, Bool.and_self]
  rw [aft1, eA_law_1389, lw_d, cond_true, lw_4]
theorem lw_step (h : INV i X N K M dd) (hi : i ≤ 512) (hg : g.1 ≤ 2048) (hL : 4 * i + 3 < g.1) : ∃ X' N' T' K' M' dd', sem PGM (d + 40) yA_law (18, [some (.ref 0), some (.ref 12), some (.ref 91), some (.int (nI (4 * i)))], [], heapOf g X N T K M dd) = sem PGM (d + 40) yA_law (18, [some (.ref 0), some (.ref 12), some (.ref 91), some (.int (nI (4 * i + 4)))], [], heapOf g X' N' T' K' M' dd') ∧ INV (i + 1) X' N' K' M' dd' := by
  have e4 : nI g.1 - 4 = nI (g.1 - 4) := by
    have : nI g.1 = nI (g.1 - 4) + nI 4 := by rw [nI_add]; congr 1; omega
    rw [this]
    show nI (g.1 - 4) + nI 4 - nI 4 = _
    rw [Int32.add_sub_cancel]
  have lt : decide (nI (g.1 - 4) < nI (4 * i)) = false := by rw [dlt (by omega) (by omega)]; simp; omega
  rw [eA_law_18, lw_okL, lw_len, e4, lt, lw_in (show 4 * i < g.1 by omega) hg, lw_r (show 4 * i < g.1 by omega) hg, lw_1, lw_2, lw_3, lw_4, lw_in (show 4 * i + 1 < g.1 by omega) hg, lw_in (show 4 * i + 2 < g.1 by omega) hg, lw_in (show 4 * i + 3 < g.1 by omega) hg, lw_r (show 4 * i + 1 < g.1 by omega) hg, lw_r (show 4 * i + 2 < g.1 by omega) hg, lw_r (show 4 * i + 3 < g.1 by omega) hg, lw_c1]
  simp only [cond_true, cond_false, Bool.and_self]
  by_cases e0 : (g.2 (4 * i) &&& 63) = Int32.ofInt 0
  · rw [decide_eq_true e0, cond_true]
    exact lw_street d i g X N T K M dd h hi hg hL
  rw [decide_eq_false e0, cond_false]
  by_cases e1 : (g.2 (4 * i) &&& 63) = Int32.ofInt 1
  · rw [decide_eq_true e1, cond_true]
    exact lw_cell d i g X N T K M dd h hi hg hL
  rw [decide_eq_false e1, cond_false]
  by_cases e2 : (g.2 (4 * i) &&& 63) = Int32.ofInt 2
  · rw [decide_eq_true e2, cond_true]
    exact lw_cellOf d i g X N T K M dd h hi hg hL
  rw [decide_eq_false e2, cond_false]
  by_cases e3 : (g.2 (4 * i) &&& 63) = Int32.ofInt 3
  · rw [decide_eq_true e3, cond_true]
    exact lw_rule d i g X N T K M dd h hi hg hL
  rw [decide_eq_false e3, cond_false]
  by_cases e4 : (g.2 (4 * i) &&& 63) = Int32.ofInt 4
  · rw [decide_eq_true e4, cond_true]
    exact lw_seed d i g X N T K M dd h hi hg hL
  rw [decide_eq_false e4, cond_false]
  by_cases e5 : (g.2 (4 * i) &&& 63) = Int32.ofInt 5
  · rw [decide_eq_true e5, cond_true]
    exact lw_person d i g X N T K M dd h hi hg hL
  rw [decide_eq_false e5, cond_false]
  by_cases e6 : (g.2 (4 * i) &&& 63) = Int32.ofInt 6
  · rw [decide_eq_true e6, cond_true]
    exact lw_personOf d i g X N T K M dd h hi hg hL
  rw [decide_eq_false e6, cond_false]
  by_cases e7 : (g.2 (4 * i) &&& 63) = Int32.ofInt 7
  · rw [decide_eq_true e7, cond_true]
    exact lw_beast d i g X N T K M dd h hi hg hL
  rw [decide_eq_false e7, cond_false]
  by_cases e8 : (g.2 (4 * i) &&& 63) = Int32.ofInt 8
  · rw [decide_eq_true e8, cond_true]
    exact lw_beastOf d i g X N T K M dd h hi hg hL
  rw [decide_eq_false e8, cond_false]
  by_cases e9 : (g.2 (4 * i) &&& 63) = Int32.ofInt 9
  · rw [decide_eq_true e9, cond_true]
    exact lw_moves d i g X N T K M dd h hi hg hL
  rw [decide_eq_false e9, cond_false]
  by_cases e10 : (g.2 (4 * i) &&& 63) = Int32.ofInt 10
  · rw [decide_eq_true e10, cond_true]
    exact lw_feed d i g X N T K M dd h hi hg hL
  rw [decide_eq_false e10, cond_false]
  by_cases e11 : (g.2 (4 * i) &&& 63) = Int32.ofInt 11
  · rw [decide_eq_true e11, cond_true]
    exact lw_read d i g X N T K M dd h hi hg hL
  rw [decide_eq_false e11, cond_false]
  by_cases e12 : (g.2 (4 * i) &&& 63) = Int32.ofInt 12
  · rw [decide_eq_true e12, cond_true]
    exact lw_says d i g X N T K M dd h hi hg hL
  rw [decide_eq_false e12, cond_false]
  by_cases e13 : (g.2 (4 * i) &&& 63) = Int32.ofInt 13
  · rw [decide_eq_true e13, cond_true]
    exact lw_fact d i g X N T K M dd h hi hg hL
  rw [decide_eq_false e13, cond_false]
  by_cases e14 : (g.2 (4 * i) &&& 63) = Int32.ofInt 14
  · rw [decide_eq_true e14, cond_true]
    exact lw_run d i g X N T K M dd h hi hg hL
  rw [decide_eq_false e14, cond_false]
  by_cases e15 : (g.2 (4 * i) &&& 63) = Int32.ofInt 15
  · rw [decide_eq_true e15, cond_true]
    exact lw_morning d i g X N T K M dd h hi hg hL
  rw [decide_eq_false e15, cond_false]
  by_cases e16 : (g.2 (4 * i) &&& 63) = Int32.ofInt 16
  · rw [decide_eq_true e16, cond_true]
    exact lw_odds d i g X N T K M dd h hi hg hL
  rw [decide_eq_false e16, cond_false]
  by_cases e17 : (g.2 (4 * i) &&& 63) = Int32.ofInt 17
  · rw [decide_eq_true e17, cond_true]
    exact lw_begin d i g X N T K M dd h hi hg hL
  rw [decide_eq_false e17, cond_false]
  by_cases e18 : (g.2 (4 * i) &&& 63) = Int32.ofInt 18
  · rw [decide_eq_true e18, cond_true]
    exact lw_door d i g X N T K M dd h hi hg hL
  rw [decide_eq_false e18, cond_false]
  by_cases e19 : (g.2 (4 * i) &&& 63) = Int32.ofInt 19
  · rw [decide_eq_true e19, cond_true]
    exact lw_limit d i g X N T K M dd h hi hg hL
  rw [decide_eq_false e19, cond_false]
  by_cases e20 : (g.2 (4 * i) &&& 63) = Int32.ofInt 20
  · rw [decide_eq_true e20, cond_true]
    exact lw_law d i g X N T K M dd h hi hg hL
  rw [decide_eq_false e20, cond_false]
  by_cases e21 : (g.2 (4 * i) &&& 63) = Int32.ofInt 21
  · rw [decide_eq_true e21, cond_true]
    exact lw_together d i g X N T K M dd h hi hg hL
  rw [decide_eq_false e21, cond_false]
  by_cases e22 : (g.2 (4 * i) &&& 63) = Int32.ofInt 22
  · rw [decide_eq_true e22, cond_true]
    exact lw_harm d i g X N T K M dd h hi hg hL
  rw [decide_eq_false e22, cond_false]
  by_cases e23 : (g.2 (4 * i) &&& 63) = Int32.ofInt 23
  · rw [decide_eq_true e23, cond_true]
    exact lw_prove d i g X N T K M dd h hi hg hL
  rw [decide_eq_false e23, cond_false]
  by_cases e24 : (g.2 (4 * i) &&& 63) = Int32.ofInt 24
  · rw [decide_eq_true e24, cond_true]
    exact lw_row d i g X N T K M dd h hi hg hL
  rw [decide_eq_false e24, cond_false]
  by_cases e25 : (g.2 (4 * i) &&& 63) = Int32.ofInt 25
  · rw [decide_eq_true e25, cond_true]
    exact lw_alterRow d i g X N T K M dd h hi hg hL
  rw [decide_eq_false e25, cond_false]
  by_cases e26 : (g.2 (4 * i) &&& 63) = Int32.ofInt 26
  · rw [decide_eq_true e26, cond_true]
    exact lw_judge d i g X N T K M dd h hi hg hL
  rw [decide_eq_false e26, cond_false]
  by_cases e27 : (g.2 (4 * i) &&& 63) = Int32.ofInt 27
  · rw [decide_eq_true e27, cond_true]
    exact lw_sheet d i g X N T K M dd h hi hg hL
  rw [decide_eq_false e27, cond_false]
  by_cases e28 : (g.2 (4 * i) &&& 63) = Int32.ofInt 28
  · rw [decide_eq_true e28, cond_true]
    exact lw_put d i g X N T K M dd h hi hg hL
  rw [decide_eq_false e28, cond_false]
  by_cases e29 : (g.2 (4 * i) &&& 63) = Int32.ofInt 29
  · rw [decide_eq_true e29, cond_true]
    exact lw_item d i g X N T K M dd h hi hg hL
  rw [decide_eq_false e29, cond_false]
  by_cases e30 : (g.2 (4 * i) &&& 63) = Int32.ofInt 30
  · rw [decide_eq_true e30, cond_true]
    exact lw_widths d i g X N T K M dd h hi hg hL
  rw [decide_eq_false e30, cond_false]
  by_cases e31 : (g.2 (4 * i) &&& 63) = Int32.ofInt 31
  · rw [decide_eq_true e31, cond_true]
    exact lw_shelf d i g X N T K M dd h hi hg hL
  rw [decide_eq_false e31, cond_false]
  by_cases e32 : (g.2 (4 * i) &&& 63) = Int32.ofInt 32
  · rw [decide_eq_true e32, cond_true]
    exact lw_taken d i g X N T K M dd h hi hg hL
  rw [decide_eq_false e32, cond_false]
  by_cases e33 : (g.2 (4 * i) &&& 63) = Int32.ofInt 33
  · rw [decide_eq_true e33, cond_true]
    exact lw_act d i g X N T K M dd h hi hg hL
  rw [decide_eq_false e33, cond_false]
  by_cases e34 : (g.2 (4 * i) &&& 63) = Int32.ofInt 34
  · rw [decide_eq_true e34, cond_true]
    exact lw_trace d i g X N T K M dd h hi hg hL
  rw [decide_eq_false e34, cond_false]
  by_cases e35 : (g.2 (4 * i) &&& 63) = Int32.ofInt 35
  · rw [decide_eq_true e35, cond_true]
    exact lw_many d i g X N T K M dd h hi hg hL
  rw [decide_eq_false e35, cond_false]
  by_cases e36 : (g.2 (4 * i) &&& 63) = Int32.ofInt 36
  · rw [decide_eq_true e36, cond_true]
    exact lw_keep d i g X N T K M dd h hi hg hL
  rw [decide_eq_false e36, cond_false]
  by_cases e37 : (g.2 (4 * i) &&& 63) = Int32.ofInt 37
  · rw [decide_eq_true e37, cond_true]
    exact lw_again d i g X N T K M dd h hi hg hL
  rw [decide_eq_false e37, cond_false]
  exact ⟨X, N, T, K, M, dd, rfl, INV_mono h⟩
end
