/-! The law's beginning: both are made, and INV holds. -/
set_option maxRecDepth 100000 in
theorem eAh_law_0 (d : Nat) (h : AH) (r0 : Nat) : sem PGM d yA_law (0, [some (.ref r0), none, none, none], [], h) =
    bif Nat.ble 12 (List.length h) && true then aftK (sem PGM d yA_law) 0 (7, [some (.ref r0), none, none, none], [.ref (List.length h)], (h ++ [objOf dfls 6])) (call PGM d yB_init [.ref (List.length h)] (h ++ [objOf dfls 6]))
    else none := (ev_eq PGM d yA_law [18] 400 _).trans rfl
set_option maxRecDepth 100000 in
theorem eAh_law_7 (d : Nat) (h : AH) (r0 : Nat) (u3 : Option Value) (q0 : Nat) : sem PGM d yA_law (7, [some (.ref r0), none, none, u3], [.ref q0], h) =
    bif Nat.ble 12 (List.length h) && true then aftK (sem PGM d yA_law) 0 (15, [some (.ref r0), some (.ref q0), none, u3], [.ref (List.length h)], (h ++ [objOf dfls 7])) (call PGM d yM_init [.ref (List.length h)] (h ++ [objOf dfls 7]))
    else none := (ev_eq PGM d yA_law [18] 400 _).trans rfl
set_option maxRecDepth 100000 in
theorem eAh_law_15 (d : Nat) (h : AH) (r0 : Nat) (r1 : Nat) (u3 : Option Value) (q0 : Nat) : sem PGM d yA_law (15, [some (.ref r0), some (.ref r1), none, u3], [.ref q0], h) =
    sem PGM d yA_law (18, [some (.ref r0), some (.ref r1), some (.ref q0), some (.int 0)], [], h) := (ev_eq PGM d yA_law [18] 400 _).trans rfl
def moNw : MS := ((fun k => bif Nat.beq k 9 then upd (upd (upd (upd (fun _ => 0) (0 : Int32).toNatClampNeg (-1)) (1 : Int32).toNatClampNeg (-1)) (2 : Int32).toNatClampNeg (-1)) (3 : Int32).toNatClampNeg (-1) else bif Nat.beq k 12 then upd (upd (upd (upd (fun _ => 0) (0 : Int32).toNatClampNeg 3) (1 : Int32).toNatClampNeg 3) (2 : Int32).toNatClampNeg 3) (3 : Int32).toNatClampNeg 3 else fun _ => 0), (fun k => bif Nat.beq k 8 then -1 else 0))
def s00 : Nat → Int32 := upd (upd (upd (upd (fun _ => 0) 4 1) 5 3) 6 2) 7 3
def M0 : MS := mA moNw 0 (pvF s00 10 30)
section
set_option maxRecDepth 100000 in
theorem mz_oN (Z : ZT) (M : MS) : okN (hM Z M) 91 7 0 = false := rfl
set_option maxRecDepth 100000 in
theorem mz_oR (Z : ZT) (M : MS) : okR (hM Z M) 91 7 0 = true := rfl
set_option maxRecDepth 100000 in
theorem mz_gR (Z : ZT) (M : MS) : gR (hM Z M) 91 0 = 92 := rfl
set_option maxRecDepth 100000 in
theorem mz_oC (Z : ZT) (M : MS) : okC (hM Z M) 91 7 = true := rfl
set_option maxRecDepth 100000 in
theorem mz_iA (Z : ZT) (M : MS) (i : Int32) : inA (hM Z M) 92 0 i = inb i 437 := rfl
set_option maxRecDepth 100000 in
theorem mz_wA (Z : ZT) (M : MS) (i v : Int32) : wA (hM Z M) 92 i v = hM Z (mA M 0 (upd (M.1 0) i.toNatClampNeg v)) := rfl
theorem cM_init2 (d : Nat) (Z : ZT) : sem PGM (d + 1) yM_init (171, [some (.ref 91)], [], hM Z moNw) = some (none, hM Z M0) := by
  have b92 : Nat.ble 12 92 = true := rfl
  have i4 : inb 4 437 = true := by decide
  have i5 : inb 5 437 = true := by decide
  have i6 : inb 6 437 = true := by decide
  have i7 : inb 7 437 = true := by decide
  rw [eM_init_171, mz_oN, mz_oR, mz_gR, mz_iA, mz_wA, b92, i4]
  simp only [cond_true, cond_false, Bool.and_self]
  rw [eM_init_178, mz_oN, mz_oR, mz_gR, mz_iA, mz_wA, b92, i5]
  simp only [cond_true, cond_false, Bool.and_self]
  rw [eM_init_185, mz_oN, mz_oR, mz_gR, mz_iA, mz_wA, b92, i6]
  simp only [cond_true, cond_false, Bool.and_self]
  rw [eM_init_193, mz_oN, mz_oR, mz_gR, mz_iA, mz_wA, b92, i7, mz_oC]
  simp only [cond_true, cond_false, Bool.and_self]
  rw [cM_paves d, aft0, eM_init_207]
  simp only [mA_s, mA_mA]
  rfl
end
theorem cM_init (d : Nat) (g : GT) (H : AH) (eH : H = gv g ++ (blkX X0 ++ (blkS 43 N0 ++ (blkS 59 N0 ++ blkS 75 N0)))) (hl : H.length = 91) : call PGM (d + 2) yM_init [.ref 91] (H ++ [objOf dfls 7]) = some (none, heapOf g X0 N0 N0 N0 M0 []) := by
  have c := cM_init171 (d + 1) H (by omega)
  rw [hl] at c
  rw [c]
  have e : H ++ blkM moNw = hM (g, X0, N0, N0, N0, []) moNw := by
    rw [eH]
    unfold hM heapOf
    simp only [List.append_assoc, List.append_nil]
  have c2 := cM_init2 d (g, X0, N0, N0, N0, [])
  rw [← e] at c2
  exact c2
theorem stNw_RS : RS (stNw 38) s00 0 0 := by
  refine ⟨fun k hk => ?_, fun c hc => ?_, fun p hp => absurd hp (Nat.not_lt_zero p), fun b hb => absurd hb (Nat.not_lt_zero b), fun k hk => ?_, fun c hc => ⟨rfl, rfl⟩⟩
  · have e : k = 0 ∨ k = 1 ∨ k = 2 ∨ k = 3 ∨ k = 4 := by omega
    rcases e with e | e | e | e | e <;> subst e <;> rfl
  · have z : ∀ j, 8 ≤ j → s00 j = 0 := fun j hj => by
      unfold s00
      rw [upd_ne (by omega), upd_ne (by omega), upd_ne (by omega), upd_ne (by omega)]
    rw [z _ (by omega), z _ (by omega), z _ (by omega)]
    exact ⟨rfl, rfl, rfl⟩
  · have e : k = 0 ∨ k = 1 ∨ k = 2 := by omega
    rcases e with e | e | e <;> subst e <;> rfl
theorem INV0 : INV 0 X0 N0 N0 M0 [] := by
  have fr : ∀ k, k ≠ 0 → k < 9 → pvF s00 10 30 k = s00 k := fun k h0 h => pvF_fr h0 (Or.inl h) 30 (by omega)
  refine ⟨⟨⟨10, 0, 0, 0, fun _ => (0, 0, false, 0, []), ?_, ?_, ?_, Or.inl ⟨rfl, rfl⟩⟩, rfl⟩, Or.inl ⟨rfl, rfl⟩, ⟨0, by omega, rfl, rfl, fun k hk => absurd hk (Nat.not_lt_zero k)⟩, ⟨0, by omega, rfl, rfl, fun k hk => absurd hk (Nat.not_lt_zero k)⟩, ⟨fun k hk => Or.inl ⟨rfl, ?_⟩, fun k l a _ _ h _ => by cases h⟩, fun k hk => Or.inl ⟨Or.inl ?_, ?_, rfl⟩, ⟨0, by omega, rfl, rfl, fun k hk => absurd hk (Nat.not_lt_zero k)⟩, ⟨rfl, rfl, 0, by omega, rfl⟩, ⟨Nat.le_refl _, Nat.le_refl _⟩⟩
  · exact lay1_RS 10 stNw_RS (by omega) (by omega)
  · show WF (pvF s00 10 30) 10 0 0 (60 * 0) (fun _ => 180 * 0)
    refine ⟨⟨⟨pvF_0 _ _ _, by omega, by omega⟩, ⟨fr 1 (by omega) (by omega), by omega⟩, ⟨fr 2 (by omega) (by omega), by omega⟩, ⟨0, by omega, fr 3 (by omega) (by omega)⟩, ⟨3, by omega, by omega, fr 5 (by omega) (by omega)⟩, ⟨2, by omega, fr 6 (by omega) (by omega)⟩, ⟨3, by omega, by omega, fr 7 (by omega) (by omega)⟩⟩, fun c hc => ?_, fun p hp => absurd hp (Nat.not_lt_zero p), fun b hb => absurd hb (Nat.not_lt_zero b)⟩
    obtain ⟨q0, q1, q2⟩ := pvF_c (s := s00) (n := 10) 30 hc
    exact ⟨⟨3, by omega, by omega, q0⟩, ⟨0, by omega, q1⟩, ⟨0, by omega, q2⟩⟩
  · show lawM (pvF s00 10 30) 0 _
    exact ⟨by omega, fr 8 (by omega) (by omega), fun k hk => absurd hk (Nat.not_lt_zero k)⟩
  · have e : k = 0 ∨ k = 1 ∨ k = 2 ∨ k = 3 := by omega
    rcases e with e | e | e | e <;> subst e <;> rfl
  · have e : k = 0 ∨ k = 1 ∨ k = 2 ∨ k = 3 := by omega
    rcases e with e | e | e | e <;> subst e <;> rfl
  · have e : k = 0 ∨ k = 1 ∨ k = 2 ∨ k = 3 := by omega
    rcases e with e | e | e | e <;> subst e <;> rfl
set_option maxRecDepth 100000 in
theorem len91 (g : GT) : (gv g ++ (blkX X0 ++ (blkS 43 N0 ++ (blkS 59 N0 ++ blkS 75 N0)))).length = 91 := rfl
theorem law_made (g : GT) : sem PGM 300 yA_law (0, [some (.ref 0), none, none, none], [], gv g) = sem PGM 300 yA_law (18, [some (.ref 0), some (.ref 12), some (.ref 91), some (.int 0)], [], heapOf g X0 N0 N0 N0 M0 []) := by
  obtain ⟨H, eH⟩ : ∃ H, H = gv g ++ (blkX X0 ++ (blkS 43 N0 ++ (blkS 59 N0 ++ blkS 75 N0))) := ⟨_, rfl⟩
  have hl : H.length = 91 := by rw [eH, len91]
  have g12 : List.length (gv g) = 12 := rfl
  have b12 : Nat.ble 12 12 = true := rfl
  have b91 : Nat.ble 12 91 = true := rfl
  rw [eAh_law_0, g12, b12, cB_init 296, ← eH]
  simp only [cond_true, Bool.and_self]
  rw [aft0, eAh_law_7, hl, b91, cM_init 298 g H eH hl]
  simp only [cond_true, Bool.and_self]
  rw [aft0, eAh_law_15]
theorem whole_sem (L : Nat) (xs : Nat → Int32) (hL : L ≤ 2048) : ∃ hF : AH, sem PGM 300 0 (0, [some (.ref 0), none, none, none], [], gv (L, xs)) = some (some (.int 1), hF) ∧ hF.length ≤ 600000 ∧ sl hF ≤ 7302250 := by
  obtain ⟨hF, a, b, c⟩ := lw_loop 260 (L, xs) hL 513 0 X0 N0 N0 N0 M0 [] rfl INV0
  exact ⟨hF, (law_made (L, xs)).trans a, b, c⟩
theorem whole_start {p : Program} {e : Env} {s : State} {m : MethodId} {below : List Frame} {meth : Method} {c : Code} (l : Launch) (hflags : l.flags = flags0) {b L : Nat} {xs : Nat → Int32} (hL : L ≤ 2048) (C0 : lw_At p s m meth c b L xs) : W p l e room_1 s m #[Value.ref b] below meth c s.heap [] 0 0 (lw_Z below #[Value.ref b] s) (entryFrame m ([Value.ref b] : List Value).toArray 4) := whole_open whole_sem l hL C0
