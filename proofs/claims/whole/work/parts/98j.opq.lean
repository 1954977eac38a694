/-! A call of both: read. -/
theorem RS_8 {S : SS} {s s' : Nat → Int32} {np nb : Nat} (h : RS S s np nb) (hnp : np ≤ 20) (hnb : nb ≤ 6) (e : ∀ k, k < 197 → k ≠ 8 → s' k = s k) (l : Nat) : RS (sL S l) s' np nb := by
  obtain ⟨hV, hC, hP, hB, hR, hN⟩ := h
  refine ⟨fun k hk => ?_, fun c hc => ?_, fun p hp => ?_, fun b hb => ?_, fun k hk => ?_, fun c hc => ?_⟩
  · rw [e k (by omega) (by omega)]; exact hV k hk
  · rw [e _ (by omega) (by omega), e _ (by omega) (by omega), e _ (by omega) (by omega)]; exact hC c hc
  · rw [e _ (by omega) (by omega), e _ (by omega) (by omega), e _ (by omega) (by omega), e _ (by omega) (by omega)]; exact hP p hp
  · rw [e _ (by omega) (by omega), e _ (by omega) (by omega), e _ (by omega) (by omega)]; exact hB b hb
  · rw [e _ (by omega) (by omega)]; exact hR k hk
  · rw [crN_congr (fun q hq => e _ (by omega) (by omega)), faN_congr (fun q hq => e _ (by omega) (by omega)) (fun q hq => e _ (by omega) (by omega))]; exact hN c hc
theorem WF_8 {s s' : Nat → Int32} {nc np nb T : Nat} {B : Nat → Nat} (h : WF s nc np nb T B) (e : ∀ k, k < 197 → k ≠ 8 → s' k = s k) : WF s' nc np nb T B := by
  have hnp : np ≤ 20 := h.1.2.1.2
  have hnb : nb ≤ 6 := h.1.2.2.1.2
  exact ⟨wfH_congr h.1 (fun k hk h4 => e k (by omega) (by omega)), fun c hc => wfC_congr (h.2.1 c hc) (fun k hk hk' => e k (by omega) (by omega)) hc, fun q hq => wfP_congr (h.2.2.1 q hq) (fun i hi => e _ (by omega) (by omega)), fun a ha => wfB_congr (h.2.2.2 a ha) (fun i hi => e _ (by omega) (by omega))⟩
theorem op_read (d i : Nat) (g : GT) (X : XS) (N T K : SS) (M : MS) (dd : AH) (h : INV i X N K M dd) : OPR d i g X N T K M dd yB_read yM_read [] := by
  have h' := h
  obtain ⟨⟨⟨nc, np, nb, n0, C0, R, W, L0, D0⟩, wo5⟩, hK, ⟨n, hn, t1, t2, t3⟩, hRw, hH, hE, hB, hM', hD⟩ := h'
  let B : Nat → Nat := fun k => (M.1 3 k).toNatClampNeg
  have tB : ∀ k, k < n → B k < 256 ∧ M.1 3 k = nI (B k) ∧ X.1 0 k = sgn (B k) := by
    intro k hk
    obtain ⟨b, hb, e1, e2⟩ := t3 k hk
    have eb : B k = b := by
      show (M.1 3 k).toNatClampNeg = b
      rw [e1, nclamp (by omega)]
    rw [eb]
    exact ⟨hb, e1, e2⟩
  have hX : tpX n B (xV X 1 0) := ⟨hn, fun k hk => ⟨(tB k hk).1, (tB k hk).2.2⟩⟩
  have hbM : tpM n B M := ⟨t2, hn, fun k hk => ⟨(tB k hk).1, (tB k hk).2.1⟩⟩
  obtain ⟨X', c, k', u', F', fw', fa', fe', c1, hc, hP, hlt, a3, a4, a5, a7, aw, aa, ae, ap, fx, fv, fo, ok⟩ := cR_reads (d + 23) (g, N, T, K, M, dd) hX
  have hT := Tm_c hP
  obtain ⟨g1, g2, g3, g4⟩ := rd_g hT 8 0 [] (by omega) rfl (Nat.le_refl _) (fun e he => by cases he)
  have x0 : X'.2.1 1 = nI 0 := by
    rw [fv 1 (by omega) (by omega) (by omega) (by omega)]
    exact xV_s _ _ _
  have xv : ∀ k, k = 0 ∨ 6 ≤ k → X'.2.1 k = X.2.1 k := fun k hk => by
    rw [fv k (by omega) (by omega) (by omega) (by omega), xV_n (by omega)]
  have xa : ∀ k, 8 ≤ k → X'.1 k = X.1 k := fun k hk => fx k (by omega)
  have xo : X'.2.2 = X.2.2 := fo
  have cB : call PGM (d + 40) yB_read [.ref 12] (heapOf g X N T K M dd) = sem PGM (d + 39) yB_read (22, [some (.ref 12), some (.int (nI n))], [.int (bI (rdP (Tm n B) c 8 0 []).1)], heapOf g X' N T K M dd) := by
    rw [kB_read, eB_read_0, t1, eB_read_10]
    show aftK _ 1 _ (call PGM (d + 39) yR_reads [.ref 14, .ref 13, .int (nI n)] (hR (g, N, T, K, M, dd) (xV X 1 0))) = _
    rw [c1, aft1]
    rfl
  cases e : (rdP (Tm n B) c 8 0 []).1 with
  | false =>
    obtain ⟨M', m1, m2, m3, m4, m5, _⟩ := cM_read (d + 21) (g, X', N, T, K, dd) hbM hP hc
    refine ⟨-100 - nI (Pp n B (rdP (Tm n B) c 8 0 []).2.1), X', N, T, K, M', dd, ?_, ?_, ?_⟩
    · have ib : inb (nI (rdP (Tm n B) c 8 0 []).2.1) 201 = true := by rw [inb_nI (by omega)]; simp; omega
      have ft : call PGM (d + 39) yR_fault [.ref 14] (heapOf g X' N T K M dd) = some (some (.int (nI (Pp n B (rdP (Tm n B) c 8 0 []).2.1))), heapOf g X' N T K M dd) := by
        show call PGM (d + 39) yR_fault [.ref 14] (hR (g, N, T, K, M, dd) X') = _
        rw [kR_fault, eR_fault_0, a3, ib, cond_true, nclamp (by omega), ap _ g1]
        rfl
      rw [cB, e, eB_read_22]
      show aftK _ 1 _ (call PGM (d + 39) yR_fault [.ref 14] (heapOf g X' N T K M dd)) = _
      rw [ft, aft1, eB_read_34]
    · rw [e] at m1
      exact m1
    · have mm : ∀ k, k ≠ 3 → k ≠ 4 → k ≠ 5 → M'.1 k = M.1 k := by
        intro k k3 k4 k5
        by_cases k0 : k = 0
        · subst k0; exact m5 e
        · exact m3 k k0 k4 k5
      exact INV_T h xa xv xo mm m4 ⟨0, by omega, x0, m2, fun k hk => by omega⟩
  | true =>
    obtain ⟨b1, b2, b3, b4⟩ := ok e
    generalize hr : rdP (Tm n B) c 8 0 [] = r at *
    have hu : u' ≤ 200 := by
      have := len_ops (allO r.2.2)
      omega
    obtain ⟨fs, l1, l2⟩ := cR_lawsRead (d + 37) (g, N, T, K, M, dd) X' a4 a5 hu
    let q := dd.length + 108
    let ee : AH := [.inr (1, [.int (nI k'), .ref (q + 1), .ref (q + 2), .ref (q + 3), .ref (q + 4)]), .inl (.int, 8, .inl (X'.1 4)), .inl (.int, 8, .inl (X'.1 5)), .inl (.int, 8, .inl (X'.1 6)), .inl (.int, u', .inl fs)]
    have l1' : call PGM (d + 39) yR_lawsRead [.ref 14] (heapOf g X' N T K M dd) = some (some (.ref q), heapOf g X' N T K M (dd ++ ee)) := l1
    have q0 : hat (dd ++ ee) dd.length = some (.inr (1, [.int (nI k'), .ref (q + 1), .ref (q + 2), .ref (q + 3), .ref (q + 4)])) := hat_ge dd ee 0
    have hq : hat (heapOf g X' (sL N q) T K M (dd ++ ee)) q = some (.inr (1, [.int (nI k'), .ref (q + 1), .ref (q + 2), .ref (q + 3), .ref (q + 4)])) := (heapOf_dd g X' (sL N q) T K M (dd ++ ee) dd.length).trans q0
    have oI : okI (heapOf g X' (sL N q) T K M (dd ++ ee)) q 1 0 = true := by unfold okI; rw [hq]; rfl
    have gI' : gI (heapOf g X' (sL N q) T K M (dd ++ ee)) q 0 = nI k' := by unfold gI; rw [hq]; rfl
    obtain ⟨M', m1, m2, m3, m4, _, m6⟩ := cM_read (d + 21) (g, X', sL N q, T, K, dd ++ ee) hbM hP hc
    rw [hr] at m1 m6
    obtain ⟨m7, m8⟩ := m6 e
    refine ⟨nI r.2.2.length, X', sL N q, T, K, M', dd ++ ee, ?_, ?_, ?_⟩
    · rw [cB, e, eB_read_22]
      show aftK _ 2 _ (call PGM (d + 39) yR_lawsRead [.ref 14] (heapOf g X' N T K M dd)) = _
      rw [l1', aft2, eB_read_47, bq9 (show 12 ≤ q by show 12 ≤ dd.length + 108; omega)]
      show sem PGM (d + 39) yB_read (50, _, [], heapOf g X' (sL N q) T K M (dd ++ ee)) = _
      rw [eB_read_50]
      show (bif okI (heapOf g X' (sL N q) T K M (dd ++ ee)) q 1 0 then some (some (Value.int (gI (heapOf g X' (sL N q) T K M (dd ++ ee)) q 0)), heapOf g X' (sL N q) T K M (dd ++ ee)) else none) = _
      rw [oI, gI', b1]
      rfl
    · rw [e] at m1
      exact m1
    · have hnp := W.1.2.1.2
      have hnb : nb ≤ 6 := W.1.2.2.1.2
      have C5 : lawC r.2.2.length (allO r.2.2).length (Cf r.2.2) fw' fa' fe' fs := lawC_of (F0 := (xV X 1 0).1 7) g2 (by omega) b4 (fun j hj => by rw [l2 j (by omega), a7, b3])
      have D5 : lawD (dd ++ ee) q r.2.2.length (Cf r.2.2) := by
        refine Or.inr ⟨dd.length, fw', fa', fe', fs, (allO r.2.2).length, rfl, ?_, ?_, ?_, ?_, ?_, C5⟩
        · rw [q0, b1]
        · rw [hat_ge dd ee 1, ← aw]; rfl
        · rw [hat_ge dd ee 2, ← aa]; rfl
        · rw [hat_ge dd ee 3, ← ae]; rfl
        · rw [hat_ge dd ee 4, ← b2]; rfl
      refine ⟨⟨iS_up (RS_8 R hnp hnb m7 q) (WF_8 W m7) m8 D5, wo5⟩, ?_, ⟨0, by omega, x0, m2, fun k hk => by omega⟩, ?_, ?_, ?_, ?_, ?_, ?_⟩
      · unfold iK
        rw [xv 0 (by omega), m4 0 (by omega), m3 1 (by omega) (by omega) (by omega)]
        rcases iK_mono hK with b | ⟨z1, z2, nc', np', nb', n', C', z3, z4, z5, z6⟩
        · exact Or.inl b
        · exact Or.inr ⟨z1, z2, nc', np', nb', n', C', z3, z4, z5, lawD_app z6⟩
      · unfold iR
        rw [xv 6 (by omega), m4 14 (by omega), xa 8 (by omega), xa 9 (by omega), xa 10 (by omega), m3 8 (by omega) (by omega) (by omega)]
        exact hRw
      · unfold iH iH1
        rw [xo, m3 9 (by omega) (by omega) (by omega), m3 10 (by omega) (by omega) (by omega), m3 11 (by omega) (by omega) (by omega)]
        refine ⟨fun k hk => ?_, hH.2⟩
        rcases hH.1 k hk with z | ⟨j, t, nn, f, z1, z2, z3, z4, z5⟩
        · exact Or.inl z
        · exact Or.inr ⟨j, t, nn, f, z1, shA_app z2, z3, z4, z5⟩
      · exact iE_keep hE (xa 14 (by omega)) (xa 15 (by omega)) (by rw [xo]) (m3 12 (by omega) (by omega) (by omega)) (m3 13 (by omega) (by omega) (by omega)) (m3 14 (by omega) (by omega) (by omega)) (fun j t nn f z => ⟨f, shA_app z⟩)
      · unfold iB
        rw [xv 8 (by omega), m4 18 (by omega), xa 16 (by omega), m3 15 (by omega) (by omega) (by omega)]
        exact hB
      · have := iM_mono hM'
        unfold iM at this ⊢
        rw [m4 8 (by omega), m4 12 (by omega), m4 10 (by omega)]
        exact this
      · obtain ⟨d1, d2⟩ := hD
        refine ⟨?_, ?_⟩
        · rw [List.length_append]
          show dd.length + 5 ≤ 5 * (i + 1)
          omega
        · rw [sl_app]
          show sl dd + (5 + (8 + (8 + (8 + (u' + 0))))) ≤ 300 * (i + 1)
          omega
