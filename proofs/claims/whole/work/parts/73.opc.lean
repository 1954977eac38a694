/-! Calls of both: TRIALS that leave nothing behind; keep, again, run. -/
theorem INV_mJ {i : Nat} {X : XS} {N K : SS} {M M' : MS} {dd : AH} (h : INV i X N K M dd) (hj : mJ M M') : INV i X N K M' dd := by
  obtain ⟨⟨a, a'⟩, b, c, e, f, g, k, l, m⟩ := h
  obtain ⟨j1, j2, j3⟩ := hj
  have m0 := j1 0 (by omega) (by omega) (by omega)
  have m1 := j1 1 (by omega) (by omega) (by omega)
  have m3 := j1 3 (by omega) (by omega) (by omega)
  have m8 := j1 8 (by omega) (by omega) (by omega)
  have m9 := j1 9 (by omega) (by omega) (by omega)
  have m10 := j1 10 (by omega) (by omega) (by omega)
  have m11 := j1 11 (by omega) (by omega) (by omega)
  have m12 := j1 12 (by omega) (by omega) (by omega)
  have m13 := j1 13 (by omega) (by omega) (by omega)
  have m14 := j1 14 (by omega) (by omega) (by omega)
  have m15 := j1 15 (by omega) (by omega) (by omega)
  have v0 := j2 0 (by omega) (by omega) (by omega) (by omega)
  have v1 := j2 1 (by omega) (by omega) (by omega) (by omega)
  have v8 := j2 8 (by omega) (by omega) (by omega) (by omega)
  have v12 := j2 12 (by omega) (by omega) (by omega) (by omega)
  have v14 := j2 14 (by omega) (by omega) (by omega) (by omega)
  have v18 := j2 18 (by omega) (by omega) (by omega) (by omega)
  refine ⟨⟨by rw [m0]; exact a, a'⟩, ?_, ?_, ?_, ?_, ?_, ?_, ?_, m⟩
  · unfold iK; rw [v0, m1]; exact b
  · unfold iT; rw [v1, m3]; exact c
  · unfold iR; rw [v14, m8]; exact e
  · unfold iH iH1; rw [m9, m10, m11]; exact f
  · unfold iE iE1; rw [m12, m13, m14]; exact g
  · unfold iB; rw [v18, m15]; exact k
  · obtain ⟨l1, l2, n, hn, l3⟩ := l
    refine ⟨v8.trans l1, v12.trans l2, ?_⟩
    rcases j3 with j3 | ⟨q, hq, j3⟩
    · exact ⟨n, hn, j3.trans l3⟩
    · exact ⟨q, by omega, j3⟩
theorem op_tr {d i : Nat} {g : GT} {X : XS} {N T K : SS} {M : MS} {dd : AH} {yb ym : Nat} {as : List Value} (r : Int32) (T' : SS) (M' : MS) (h : INV i X N K M dd) (hj : mJ M M') (h1 : call PGM (d + 40) yb (.ref 12 :: as) (heapOf g X N T K M dd) = some (some (.int r), heapOf g X N T' K M dd)) (h2 : call PGM (d + 40) ym (.ref 91 :: as) (heapOf g X N T' K M dd) = some (some (.int r), heapOf g X N T' K M' dd)) : OPR d i g X N T K M dd yb ym as :=
  ⟨r, X, N, T', K, M', dd, h1, h2, INV_mono (INV_mJ h hj)⟩
theorem go59 (d : Nat) (g : GT) (X : XS) (N : SS) {T : SS} (K : SS) (M : MS) {dd : AH} {s : Nat → Int32} {nc np nb Tk n t : Nat} {B : Nat → Nat} {C : Nat → CL} {wo : Int32} (h : RS T s np nb) (W : WF s nc np nb Tk B) (hl : lawD dd T.2.2 n C) (hm : lawM s n C) (hw : woR (T.2.1 5) wo) (ht : t ≤ 60) :
    ∃ T', call PGM (d + 7) yS_goOn [.ref 59, .int (nI t), .null] (heapOf g X N T K M dd) = some (some (.int (nI (trV nc np nb n C wo s t))), heapOf g X N T' K M dd) ∧ RS T' (trS nc np nb n C wo s t) np nb ∧ sF T T' := by
  obtain ⟨T', a, b, c⟩ := cS_goOnn d (o := 59) (Or.inr rfl) (g, X, N, K, M, dd) h W hl hm hw ht
  exact ⟨T', by rw [hT_eq, a]; rfl, b, c⟩
theorem bad_tr {d i : Nat} {g : GT} {X : XS} {N T K : SS} {M : MS} {dd : AH} {yb ym : Nat} {as : List Value} (h : INV i X N K M dd) (h1 : call PGM (d + 40) yb (.ref 12 :: as) (heapOf g X N T K M dd) = some (some (.int MO), heapOf g X N T K M dd)) (h2 : call PGM (d + 40) ym (.ref 91 :: as) (heapOf g X N T K M dd) = some (some (.int MO), heapOf g X N T K M dd)) : OPR d i g X N T K M dd yb ym as := op_ro MO h h1 h2
theorem op_harm (d i : Nat) (g : GT) (X : XS) (N T K : SS) (M : MS) (dd : AH) (h : INV i X N K M dd) (a : Int32) : OPR d i g X N T K M dd yB_harm yM_harm [.int a] := by
  have h' := h
  obtain ⟨⟨⟨nc, np, nb, n, C, R, W, L, D⟩, wo5⟩, hK, hT, ⟨r, r24, r1, r2, _⟩, hH, hE, hB, hM', hD⟩ := h'
  have hnp := W.1.2.1.2
  have hnb : nb ≤ 6 := W.1.2.2.1.2
  have hm8 : M.2 8 = MO := hM'.1
  have cB : call PGM (d + 40) yB_harm [.ref 12, .int a] (heapOf g X N T K M dd) = sem PGM (d + 39) yB_harm (4, [some (.ref 12), some (.int a)], [.int (bI (rng a 0 60))], heapOf g X N T K M dd) := by
    rw [kB_harm, eB_harm_0, isB_Tenths (d + 38), aft1]
  have cM : ∀ Z : ZT, call PGM (d + 40) yM_harm [.ref 91, .int a] (hM Z M) = sem PGM (d + 39) yM_harm (4, [some (.ref 91), some (.int a)], [.int (bI (rng a 0 60))], hM Z M) := by
    intro Z
    rw [kM_harm, eM_harm_0, cM_isLong (d + 37), aft1]
  cases hr : rng a 0 60 with
  | false =>
    refine bad_tr h ?_ ?_
    · rw [cB, hr, eB_harm_4]
      rfl
    · rw [hM_eq, cM, hr, eM_harm_4]
      rfl
  | true =>
    obtain ⟨t, _, ht, rfl⟩ := rng_t (by omega) (by omega) hr
    obtain ⟨T', c1, c2, c3⟩ := go59 (d + 32) g X N K M (wo := MO) (copS_RS T R hnp hnb) W (by rw [copS_L]; exact D) L (by rw [copS_w]; exact wo_OU) ht
    obtain ⟨M', m1, m2⟩ := cM_harmIn (d + 29) (g, X, N, T', K, dd) M nc np nb (60 * i) n t r (fun _ => 180 * i) C W L ht r24 r2
    rw [hm8] at m1
    refine op_tr (nI (trV nc np nb n C MO (M.1 0) t)) T' M' h m2 ?_ ?_
    · rw [cB, hr, eB_harm_4, cS_copy_59_43 (d + 37) g X N T K M dd (lawD_38 D), aft0, eB_harm_20, c1, aft1, eB_harm_29]
      rfl
    · rw [hM_eq, cM, hr, eM_harm_4, m1, aft1, eM_harm_12]
      rfl
theorem op_law (d i : Nat) (g : GT) (X : XS) (N T K : SS) (M : MS) (dd : AH) (h : INV i X N K M dd) (k a : Int32) : OPR d i g X N T K M dd yB_law yM_law [.int k, .int a] := by
  have h' := h
  obtain ⟨⟨⟨nc, np, nb, n, C, R, W, L, D⟩, wo5⟩, hK, hT, ⟨r, r24, r1, r2, _⟩, hH, hE, hB, hM', hD⟩ := h'
  have hnp := W.1.2.1.2
  have hnb : nb ≤ 6 := W.1.2.2.1.2
  have hm8 : M.2 8 = MO := hM'.1
  have n8 := L.1
  obtain ⟨q1, q2⟩ := lawAt_N g X T K M D
  have cB : call PGM (d + 40) yB_law [.ref 12, .int k, .int a] (heapOf g X N T K M dd) = bif hasB k n then sem PGM (d + 39) yB_law (22, [some (.ref 12), some (.int k), some (.int a), none], [.int (bI (rng a 0 60))], heapOf g X N T K M dd) else some (some (.int MO), heapOf g X N T K M dd) := by
    rw [kB_law, eB_law_0, q1, q2, isB_Tenths (d + 38), aft1, hasB, le_not_lt]
    cases decide (k < 0) <;> cases decide (k < nI n) <;> rfl
  have cM : ∀ Z : ZT, call PGM (d + 40) yM_law [.ref 91, .int k, .int a] (hM Z M) = bif hasB k n then sem PGM (d + 39) yM_law (23, [some (.ref 91), some (.int k), some (.int a), none, none], [.int (bI (rng a 0 60))], hM Z M) else some (some (.int MO), hM Z M) := by
    intro Z
    rw [kM_law, eM_law_0, L.2.1, show (0 : Int64) = (0 : Int32).toInt64 from rfl, cM_inI (d + 38), in_has k (by omega), aft1, eM_law_16, bI_0, cM_isLong (d + 37), aft1]
    cases hasB k n <;> rfl
  cases hk : hasB k n with
  | false =>
    refine bad_tr h ?_ ?_
    · rw [cB, hk]
      rfl
    · rw [hM_eq, cM, hk]
      rfl
  | true =>
    obtain ⟨j, hj, rfl⟩ := has_t (by omega) hk
    cases hr : rng a 0 60 with
    | false =>
      refine bad_tr h ?_ ?_
      · rw [cB, hk, hr, cond_true, eB_law_22]
        rfl
      · rw [hM_eq, cM, hk, hr, cond_true, eM_law_23]
        rfl
    | true =>
      obtain ⟨t, _, ht, rfl⟩ := rng_t (by omega) (by omega) hr
      obtain ⟨T1, c1, c2, c3⟩ := go59 (d + 32) g X N K M (wo := MO) (copS_RS T R hnp hnb) W (by rw [copS_L]; exact D) L (by rw [copS_w]; exact wo_OU) ht
      have R2 : RS (sV (copS N T1) 5 (nI j)) (M.1 0) np nb := by
        obtain ⟨hV, hr⟩ := copS_RS T1 R hnp hnb
        exact ⟨fun k hk => by rw [sV_n (by omega)]; exact hV k hk, hr⟩
      obtain ⟨T2, d1, d2, d3⟩ := go59 (d + 32) g X N K M (wo := nI j) R2 W (by rw [sV_L, copS_L]; exact D) L (by rw [sV_s]; exact fun _ _ => rfl) ht
      obtain ⟨M1, m1, m2⟩ := cM_harmIn (d + 29) (g, X, N, T2, K, dd) M nc np nb (60 * i) n t r (fun _ => 180 * i) C W L ht r24 r2
      rw [hm8] at m1
      have z0 : M1.1 0 = M.1 0 := m2.1 0 (by omega) (by omega) (by omega)
      have z14 : M1.2 14 = nI r := (m2.2.1 14 (by omega) (by omega) (by omega) (by omega)).trans r2
      obtain ⟨M2, n1, n2⟩ := cM_harmIn (d + 29) (g, X, N, T2, K, dd) (mV M1 8 (nI j)) nc np nb (60 * i) n t r (fun _ => 180 * i) C (by rw [mV_1, z0]; exact W) (by rw [mV_1, z0]; exact L) ht r24 (by rw [mV_n (by omega)]; exact z14)
      rw [mV_s, mV_1, z0] at n1
      refine op_tr (nI (trV nc np nb n C (nI j) (M.1 0) t) - nI (trV nc np nb n C MO (M.1 0) t) + 1000) T2 (mV M2 8 MO) h ?_ ?_ ?_
      · refine ⟨fun k h2 h6 h7 => ?_, fun k h9 h10 h11 h13 => ?_, ?_⟩
        · rw [mV_1, n2.1 k h2 h6 h7, mV_1, m2.1 k h2 h6 h7]
        · by_cases e : k = 8
          · subst e
            rw [mV_s, hm8]
          · rw [mV_n e, n2.2.1 k h9 h10 h11 h13, mV_n e, m2.2.1 k h9 h10 h11 h13]
        · rw [mV_n (by omega)]
          rcases n2.2.2 with e | e
          · rw [e, mV_n (by omega)]
            exact m2.2.2
          · exact Or.inr e
      · rw [cB, hk, hr, cond_true, eB_law_22, cS_copy_59_43 (d + 37) g X N T K M dd (lawD_38 D), aft0, eB_law_38, c1, aft1, eB_law_47, cS_copy_59_43 (d + 37) g X N T1 K M dd (lawD_38 D), aft0, eB_law_59, eB_law_67, d1, aft1, eB_law_76]
        rfl
      · rw [hM_eq, cM, hk, hr, cond_true, eM_law_23, m1, aft1, eM_law_33, n1, aft1, eM_law_44]
        rfl
theorem op_run (d i : Nat) (g : GT) (X : XS) (N T K : SS) (M : MS) (dd : AH) (h : INV i X N K M dd) (a : Int32) : OPR d i g X N T K M dd yB_run yM_run [.int a] := by
  have h' := h
  obtain ⟨⟨⟨nc, np, nb, n, C, R, W, L, D⟩, wo5⟩, hK, hT, ⟨r, r24, r1, r2, hrr⟩, hH, hE, hB, hM', hD⟩ := h'
  have hnp := W.1.2.1.2
  have hnb : nb ≤ 6 := W.1.2.2.1.2
  have hm8 : M.2 8 = MO := hM'.1
  have cB : call PGM (d + 40) yB_run [.ref 12, .int a] (heapOf g X N T K M dd) = sem PGM (d + 39) yB_run (4, [some (.ref 12), some (.int a)], [.int (bI (rng a 0 60))], heapOf g X N T K M dd) := by
    rw [kB_run, eB_run_0, isB_Tenths (d + 38), aft1]
  have cM : ∀ Z : ZT, call PGM (d + 40) yM_run [.ref 91, .int a] (hM Z M) = sem PGM (d + 39) yM_run (9, [some (.ref 91), some (.int a)], [.int (bI (rng a 0 60))], hM Z (mV M 9 0)) := by
    intro Z
    rw [kM_run, eM_run_0, cM_isLong (d + 37), aft1]
  have hj9 : mJ M (mV M 9 0) := ⟨fun k _ _ _ => rfl, fun k h9 _ _ _ => mV_n h9, Or.inl (mV_n (by omega))⟩
  cases hr : rng a 0 60 with
  | false =>
    refine op_tr MO T (mV M 9 0) h hj9 ?_ ?_
    · rw [cB, hr, eB_run_4]
      rfl
    · rw [hM_eq, cM, hr, eM_run_9]
      rfl
  | true =>
    obtain ⟨t, _, ht, rfl⟩ := rng_t (by omega) (by omega) hr
    obtain ⟨N', c1, c2, c3⟩ := cS_goOnn (d + 32) (o := 43) (Or.inl rfl) (g, X, T, K, M, dd) (wo := MO) R W D L (by rw [wo5]; exact wo_OU) ht
    obtain ⟨q, m1⟩ := cM_trial (d + 30) (g, X, N', T, K, dd) (mV M 9 0) nc np nb (60 * i) n t 0 r (fun _ => 180 * i) C W L ht (by omega) rfl r24 r2
    have e8 : (mV M 9 0).2 8 = MO := hm8
    rw [e8, mV_1] at m1
    refine ⟨nI (trV nc np nb n C MO (M.1 0) t), X, N', T, K, mQ (trM nc np nb n C MO (M.1 0) (mV M 9 0) t) q (trS nc np nb n C MO (M.1 0) t), dd, ?_, ?_, ?_⟩
    · rw [cB, hr, eB_run_4, hN_eq, c1, aft1, ← hN_eq, eB_run_18]
      rfl
    · rw [hM_eq, cM, hr, eM_run_9, m1, aft1, eM_run_17]
      rfl
    · have hJ : mJ M (mQ (trM nc np nb n C MO (M.1 0) (mV M 9 0) t) q (M.1 0)) := by
        refine ⟨fun k h2 h6 h7 => ?_, fun k h9 h10 h11 h13 => ?_, ?_⟩
        · by_cases hk : k = 0
          · subst hk; rw [mQ_0]
          · rw [mQ_n hk h6, trM_1 h7, mV_1]
        · rw [mQ_2, trM_2 h10 h11 h13, mV_n h9]
        · exact Or.inr ⟨_, trN_b hnp ht, by rw [mQ_2, trM_10]⟩
      obtain ⟨⟨_, _⟩, b, c, e, f, gg, k, l, m⟩ := INV_mono (INV_mJ h hJ)
      have W' := WF_trS (n := n) (C := C) (wo := MO) W t
      refine ⟨⟨⟨nc, np, nb, n, C, by rw [mQ_0]; exact c2, by rw [mQ_0]; exact WF_mono W' (by omega) (fun p _ => by show 180 * i + 3 * t ≤ 180 * (i + 1); omega), by rw [mQ_0]; exact lawM_congr L (trS_fr hnp hnb (by omega) t) (fun j hj => trS_fr hnp hnb (by omega) t), by rw [c3.2]; exact D⟩, by rw [c3.1]; exact wo5⟩, ?_, c, e, f, gg, k, l, m⟩
      exact b
theorem op_keep (d i : Nat) (g : GT) (X : XS) (N T K : SS) (M : MS) (dd : AH) (h : INV i X N K M dd) : OPR d i g X N T K M dd yB_keep yM_keep [] := by
  have h' := h
  obtain ⟨⟨⟨nc, np, nb, n, C, R, W, L, D⟩, wo5⟩, hK, hT, hR', hH, hE, hB, hM', hD⟩ := h'
  have hnp := W.1.2.1.2
  have hnb : nb ≤ 6 := W.1.2.2.1.2
  refine ⟨1, xV X 0 1, N, T, copS N K, mV (mA M 1 (cpy 437 (M.1 0) (M.1 1))) 0 1, dd, ?_, ?_, ?_⟩
  · rw [kB_keep, eB_keep_0, cS_copy_75_43 (d + 37) g X N T K M dd (lawD_38 D), aft0, eB_keep_11]
  · rw [hM_eq, cM_keep (d + 39)]
    rfl
  · obtain ⟨a, b, c, e, f, gg, k, l, m⟩ := INV_mono h
    have es : ∀ j, j < 437 → cpy 437 (M.1 0) (M.1 1) j = M.1 0 j := fun j hj => cpy_lt hj
    refine ⟨a, Or.inr ⟨rfl, rfl, nc, np, nb, n, C, ?_, ?_, ?_, ?_⟩, c, e, f, gg, k, l, m⟩
    · exact RS_congr (copS_RS K R hnp hnb) hnp hnb (fun j hj => es j (by omega))
    · have W2 := WF_mono W (show 60 * i ≤ 60 * (i + 1) by omega) (B' := fun _ => 180 * (i + 1)) (fun _ _ => by show 180 * i ≤ 180 * (i + 1); omega)
      exact ⟨wfH_congr W2.1 (fun j hj _ => es j (by omega)), fun c hc => wfC_congr (W2.2.1 c hc) (fun j _ hj => es j (by omega)) hc, fun p hp => wfP_congr (W2.2.2.1 p hp) (fun j hj => es _ (by omega)), fun b hb => wfB_congr (W2.2.2.2 b hb) (fun j hj => es _ (by omega))⟩
    · refine ⟨L.1, (es 8 (by omega)).trans L.2.1, fun k hk => ?_⟩
      have h8 := L.1
      obtain ⟨a1, a2, a3, a4, a5, a6, a7, a8, a9, a10⟩ := L.2.2 k hk
      refine ⟨a1, a2, ?_, ?_, ?_, ?_, ?_, a8, fun j hj => ?_, a10⟩
      · exact (es _ (by omega)).trans a3
      · exact (es _ (by omega)).trans a4
      · exact (es _ (by omega)).trans a5
      · exact (es _ (by omega)).trans a6
      · exact (es _ (by omega)).trans a7
      · exact (es _ (by omega)).trans (a9 j hj)
    · rw [copS_L]; exact D
theorem op_again (d i : Nat) (g : GT) (X : XS) (N T K : SS) (M : MS) (dd : AH) (h : INV i X N K M dd) : OPR d i g X N T K M dd yB_again yM_again [] := by
  have h' := h
  obtain ⟨_, hK, _⟩ := h'
  rcases hK with ⟨k1, k2⟩ | ⟨k1, k2, nc, np, nb, n, C, R, W, L, D⟩
  · refine op_ro (-3) h ?_ ?_
    · rw [kB_again, eB_again_0, k1]
      rfl
    · rw [hM_eq, cM_again0 (d + 39) _ M k2]
  · have hnp := W.1.2.1.2
    have hnb : nb ≤ 6 := W.1.2.2.1.2
    refine ⟨1, X, copS K N, T, K, mA M 0 (cpy 437 (M.1 1) (M.1 0)), dd, ?_, ?_, ?_⟩
    · rw [kB_again, eB_again_0, k1, cS_copy_43_75 (d + 37) g X N T K M dd (lawD_38 D), aft0, eB_again_21]
      rfl
    · rw [hM_eq, cM_again (d + 39) _ M k2]
      rfl
    · obtain ⟨a, b, c, e, f, gg, k, l, m⟩ := INV_mono h
      have es : ∀ j, j < 437 → cpy 437 (M.1 1) (M.1 0) j = M.1 1 j := fun j hj => cpy_lt hj
      refine ⟨⟨⟨nc, np, nb, n, C, ?_, ?_, ?_, ?_⟩, copS_w K N⟩, b, c, e, f, gg, k, l, m⟩
      · exact RS_congr (copS_RS N R hnp hnb) hnp hnb (fun j hj => es j (by omega))
      · have W2 := WF_mono W (show 60 * i ≤ 60 * (i + 1) by omega) (B' := fun _ => 180 * (i + 1)) (fun _ _ => by show 180 * i ≤ 180 * (i + 1); omega)
        exact ⟨wfH_congr W2.1 (fun j hj _ => es j (by omega)), fun c hc => wfC_congr (W2.2.1 c hc) (fun j _ hj => es j (by omega)) hc, fun p hp => wfP_congr (W2.2.2.1 p hp) (fun j hj => es _ (by omega)), fun b hb => wfB_congr (W2.2.2.2 b hb) (fun j hj => es _ (by omega))⟩
      · refine ⟨L.1, (es 8 (by omega)).trans L.2.1, fun k hk => ?_⟩
        have h8 := L.1
        obtain ⟨a1, a2, a3, a4, a5, a6, a7, a8, a9, a10⟩ := L.2.2 k hk
        refine ⟨a1, a2, ?_, ?_, ?_, ?_, ?_, a8, fun j hj => ?_, a10⟩
        · exact (es _ (by omega)).trans a3
        · exact (es _ (by omega)).trans a4
        · exact (es _ (by omega)).trans a5
        · exact (es _ (by omega)).trans a6
        · exact (es _ (by omega)).trans a7
        · exact (es _ (by omega)).trans (a9 j hj)
      · rw [copS_L]; exact D
