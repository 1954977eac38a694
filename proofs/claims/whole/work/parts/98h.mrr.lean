/-! What the model read: LAWS in its row. -/
def Cf (L : List CE) (j : Nat) : CL := ((L.getD j ce0).1, (L.getD j ce0).2.1, (L.getD j ce0).2.2.1, opsN (allO (L.take j)), (L.getD j ce0).2.2.2)
theorem wrL_lo : ∀ (l : List Int32) (G : Nat → Int32) (s j : Nat), j < s → wrL G s l j = G j
  | [], G, s, j, h => rfl
  | x :: l, G, s, j, h => by
    show wrL (upd G s x) (s + 1) l j = _
    rw [wrL_lo l _ (s + 1) j (by omega), upd_ne (by omega)]
theorem wrL_get : ∀ (l : List Int32) (G : Nat → Int32) (s i : Nat), i < l.length → wrL G s l (s + i) = l.getD i 0
  | [], G, s, i, h => by cases h
  | x :: l, G, s, 0, h => by
    show wrL (upd G s x) (s + 1) l s = x
    rw [wrL_lo l _ (s + 1) s (by omega), upd_eq]
  | x :: l, G, s, i + 1, h => by
    show wrL (upd G s x) (s + 1) l (s + (i + 1)) = l.getD i 0
    rw [show s + (i + 1) = s + 1 + i by omega]
    exact wrL_get l _ (s + 1) i (by simpa using h)
theorem wrO_lo : ∀ (l : List Op) (F : Nat → Int32) (u j : Nat), j < u → wrO F u l j = F j
  | [], F, u, j, h => rfl
  | x :: l, F, u, j, h => by
    show wrO (upd F u (opC x)) (u + 1) l j = _
    rw [wrO_lo l _ (u + 1) j (by omega), upd_ne (by omega)]
theorem wrO_get : ∀ (l : List Op) (F : Nat → Int32) (u i : Nat) (x : Op), l[i]? = some x → wrO F u l (u + i) = opC x
  | [], F, u, i, x, h => by cases h
  | y :: l, F, u, 0, x, h => by
    have e : y = x := by simpa using h
    show wrO (upd F u (opC y)) (u + 1) l u = opC x
    rw [wrO_lo l _ (u + 1) u (by omega), upd_eq, e]
  | y :: l, F, u, i + 1, x, h => by
    show wrO (upd F u (opC y)) (u + 1) l (u + (i + 1)) = opC x
    rw [show u + (i + 1) = u + 1 + i by omega]
    exact wrO_get l _ (u + 1) i x (by simpa using h)
/-- one CLAUSE amid all -/
theorem spl (L : List CE) (k : Nat) (hk : k < L.length) : L.take (k + 1) = L.take k ++ [L.getD k ce0] ∧ ∃ R, L = L.take k ++ [L.getD k ce0] ++ R := by
  have e : L.getD k ce0 = L[k] := by rw [List.getD_eq_getElem?_getD, List.getElem?_eq_getElem hk]; rfl
  have t : L.take (k + 1) = L.take k ++ [L.getD k ce0] := by rw [e]; exact (List.take_append_getElem hk).symm
  exact ⟨t, L.drop (k + 1), by rw [← t, List.take_append_drop]⟩
theorem allO_spl (L : List CE) (k : Nat) (hk : k < L.length) : allO (L.take (k + 1)) = allO (L.take k) ++ (L.getD k ce0).2.2.2 ∧ ∃ R, allO L = allO (L.take k) ++ (L.getD k ce0).2.2.2 ++ R := by
  obtain ⟨h1, R, h2⟩ := spl L k hk
  refine ⟨by rw [h1, allO_app, allO_1], allO R, ?_⟩
  have := congrArg allO h2
  rw [allO_app, allO_app, allO_1] at this
  exact this
theorem lawM_of {s : Nat → Int32} {L : List CE} {H G0 : Nat → Int32} (h8 : L.length ≤ 8) (h200 : opsN (allO L) ≤ 200) (hk : ∀ e ∈ L, okC' e) (hM : MI H L) (s8 : s 8 = nI L.length) (s197 : ∀ j, 197 ≤ j → j < 237 → s j = if j - 197 < 5 * L.length then H (j - 197) else 0) (s237 : ∀ j, 237 ≤ j → j < 437 → s j = if j - 237 < opsN (allO L) then wrL G0 0 (opsM (allO L)) (j - 237) else 0) : lawM s L.length (Cf L) := by
  refine ⟨h8, s8, fun k hk' => ?_⟩
  obtain ⟨m0, m1, m2, m3, m4⟩ := hM k hk'
  have hm : L.getD k ce0 ∈ L := by
    rw [List.getD_eq_getElem?_getD, List.getElem?_eq_getElem hk']
    exact List.getElem_mem hk'
  obtain ⟨o1, o2, o3, o4⟩ := hk _ hm
  obtain ⟨t1, R, t2⟩ := allO_spl L k hk'
  have e1 : opsN (allO (L.take (k + 1))) = opsN (allO (L.take k)) + (opsM (L.getD k ce0).2.2.2).length := by rw [t1, opsN_app]; rfl
  have e2 : opsN (allO (L.take k)) + (opsM (L.getD k ce0).2.2.2).length ≤ opsN (allO L) := by
    rw [t2, opsN_app, opsN_app]
    unfold opsN
    omega
  have g : ∀ i, i < 5 → s (197 + 5 * k + i) = H (5 * k + i) := by
    intro i hi
    rw [s197 _ (by omega) (by omega), show 197 + 5 * k + i - 197 = 5 * k + i by omega, if_pos (by omega)]
  refine ⟨o1, o2, ?_, ?_, ?_, ?_, ?_, ?_, ?_, o3, o4⟩
  · exact (g 0 (by omega)).trans m0
  · exact (g 1 (by omega)).trans m1
  · exact (g 2 (by omega)).trans m2
  · exact (g 3 (by omega)).trans m3
  · rw [g 4 (by omega), m4, e1]
    rfl
  · show opsN (allO (L.take k)) + (opsM (L.getD k ce0).2.2.2).length ≤ 200
    omega
  · intro j hj
    have hj' : j < (opsM (L.getD k ce0).2.2.2).length := hj
    show s (237 + opsN (allO (L.take k)) + j) = (opsM (L.getD k ce0).2.2.2).getD j 0
    rw [s237 _ (by omega) (by omega), if_pos (by omega), show 237 + opsN (allO (L.take k)) + j - 237 = 0 + (opsN (allO (L.take k)) + j) by omega]
    have lt : opsN (allO (L.take k)) + j < (opsM (allO L)).length := by
      have : (opsM (allO L)).length = opsN (allO L) := rfl
      omega
    rw [wrL_get _ _ _ _ lt]
    clear hj o3 o4 e1 e2 t1 lt
    generalize (L.getD k ce0).2.2.2 = ops at hj' t2 ⊢
    rw [t2, opsM_app, opsM_app, List.getD_eq_getElem?_getD, List.getD_eq_getElem?_getD, List.append_assoc, List.getElem?_append_right (by show (opsM (allO (L.take k))).length ≤ _; unfold opsN; omega)]
    rw [show opsN (allO (L.take k)) + j - (opsM (allO (L.take k))).length = j by unfold opsN; omega, List.getElem?_append_left hj']
theorem stt_of (L : List CE) : ∀ k, k ≤ L.length → stt (Cf L) k = (allO (L.take k)).length
  | 0, _ => rfl
  | k + 1, h => by
    rw [stt, stt_of L k (by omega), (allO_spl L k (by omega)).1, List.length_append]
    rfl
theorem lawC_of {L : List CE} {fw fa fe fs F0 : Nat → Int32} (h8 : L.length ≤ 8) (h200 : opsN (allO L) ≤ 200) (hC : CI fw fa fe L) (hs : ∀ j, j < (allO L).length → fs j = wrO F0 0 (allO L) j) : lawC L.length (allO L).length (Cf L) fw fa fe fs := by
  have ll := len_ops (allO L)
  refine ⟨h8, by omega, ?_, fun k hk => ?_⟩
  · rw [stt_of L _ (Nat.le_refl _), List.take_of_length_le (Nat.le_refl _)]
    exact Nat.le_refl _
  · obtain ⟨c1, c2, c3⟩ := hC k hk
    obtain ⟨t1, R, t2⟩ := allO_spl L k hk
    refine ⟨c1, c2, by rw [stt_of L _ (by omega)]; exact c3, fun i x hx => ?_⟩
    have hx' : (L.getD k ce0).2.2.2[i]? = some x := hx
    have hi : i < (L.getD k ce0).2.2.2.length := by
      rcases Nat.lt_or_ge i (L.getD k ce0).2.2.2.length with h | h
      · exact h
      · rw [List.getElem?_eq_none h] at hx'; cases hx'
    rw [stt_of L k (by omega)]
    have lt : (allO (L.take k)).length + i < (allO L).length := by
      rw [t2, List.length_append, List.length_append]
      omega
    rw [hs _ lt, show (allO (L.take k)).length + i = 0 + ((allO (L.take k)).length + i) by omega]
    refine wrO_get _ _ _ _ x ?_
    rw [t2, List.append_assoc, List.getElem?_append_right (by omega), Nat.add_sub_cancel_left, List.getElem?_append_left hi]
    exact hx'
theorem cM_read (D : Nat) (Z : ZT) {M : MS} {n c : Nat} {B : Nat → Nat} (hb : tpM n B M) (hP : Pp n B c = n) (hc : c ≤ 200) : ∃ M', call PGM (D + 19) yM_read [.ref 91] (hM Z M) = some (some (.int (bif (rdP (Tm n B) c 8 0 []).1 then nI (rdP (Tm n B) c 8 0 []).2.2.length else -100 - nI (Pp n B (rdP (Tm n B) c 8 0 []).2.1))), hM Z M') ∧ M'.2 1 = nI 0 ∧ (∀ k, k ≠ 0 → k ≠ 4 → k ≠ 5 → M'.1 k = M.1 k) ∧ (∀ k, (k = 0 ∨ 8 ≤ k) → M'.2 k = M.2 k) ∧ ((rdP (Tm n B) c 8 0 []).1 = false → M'.1 0 = M.1 0) ∧ ((rdP (Tm n B) c 8 0 []).1 = true → (∀ j, j < 197 → j ≠ 8 → M'.1 0 j = M.1 0 j) ∧ lawM (M'.1 0) (rdP (Tm n B) c 8 0 []).2.2.length (Cf (rdP (Tm n B) c 8 0 []).2.2)) := by
  have hE := Tm_c hP
  have hn := hb.2.1
  let M1 := mV (mV (mV (mV (mV M 3 0) 4 0) 5 0) 6 0) 7 0
  have t1 : tpM n B M1 := tpM_V (tpM_V (tpM_V (tpM_V (tpM_V hb (by omega) _) (by omega) _) (by omega) _) (by omega) _) (by omega) _
  have e3 : M1.2 3 = nI 0 := by
    show (mV _ 7 0).2 3 = _
    rw [mV_n (by omega), mV_n (by omega), mV_n (by omega), mV_n (by omega), mV_s]
    rfl
  let M2 := mV (mV M1 2 (nI (Pp n B 0))) 3 (nI (Ee n B 0))
  have y0 : YM n B M M2 0 (opsN (allO [])) ([] : List CE).length false (M.1 4) (M.1 5) := by
    refine ⟨?_, mV_s _ _ _, ?_, ?_, ?_, ?_, rfl, rfl, fun j j2 j3 j4 j5 j6 j7 => ?_, fun _ _ _ => rfl⟩
    · show (mV (mV M1 2 _) 3 _).2 2 = _
      rw [mV_n (by omega), mV_s]
    · show (mV (mV M1 2 _) 3 _).2 4 = _
      rw [mV_n (by omega), mV_n (by omega)]
      show (mV (mV (mV (mV (mV M 3 0) 4 0) 5 0) 6 0) 7 0).2 4 = _
      rw [mV_n (by omega), mV_n (by omega), mV_n (by omega), mV_s]
      rfl
    · show (mV (mV M1 2 _) 3 _).2 5 = _
      rw [mV_n (by omega), mV_n (by omega)]
      show (mV (mV (mV (mV (mV M 3 0) 4 0) 5 0) 6 0) 7 0).2 5 = _
      rw [mV_n (by omega), mV_n (by omega), mV_s]
      rfl
    · show (mV (mV M1 2 _) 3 _).2 6 = _
      rw [mV_n (by omega), mV_n (by omega)]
      show (mV (mV (mV (mV (mV M 3 0) 4 0) 5 0) 6 0) 7 0).2 6 = _
      rw [mV_n (by omega), mV_s]
      rfl
    · show (mV (mV M1 2 _) 3 _).2 7 = _
      rw [mV_n (by omega), mV_n (by omega)]
      exact mV_s _ _ _
    · show (mV (mV M1 2 _) 3 _).2 j = _
      rw [mV_n j3, mV_n j2]
      show (mV (mV (mV (mV (mV M 3 0) 4 0) 5 0) 6 0) 7 0).2 j = _
      rw [mV_n j7, mV_n j6, mV_n j5, mV_n j4, mV_n j3]
  obtain ⟨M3, s', k', G', H', q1, q2, q3⟩ := cM_readL D Z hb hP hc (M.1 4) none 8 M2 0 (M.1 4) (M.1 5) [] y0 (by omega) rfl (Nat.le_refl _) rfl (fun j hj => by cases hj)
  obtain ⟨g1, g2, g3, g4⟩ := rd_g hE 8 0 [] (by omega) rfl (Nat.le_refl _) (fun e he => by cases he)
  have run : call PGM (D + 19) yM_read [.ref 91] (hM Z M) = sem PGM (D + 18) yM_read (59, [some (.ref 91), none], [], hM Z (mV M3 1 0)) := by
    rw [kM_read, eM_read_0, eM_read_5, eM_read_10, eM_read_15, eM_read_20]
    show aftK _ 0 _ (call PGM (D + 18) yM_next [.ref 91] (hM Z M1)) = _
    rw [cM_next (D + 15) Z t1 (Nat.zero_le n) e3, aft0]
    exact q1
  have fr1 : ∀ k, k ≠ 4 → k ≠ 5 → (mV M3 1 0).1 k = M.1 k := fun k h4 h5 => q2.2.2.2.2.2.2.2.2.2 k h4 h5
  have fr2 : ∀ k, (k = 0 ∨ 8 ≤ k) → (mV M3 1 0).2 k = M.2 k := fun k hk => by
    rw [mV_n (by omega)]
    exact q2.2.2.2.2.2.2.2.2.1 k (by omega) (by omega) (by omega) (by omega) (by omega) (by omega)
  have w7 : (mV M3 1 0).2 7 = bI (!(rdP (Tm n B) c 8 0 []).1) := by rw [mV_n (by omega)]; exact q2.2.2.2.2.2.1
  have w2 : (mV M3 1 0).2 2 = nI (Pp n B (rdP (Tm n B) c 8 0 []).2.1) := by rw [mV_n (by omega)]; exact q2.1
  have w6 : (mV M3 1 0).2 6 = nI k' := by rw [mV_n (by omega)]; exact q2.2.2.2.2.1
  have w5 : (mV M3 1 0).2 5 = nI s' := by rw [mV_n (by omega)]; exact q2.2.2.2.1
  have a4 : (mV M3 1 0).1 4 = G' := q2.2.2.2.2.2.2.1
  have a5 : (mV M3 1 0).1 5 = H' := q2.2.2.2.2.2.2.2.1
  have v1 : (mV M3 1 0).2 1 = nI 0 := mV_s _ _ _
  generalize mV M3 1 0 = Q at run fr1 fr2 w7 w2 w6 w5 a4 a5 v1
  generalize rdP (Tm n B) c 8 0 [] = r at q3 g1 g2 g3 g4 w7 w2
  rw [run, eM_read_59, w7]
  cases e : r.1 with
  | false =>
    refine ⟨Q, ?_, v1, fun k _ h4 h5 => fr1 k h4 h5, fr2, fun _ => fr1 0 (by omega) (by omega), fun z => by cases z⟩
    rw [w2]
    rfl
  | true =>
    obtain ⟨b1, b2, b3, b4⟩ := q3 e
    obtain ⟨f1, r1, x1, x2⟩ := layC (D + 18) Z (M := Q) (k := k') (H := H') (by omega) w6 a5 (upd (Q.1 0) 8 (nI k')) 40 0 rfl (upd (Q.1 0) 8 (nI k')) (fun _ _ => rfl)
    obtain ⟨f2, r2, x3, x4⟩ := layG (D + 18) Z (M := Q) (k := k') (st := s') (G := G') (by omega) w5 w6 a4 f1 200 0 rfl f1 (fun _ _ => rfl)
    have lo : ∀ j, j < 197 → f2 j = upd (Q.1 0) 8 (nI k') j := fun j hj => (x3 j (by omega)).trans (x1 j (by omega))
    refine ⟨mA Q 0 f2, ?_, v1, fun k h0 h4 h5 => by rw [mA_n h0]; exact fr1 k h4 h5, fr2, (fun z => by cases z), fun _ => ?_⟩
    · show sem PGM (D + 18) yM_read (85, _, [], hM Z (mA Q 0 (upd (Q.1 0) 8 (Q.2 6)))) = some (some (.int (nI r.2.2.length)), _)
      rw [w6, eM_read_85, ← b1]
      exact r1.trans r2
    · rw [mA_s]
      refine ⟨fun j hj h8 => by rw [lo j hj, upd_ne h8, fr1 0 (by omega) (by omega)], ?_⟩
      refine lawM_of (H := H') (G0 := M.1 4) g2 (by omega) g4 b4 (by rw [lo 8 (by omega), upd_eq, b1]) (fun j h1 h2 => ?_) (fun j h1 h2 => ?_)
      · rw [x3 j (by omega), x2 j (by omega) h2, b1]
      · rw [x4 j (by omega) h2, b2, b3]
