/-! lay over a street that was just made; the constructor of Street to its end. -/
set_option maxRecDepth 100000 in
theorem eSh_lay_25 (d : Nat) (h : AH) (q : Nat) (ls : LV) (i2 : Int32) : sem PGM d yS_lay (25, ls, [.int i2, .ref q], h) = act (stpAald 26 ls [.int i2, .ref q] h) (call PGM d) (aftK (sem PGM d yS_lay)) (sem PGM d yS_lay) := (sem_eq PGM d yS_lay _).trans rfl
theorem lay_row (d : Nat) (h : AH) (q : Nat) (hq : 12 ≤ q) (ls : LV) {w : Nat} (hw : w < 3) (e : hat h q = some (.inl (.array .int, refs 3 (fun i => if i < 3 then some (q + 1 + i) else none)))) : sem PGM d yS_lay (25, ls, [.int (nI w), .ref q], h) = sem PGM d yS_lay (26, ls, [.ref (q + 1 + w)], h) := by
  have g : isG h q = true := by unfold isG; rw [e]; rfl
  have ln : lenA h q = 3 := by unfold lenA; rw [e]; rfl
  have r : ∀ k, k < 3 → rO h q k = some (q + 1 + k) := fun k hk => by
    unfold rO
    rw [e]
    show (if k < 3 then some (q + 1 + k) else none) = _
    rw [if_pos hk]
  have b : ∀ a, 12 ≤ a → Nat.ble 12 a = true := fun a h => Nat.ble_eq_true_of_le h
  rw [eSh_lay_25]
  have e1 : stpAald 26 ls [.int (nI w), .ref q] h = .inl (grd h q (nI w) 26 ls [] 3, none) := by
    unfold stpAald
    show (bif isG h q && Nat.ble 12 q then _ else _) = _
    rw [g, b q hq, ln]
    rfl
  rw [e1]
  show pick (grd h q (nI w) 26 ls [] 3) none (sem PGM d yS_lay) = _
  have e2 : w = 0 ∨ w = 1 ∨ w = 2 := by omega
  simp only [grd, List.nil_append, List.cons_append, r 0 (by omega), r 1 (by omega), r 2 (by omega), Option.isSome_some, Option.getD_some, b (q + 1 + 0) (by omega), b (q + 1 + 1) (by omega), b (q + 1 + 2) (by omega)]
  rcases e2 with e2 | e2 | e2 <;> subst e2 <;> rfl
theorem laH_step (d : Nat) (A : AH) (hA : 12 ≤ A.length) (h3 : hat A 3 = some (.inl (.int, 3, .inl (gvA 3)))) (S : SS) (n : Int32) {w c : Nat} (hw : w < 3) (hc : c < 30) : sem PGM d yS_lay (14, [some (.ref A.length), some (.int n), some (.int (nI w)), some (.int (nI c))], [], A ++ blkS A.length S) = sem PGM d yS_lay (14, [some (.ref A.length), some (.int n), some (.int (nI w)), some (.int (nI (c + 1)))], [], A ++ blkS A.length (sA S w (upd (S.1 w) c (gvA 3 w)))) := by
  have oN : okN (A ++ blkS A.length S) A.length 5 1 = false := by unfold okN; rw [hat_len]; rfl
  have oR : okR (A ++ blkS A.length S) A.length 5 1 = true := by unfold okR; rw [hat_len]; rfl
  have gR' : gR (A ++ blkS A.length S) A.length 1 = A.length + 1 := by unfold gR; rw [hat_len]; rfl
  have hr : hat (A ++ blkS A.length S) (A.length + 1) = some (.inl (.array .int, refs 3 (fun i => if i < 3 then some (A.length + 1 + 1 + i) else none))) := hat_ge A _ 1
  have i3 : inA (A ++ blkS A.length S) 3 0 (nI w) = true := by
    unfold inA
    rw [hat_app h3]
    show (true && inb (nI w) 3) = true
    rw [inb_nI (by omega), decide_eq_true hw]
    rfl
  have r3 : rA (A ++ blkS A.length S) 3 (nI w) = gvA 3 w := by
    unfold rA
    rw [hat_app h3]
    show gvA 3 (nI w).toNatClampNeg = _
    rw [nclamp (by omega)]
  have ib : inb (nI c) 30 = true := by rw [inb_nI (by omega), decide_eq_true hc]
  have iq : inA (A ++ blkS A.length S) (A.length + 1 + 1 + w) 0 (nI c) = true ∧ wA (A ++ blkS A.length S) (A.length + 1 + 1 + w) (nI c) (gvA 3 w) = A ++ blkS A.length (sA S w (upd (S.1 w) c (gvA 3 w))) := by
    have e2 : w = 0 ∨ w = 1 ∨ w = 2 := by omega
    have wr : ∀ k f v, hat (blkS A.length S) k = some (.inl (.int, 30, .inl f)) → inA (A ++ blkS A.length S) (A.length + k) 0 (nI c) = true ∧ wA (A ++ blkS A.length S) (A.length + k) (nI c) v = A ++ (blkS A.length S).set k (.inl (.int, 30, .inl (upd f c v))) := fun k f v hk => by
      rw [inA_g A _ k (nI c) hk, wA_g A _ k (nI c) v hk, nclamp (by omega)]
      exact ⟨ib, rfl⟩
    rcases e2 with e2 | e2 | e2 <;> subst e2
    · exact wr 2 (S.1 0) _ rfl
    · exact wr 3 (S.1 1) _ rfl
    · exact wr 4 (S.1 2) _ rfl
  have bl : Nat.ble 12 (A.length + 1 + 1 + w) = true := Nat.ble_eq_true_of_le (by omega)
  have d3 : decide ((30 : Int32) ≤ nI c) = false := by
    rw [l30, dle (by omega) (by omega)]
    exact decide_eq_false (by omega)
  rw [eSh_lay_14, d3, oN, oR, gR', cond_false, cond_false, cond_true, lay_row d _ (A.length + 1) (by omega) _ hw hr, eSh_lay_26, i3, r3, bl, iq.1, iq.2]
  simp only [cond_true, Bool.and_self]
  rw [eSh_lay_33, nI_1]
theorem laH_in (d : Nat) (A : AH) (hA : 12 ≤ A.length) (h3 : hat A 3 = some (.inl (.int, 3, .inl (gvA 3)))) (S : SS) (n : Int32) (w : Nat) (hw : w < 3) : ∀ k c, c + k = 30 → sem PGM d yS_lay (14, [some (.ref A.length), some (.int n), some (.int (nI w)), some (.int (nI c))], [], A ++ blkS A.length (sA S w (flF (S.1 w) (gvA 3 w) c))) = sem PGM d yS_lay (7, [some (.ref A.length), some (.int n), some (.int (nI (w + 1))), some (.int (nI 30))], [], A ++ blkS A.length (sA S w (flF (S.1 w) (gvA 3 w) 30))) := by
  intro k
  induction k with
  | zero =>
    intro c hc
    have ec : c = 30 := by omega
    subst ec
    have d3 : decide ((30 : Int32) ≤ nI 30) = true := by decide
    rw [eSh_lay_14, d3, cond_true, nI_1]
  | succ k ih =>
    intro c hc
    have ih' := ih (c + 1) (by omega)
    rw [← flF_s] at ih'
    rw [laH_step d A hA h3 _ n hw (by omega), sA_s, sA_sA]
    exact ih'
theorem cSh_lay (d : Nat) (A : AH) (hA : 12 ≤ A.length) (h3 : hat A 3 = some (.inl (.int, 3, .inl (gvA 3)))) (S : SS) (n : Int32) (e1 : S.2.1 1 = 0) (e2 : S.2.1 2 = 0) : call PGM (d + 1) yS_lay [.ref A.length, .int n] (A ++ blkS A.length S) = some (none, A ++ blkS A.length (lay1 S n)) := by
  have k1 : call PGM (d + 1) yS_lay [.ref A.length, .int n] (A ++ blkS A.length S) = sem PGM d yS_lay (0, [some (.ref A.length), some (.int n), none, none], [], A ++ blkS A.length S) := rfl
  have p0 : okP (A ++ blkS A.length S) A.length 5 0 = true := okP_t A _ 5 _ 0 hA rfl
  have p1 : pF (A ++ blkS A.length S) A.length 0 (.int n) = A ++ blkS A.length (sV S 0 n) := (pF_at A _ 5 _ 0 (.int n)).trans rfl
  rw [k1, eSh_lay_0, p0, p1, cond_true, eSh_lay_5, eSh_lay_7]
  have z0 : decide ((2 : Int32) < 0) = false := by decide
  have i0 := laH_in d A hA h3 (sV S 0 n) n 0 (by omega) 30 0 (by omega)
  rw [flF_0, sA_id] at i0
  have i0' : sem PGM d yS_lay (14, [some (.ref A.length), some (.int n), some (.int 0), some (.int 0)], [], A ++ blkS A.length (sV S 0 n)) = _ := i0
  rw [z0, cond_false, i0', eSh_lay_7]
  have z1 : decide ((2 : Int32) < nI (0 + 1)) = false := by decide
  have i1 := laH_in d A hA h3 (sA (sV S 0 n) 0 (flF ((sV S 0 n).1 0) (gvA 3 0) 30)) n 1 (by omega) 30 0 (by omega)
  rw [flF_0, sA_id] at i1
  have i1' : sem PGM d yS_lay (14, [some (.ref A.length), some (.int n), some (.int (nI (0 + 1))), some (.int 0)], [], A ++ blkS A.length (sA (sV S 0 n) 0 (flF ((sV S 0 n).1 0) (gvA 3 0) 30))) = _ := i1
  rw [z1, cond_false, i1', eSh_lay_7]
  have z2 : decide ((2 : Int32) < nI (1 + 1)) = false := by decide
  have i2 := laH_in d A hA h3 (sA (sA (sV S 0 n) 0 (flF ((sV S 0 n).1 0) (gvA 3 0) 30)) 1 (flF ((sA (sV S 0 n) 0 (flF ((sV S 0 n).1 0) (gvA 3 0) 30)).1 1) (gvA 3 1) 30)) n 2 (by omega) 30 0 (by omega)
  rw [flF_0, sA_id] at i2
  have i2' : sem PGM d yS_lay (14, [some (.ref A.length), some (.int n), some (.int (nI (1 + 1))), some (.int 0)], [], A ++ blkS A.length (sA (sA (sV S 0 n) 0 (flF ((sV S 0 n).1 0) (gvA 3 0) 30)) 1 (flF ((sA (sV S 0 n) 0 (flF ((sV S 0 n).1 0) (gvA 3 0) 30)).1 1) (gvA 3 1) 30))) = _ := i2
  rw [z2, cond_false, i2', eSh_lay_7]
  have z3 : decide ((2 : Int32) < nI (2 + 1)) = true := by decide
  rw [z3, cond_true]
  have g1 : gI (A ++ blkS A.length (lay1 S n)) A.length 4 = 0 := by unfold gI; rw [hat_len]; exact e1
  have g2 : gI (A ++ blkS A.length (lay1 S n)) A.length 9 = 0 := by unfold gI; rw [hat_len]; exact e2
  have o1 : okI (A ++ blkS A.length (lay1 S n)) A.length 5 4 = true := by unfold okI; rw [hat_len]; rfl
  have o2 : okI (A ++ blkS A.length (lay1 S n)) A.length 5 9 = true := by unfold okI; rw [hat_len]; rfl
  have zz : decide ((0 : Int32) ≤ 0) = true := by decide
  show sem PGM d yS_lay (47, [some (.ref A.length), some (.int n), some (.int 0), some (.int (nI 30))], [], A ++ blkS A.length (lay1 S n)) = _
  rw [eSh_lay_47, o1, g1, zz, cond_true, cond_true, eSh_lay_80, o2, g2, zz, cond_true, cond_true]
/-- a street as it is made, before lay -/
def stNw (r : Nat) : SS := ((fun k => bif Nat.beq k 12 then va_cpy (gvA 6) (fun _ => 0) 0 0 3 else fun _ => 0), (fun k => bif Nat.beq k 4 then 1 else bif Nat.beq k 5 then -9 else 0), r)
theorem cS_init (d : Nat) (A : AH) (hA : 12 ≤ A.length) (h3 : hat A 3 = some (.inl (.int, 3, .inl (gvA 3)))) (h6 : hat A 6 = some (.inl (.int, 3, .inl (gvA 6)))) {r1 : Nat} (h1 : 12 ≤ r1) : call PGM (d + 2) yS_init [.ref A.length, .ref r1] (A ++ [objOf dfls 5]) = some (none, A ++ blkS A.length (lay1 (stNw r1) 10)) := by
  rw [cS_init121 (d + 1) A hA h6 h1, cS_init144 (d + 1) A _ _ h6 hA rfl rfl rfl]
  have c0 := cSh_lay d A hA h3 (stNw r1) 10 rfl rfl
  show aftK (sem PGM (d + 1) yS_init) 0 (144, [some (.ref A.length), some (.ref r1)], [], A ++ blkS A.length (stNw r1)) (call PGM (d + 1) yS_lay [.ref A.length, .int 10] (A ++ blkS A.length (stNw r1))) = _
  rw [c0, aft0, eS_init_144]
