/-! What the class read: LAWS made anew. -/
theorem bq9 {q : Nat} (h : 12 ≤ q) : Nat.beq q 9 = false := by
  cases e : Nat.beq q 9 with
  | false => rfl
  | true =>
    have := Nat.eq_of_beq_eq_true e
    omega
theorem cL_init (d : Nat) (A R : AH) (hA : 12 ≤ A.length) (i1 : Int32) {r2 r3 r4 r5 : Nat} (h2 : 12 ≤ r2) (h3 : 12 ≤ r3) (h4 : 12 ≤ r4) (h5 : 12 ≤ r5) : call PGM (d + 1) yL_init [.ref A.length, .int i1, .ref r2, .ref r3, .ref r4, .ref r5] (A ++ objOf dfls 1 :: R) = some (none, A ++ (.inr (1, [.int i1, .ref r2, .ref r3, .ref r4, .ref r5]) : AC) :: R) := by
  have k1 : call PGM (d + 1) yL_init [.ref A.length, .int i1, .ref r2, .ref r3, .ref r4, .ref r5] (A ++ objOf dfls 1 :: R) = sem PGM d yL_init (0, [some (.ref A.length), some (.int i1), some (.ref r2), some (.ref r3), some (.ref r4), some (.ref r5)], [], A ++ objOf dfls 1 :: R) := rfl
  have ob : objOf dfls 1 = .inr (1, [.int 0, .null, .null, .null, .null]) := rfl
  rw [k1, eL_init_0, Nat.ble_eq_true_of_le hA, ob, okP_at A R 1 _ 0 hA, pF_at, eL_init_9]
  show (bif true && true then bif Nat.blt 0 5 then bif okP (A ++ (.inr (1, [Value.int i1, Value.null, Value.null, Value.null, Value.null]) : AC) :: R) A.length 1 1 && !(Nat.beq r2 9) then sem PGM d yL_init (14, _, [], pF (A ++ (.inr (1, [Value.int i1, Value.null, Value.null, Value.null, Value.null]) : AC) :: R) A.length 1 (.ref r2)) else none else none else none) = _
  rw [okP_at A R 1 _ 1 hA, pF_at, bq9 h2, eL_init_14]
  show (bif true && true then bif Nat.blt 0 5 then bif Nat.blt 1 5 && true then bif okP (A ++ (.inr (1, [Value.int i1, Value.ref r2, Value.null, Value.null, Value.null]) : AC) :: R) A.length 1 2 && !(Nat.beq r3 9) then sem PGM d yL_init (19, _, [], pF (A ++ (.inr (1, [Value.int i1, Value.ref r2, Value.null, Value.null, Value.null]) : AC) :: R) A.length 2 (.ref r3)) else none else none else none else none) = _
  rw [okP_at A R 1 _ 2 hA, pF_at, bq9 h3, eL_init_19]
  show (bif true && true then bif Nat.blt 0 5 then bif Nat.blt 1 5 && true then bif Nat.blt 2 5 && true then bif okP (A ++ (.inr (1, [Value.int i1, Value.ref r2, Value.ref r3, Value.null, Value.null]) : AC) :: R) A.length 1 3 && !(Nat.beq r4 9) then sem PGM d yL_init (25, _, [], pF (A ++ (.inr (1, [Value.int i1, Value.ref r2, Value.ref r3, Value.null, Value.null]) : AC) :: R) A.length 3 (.ref r4)) else none else none else none else none else none) = _
  rw [okP_at A R 1 _ 3 hA, pF_at, bq9 h4, eL_init_25]
  show (bif true && true then bif Nat.blt 0 5 then bif Nat.blt 1 5 && true then bif Nat.blt 2 5 && true then bif Nat.blt 3 5 && true then bif okP (A ++ (.inr (1, [Value.int i1, Value.ref r2, Value.ref r3, Value.ref r4, Value.null]) : AC) :: R) A.length 1 4 && !(Nat.beq r5 9) then some (none, pF (A ++ (.inr (1, [Value.int i1, Value.ref r2, Value.ref r3, Value.ref r4, Value.null]) : AC) :: R) A.length 4 (.ref r5)) else none else none else none else none else none else none) = _
  rw [okP_at A R 1 _ 4 hA, pF_at, bq9 h5]
  rfl
def Zd (Z : WT) (ee : AH) : WT := (Z.1, Z.2.1, Z.2.2.1, Z.2.2.2.1, Z.2.2.2.2.1, Z.2.2.2.2.2 ++ ee)
theorem hR_app (Z : WT) (X : XS) (ee : AH) : hR Z X ++ ee = hR (Zd Z ee) X := heapOf_app _ _ _ _ _ _ _ _
theorem Zd_Zd (Z : WT) (e f : AH) : Zd (Zd Z e) f = Zd Z (e ++ f) := by
  unfold Zd
  simp only [List.append_assoc]
theorem hR_len (Z : WT) (X : XS) : (hR Z X).length = Z.2.2.2.2.2.length + 108 := heapOf_len _ _ _ _ _ _ _
theorem hR_dd (Z : WT) (X : XS) (j : Nat) : hat (hR Z X) (j + 108) = hat Z.2.2.2.2.2 j := heapOf_dd _ _ _ _ _ _ _ _
set_option maxRecDepth 100000 in
theorem hR_18 (Z : WT) (X : XS) : hat (hR Z X) 18 = some (.inl (.int, 8, .inl (X.1 4))) := id rfl
set_option maxRecDepth 100000 in
theorem hR_19 (Z : WT) (X : XS) : hat (hR Z X) 19 = some (.inl (.int, 8, .inl (X.1 5))) := id rfl
set_option maxRecDepth 100000 in
theorem hR_20 (Z : WT) (X : XS) : hat (hR Z X) 20 = some (.inl (.int, 8, .inl (X.1 6))) := id rfl
set_option maxRecDepth 100000 in
theorem hR_21 (Z : WT) (X : XS) : hat (hR Z X) 21 = some (.inl (.int, 200, .inl (X.1 7))) := id rfl
theorem isI_at {h : AH} {a m : Nat} {f : Nat → Int32} (e : hat h a = some (.inl (.int, m, .inl f))) : isI h a = true := by unfold isI; rw [e]
theorem cloA_at {h : AH} {a : Nat} {x : AC} (e : hat h a = some x) : cloA h a = h ++ [x] := by unfold cloA; rw [e]
theorem Zd_dd (Z : WT) (ee : AH) : (Zd Z ee).2.2.2.2.2 = Z.2.2.2.2.2 ++ ee := rfl
theorem hR_z (Z : WT) (X : XS) (ee : AH) (j : Nat) : hat (hR (Zd Z ee) X) (Z.2.2.2.2.2.length + 108 + j) = hat ee j := by
  rw [show Z.2.2.2.2.2.length + 108 + j = (Z.2.2.2.2.2.length + j) + 108 by omega, hR_dd, Zd_dd, hat_ge]
theorem hR_zl (Z : WT) (X : XS) (ee : AH) : (hR (Zd Z ee) X).length = Z.2.2.2.2.2.length + 108 + ee.length := by
  rw [hR_len, Zd_dd, List.length_append]
  omega
/-- the row of steps, as long as it need be -/
theorem cJ_copyOf (d : Nat) (Z : WT) (X : XS) {u : Nat} (hu : u ≤ 200) : ∃ fs, call PGM (d + 1) yJ_Arrays_copyOf [.ref 21, .int (nI u)] (hR Z X) = some (some (.ref (hR Z X).length), hR Z X ++ [.inl (.int, u, .inl fs)]) ∧ ∀ j, j < u → fs j = X.1 7 j := by
  have k1 : call PGM (d + 1) yJ_Arrays_copyOf [.ref 21, .int (nI u)] (hR Z X) = sem PGM d yJ_Arrays_copyOf (0, [some (.ref 21), some (.int (nI u)), none], [], hR Z X) := rfl
  have ln := hR_len Z X
  have b12 : Nat.ble 12 (hR Z X).length = true := Nat.ble_eq_true_of_le (by omega)
  have n9 := bq9 (q := (hR Z X).length) (by omega)
  by_cases e : u = 200
  · subst e
    refine ⟨X.1 7, ?_, fun _ _ => rfl⟩
    have i21 := isI_at (hR_21 Z X)
    have c21 := cloA_at (hR_21 Z X)
    have il : isI (hR Z X ++ [.inl (.int, 200, .inl (X.1 7))]) (hR Z X).length = true := isI_at (by rw [hat_len]; rfl)
    have z : decide (nI 200 = nI 200) = true := by decide
    rw [k1, eJ_Arrays_copyOf_0, z, i21, c21, il, b12, n9]
    rfl
  · have z : decide (nI u = nI 200) = false := by rw [deq (by omega) (by omega)]; simp [e]
    have sm : small (nI u) = true := by
      unfold small
      rw [show (0 : Int32) = nI 0 from rfl, show (100000 : Int32) = nI 100000 from rfl, dle (by omega) (by omega), dle (by omega) (by omega)]
      simp
      omega
    have mn : (if nI u < nI 200 then nI u else nI 200) = nI u := if_pos ((nI_ltI (by omega) (by omega)).mpr (by omega))
    refine ⟨va_cpy (X.1 7) (fun _ => 0) 0 0 u, ?_, fun j hj => cpy0 _ _ _ hj⟩
    rw [k1, eJ_Arrays_copyOf_0, z, sm]
    show sem PGM d yJ_Arrays_copyOf (17, _, [.ref (hR Z X).length], hR Z X ++ [.inl (.int, (nI u).toNatClampNeg, .inl (fun _ => 0))]) = _
    rw [nclamp (by omega), hR_app, eJ_Arrays_copyOf_17, mn]
    have h21 : hat (hR (Zd Z [.inl (.int, u, .inl (fun _ => 0))]) X) 21 = some (.inl (.int, 200, .inl (X.1 7))) := hR_21 _ X
    have hq : hat (hR (Zd Z [.inl (.int, u, .inl (fun _ => 0))]) X) (hR Z X).length = some (.inl (.int, u, .inl (fun _ => 0))) := by
      rw [ln]
      exact hR_z Z X _ 0
    have ok : okCop (hR (Zd Z [.inl (.int, u, .inl (fun _ => 0))]) X) 21 (hR Z X).length 0 0 (nI u) = true := by
      unfold okCop
      rw [h21, hq]
      have a1 : decide ((0 : Int32) ≤ nI u) = true := by rw [l0, dle (by omega) (by omega)]; simp
      have a2 : decide ((0 : Int32).toNatClampNeg + (nI u).toNatClampNeg ≤ 200) = true := by rw [nclamp (by omega), show (0 : Int32).toNatClampNeg = 0 from rfl]; simp; omega
      have a3 : decide ((0 : Int32).toNatClampNeg + (nI u).toNatClampNeg ≤ u) = true := by rw [nclamp (by omega), show (0 : Int32).toNatClampNeg = 0 from rfl]; simp
      show (Nat.ble 12 (hR Z X).length && decide ((0 : Int32) ≤ 0) && decide ((0 : Int32) ≤ 0) && decide ((0 : Int32) ≤ nI u) && decide ((0 : Int32).toNatClampNeg + (nI u).toNatClampNeg ≤ 200) && decide ((0 : Int32).toNatClampNeg + (nI u).toNatClampNeg ≤ u)) = true
      rw [b12, a1, a2, a3]
      rfl
    have cp : copA (hR (Zd Z [.inl (.int, u, .inl (fun _ => 0))]) X) 21 (hR Z X).length 0 0 (nI u) = hR Z X ++ [.inl (.int, u, .inl (va_cpy (X.1 7) (fun _ => 0) 0 0 u))] := by
      unfold copA
      rw [h21, hq]
      show (hR (Zd Z [.inl (.int, u, .inl (fun _ => 0))]) X).set (hR Z X).length (.inl (.int, u, .inl (va_cpy (X.1 7) (fun _ => 0) (0 : Int32).toNatClampNeg (0 : Int32).toNatClampNeg (nI u).toNatClampNeg))) = _
      rw [← hR_app, nclamp (by omega), List.set_append_right _ _ (Nat.le_refl _), Nat.sub_self]
      rfl
    rw [ok, cp, n9]
    rfl
theorem cR_lawsRead (d : Nat) (Z : WT) (X : XS) {k u : Nat} (h4 : X.2.1 4 = nI k) (h5 : X.2.1 5 = nI u) (hu : u ≤ 200) : ∃ fs, call PGM (d + 2) yR_lawsRead [.ref 14] (hR Z X) = some (some (.ref (Z.2.2.2.2.2.length + 108)), hR (Zd Z [.inr (1, [.int (nI k), .ref (Z.2.2.2.2.2.length + 108 + 1), .ref (Z.2.2.2.2.2.length + 108 + 2), .ref (Z.2.2.2.2.2.length + 108 + 3), .ref (Z.2.2.2.2.2.length + 108 + 4)]), .inl (.int, 8, .inl (X.1 4)), .inl (.int, 8, .inl (X.1 5)), .inl (.int, 8, .inl (X.1 6)), .inl (.int, u, .inl fs)]) X) ∧ ∀ j, j < u → fs j = X.1 7 j := by
  let q := Z.2.2.2.2.2.length + 108
  let e1 : AH := [objOf dfls 1]
  let e2 : AH := [objOf dfls 1, .inl (.int, 8, .inl (X.1 4))]
  let e3 : AH := [objOf dfls 1, .inl (.int, 8, .inl (X.1 4)), .inl (.int, 8, .inl (X.1 5))]
  let e4 : AH := [objOf dfls 1, .inl (.int, 8, .inl (X.1 4)), .inl (.int, 8, .inl (X.1 5)), .inl (.int, 8, .inl (X.1 6))]
  obtain ⟨fs, c1, c2⟩ := cJ_copyOf d (Zd Z e4) X hu
  refine ⟨fs, ?_, c2⟩
  have bl : ∀ j, Nat.ble 12 (q + j) = true := fun j => Nat.ble_eq_true_of_le (by show 12 ≤ Z.2.2.2.2.2.length + 108 + j; omega)
  have s0 : hR Z X ++ [objOf dfls 1] = hR (Zd Z e1) X := hR_app _ _ _
  have s1 : cloA (hR (Zd Z e1) X) 18 = hR (Zd Z e2) X := by rw [cloA_at (hR_18 _ X), hR_app, Zd_Zd]; rfl
  have s2 : cloA (hR (Zd Z e2) X) 19 = hR (Zd Z e3) X := by rw [cloA_at (hR_19 _ X), hR_app, Zd_Zd]; rfl
  have s3 : cloA (hR (Zd Z e3) X) 20 = hR (Zd Z e4) X := by rw [cloA_at (hR_20 _ X), hR_app, Zd_Zd]; rfl
  have n0 : (hR Z X).length = q := hR_len Z X
  have n1 : (hR (Zd Z e1) X).length = q + 1 := hR_zl Z X e1
  have n2 : (hR (Zd Z e2) X).length = q + 2 := hR_zl Z X e2
  have n3 : (hR (Zd Z e3) X).length = q + 3 := hR_zl Z X e3
  have n4 : (hR (Zd Z e4) X).length = q + 4 := hR_zl Z X e4
  have i1 : isI (hR (Zd Z e2) X) (q + 1) = true := isI_at (hR_z Z X e2 1)
  have i2 : isI (hR (Zd Z e3) X) (q + 2) = true := isI_at (hR_z Z X e3 2)
  have i3 : isI (hR (Zd Z e4) X) (q + 3) = true := isI_at (hR_z Z X e4 3)
  have k1 : call PGM (d + 2) yR_lawsRead [.ref 14] (hR Z X) = sem PGM (d + 1) yR_lawsRead (0, [some (.ref 14)], [], hR Z X) := rfl
  rw [n4] at c1
  have b12 : ∀ a, 12 ≤ a → Nat.ble 12 a = true := fun a h => Nat.ble_eq_true_of_le h
  rw [k1, eR_lawsRead_0, s0, n0, eR_lawsRead_3, isI_at (hR_18 _ X), b12 18 (by omega), s1, n1, h4]
  show (bif true then sem PGM (d + 1) yR_lawsRead (15, _, _, hR (Zd Z e2) X) else none) = _
  rw [cond_true, eR_lawsRead_15, i1, bl 1, isI_at (hR_19 _ X), b12 19 (by omega), s2, n2]
  show (bif true then bif true then sem PGM (d + 1) yR_lawsRead (25, _, _, hR (Zd Z e3) X) else none else none) = _
  rw [cond_true, cond_true, eR_lawsRead_25, i2, bl 2, isI_at (hR_20 _ X), b12 20 (by omega), s3, n3]
  show (bif true then bif true then sem PGM (d + 1) yR_lawsRead (35, _, _, hR (Zd Z e4) X) else none else none) = _
  rw [cond_true, cond_true, eR_lawsRead_35, i3, bl 3, h5, c1]
  let R : AH := [.inl (.int, 8, .inl (X.1 4)), .inl (.int, 8, .inl (X.1 5)), .inl (.int, 8, .inl (X.1 6)), .inl (.int, u, .inl fs)]
  have q12 : ∀ j, 12 ≤ q + j := fun j => by show 12 ≤ Z.2.2.2.2.2.length + 108 + j; omega
  have ci := cL_init d (hR Z X) R (by rw [n0]; exact q12 0) (nI k) (q12 1) (q12 2) (q12 3) (q12 4)
  rw [n0, hR_app, hR_app] at ci
  show (bif true && true then aftK (sem PGM (d + 1) yR_lawsRead) 2 (49, _, [.ref (q + 3), .ref (q + 2), .ref (q + 1), .int (nI k), .ref q, .ref q], hR (Zd Z e4) X) (some (some (.ref (q + 4)), hR (Zd Z e4) X ++ [.inl (.int, u, .inl fs)])) else none) = _
  rw [aft2, hR_app, Zd_Zd]
  show sem PGM (d + 1) yR_lawsRead (49, _, [.ref (q + 4), .ref (q + 3), .ref (q + 2), .ref (q + 1), .int (nI k), .ref q, .ref q], hR (Zd Z (objOf dfls 1 :: R)) X) = _
  rw [eR_lawsRead_49, bl 0, ci]
  show aftK (sem PGM (d + 1) yR_lawsRead) 0 (52, _, [.ref q], _) (some (none, _)) = _
  rw [aft0, eR_lawsRead_52, bq9 (q12 0)]
  rfl
