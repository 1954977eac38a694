/-! Constructor of Street: rules copied; then lay. -/
theorem cS_init144 (d : Nat) (A R R' : AH) {f6 g : Nat → Int32} (h6 : hat A 6 = some (.inl (.int, 3, .inl f6))) {fs : List Value} (hA : 12 ≤ A.length) (e0 : R = (.inr (5, fs) : AC) :: R') (e13 : fget fs 13 = some (.ref (A.length + 14))) (e14 : hat R 14 = some (.inl (.int, 3, .inl g))) (u1 : Option Value) : sem PGM d yS_init (121, [some (.ref A.length), u1], [], A ++ R) = aftK (sem PGM d yS_init) 0 (144, [some (.ref A.length), u1], [], A ++ R.set 14 (.inl (.int, 3, .inl (va_cpy f6 g 0 0 3)))) (call PGM d yS_lay [.ref A.length, .int 10] (A ++ R.set 14 (.inl (.int, 3, .inl (va_cpy f6 g 0 0 3))))) := by
  have h0 : hat (A ++ R) A.length = some (.inr (5, fs)) := by rw [hat_len, e0]; rfl
  have h14 : hat (A ++ R) (A.length + 14) = some (.inl (.int, 3, .inl g)) := by rw [hat_ge, e14]
  have oN : okN (A ++ R) A.length 5 13 = false := by unfold okN; rw [h0]; simp [e13]
  have oR : okR (A ++ R) A.length 5 13 = true := by unfold okR; rw [h0]; simp [e13]
  have gR' : gR (A ++ R) A.length 13 = A.length + 14 := by unfold gR; rw [h0]; simp [e13]
  have oL : okL (A ++ R) (A.length + 14) = true := by unfold okL; rw [h14]
  have lA : lenA (A ++ R) (A.length + 14) = 3 := by unfold lenA; rw [h14]
  have h6' : hat (A ++ R) 6 = some (.inl (.int, 3, .inl f6)) := hat_app h6
  have oC : okCop (A ++ R) 6 (A.length + 14) 0 0 (nI 3) = true := by
    unfold okCop
    rw [h6', h14]
    have b : Nat.ble 12 (A.length + 14) = true := Nat.ble_eq_true_of_le (by omega)
    show (Nat.ble 12 (A.length + 14) && decide ((0 : Int32) ≤ 0) && decide ((0 : Int32) ≤ 0) && decide ((0 : Int32) ≤ nI 3) && decide ((0 : Int32).toNatClampNeg + (nI 3).toNatClampNeg ≤ 3) && decide ((0 : Int32).toNatClampNeg + (nI 3).toNatClampNeg ≤ 3)) = true
    rw [b]
    rfl
  have cA : copA (A ++ R) 6 (A.length + 14) 0 0 (nI 3) = A ++ R.set 14 (.inl (.int, 3, .inl (va_cpy f6 g 0 0 3))) := by
    unfold copA
    rw [h6', h14]
    exact set_g A R 14 _
  have k0 : okC (A ++ R.set 14 (.inl (.int, 3, .inl (va_cpy f6 g 0 0 3)))) A.length 5 = true := by
    unfold okC
    rw [hat_len, e0]
    rfl
  rw [eS_init_121, oN, oR, gR', oL, lA, oC, cA, k0]
  rfl
