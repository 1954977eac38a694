/-! Constructor of Rows, over any heap. -/
set_option maxRecDepth 100000 in
theorem eW_init_0 (d : Nat) (h : AH) (r0 : Nat) : sem PGM d yW_init (0, [some (.ref r0)], [], h) =
    bif Nat.ble 12 r0 && true then (bif small 3 && small 24 then sem PGM d yW_init (12, [some (.ref r0)], [.ref (List.length h), .ref r0], (h ++ gridC (List.length h) (3 : Int32).toNatClampNeg (24 : Int32).toNatClampNeg))
    else none) else none := (ev_eq PGM d yW_init [12] 400 _).trans rfl
set_option maxRecDepth 100000 in
theorem eW_init_12 (d : Nat) (h : AH) (u0 : Option Value) (q0 : Nat) (q1 : Nat) : sem PGM d yW_init (12, [u0], [.ref q1, .ref q0], h) =
    bif okP h q0 3 1 && !(Nat.beq q1 9) then some (none, (pF h q0 1 (.ref q1)))
    else none := (ev_eq PGM d yW_init [12] 400 _).trans rfl

theorem cW_init (d : Nat) (A : AH) (hA : 12 ≤ A.length) : call PGM (d + 1) yW_init [.ref A.length] (A ++ [objOf dfls 3]) = some (none, A ++ (.inr (3, [.int 0, .ref (A.length + 1)]) : AC) :: gridC (A.length + 1) 3 24) := by
  have k1 : call PGM (d + 1) yW_init [.ref A.length] (A ++ [objOf dfls 3]) = sem PGM d yW_init (0, [some (.ref A.length)], [], A ++ [objOf dfls 3]) := rfl
  have ob : objOf dfls 3 = .inr (3, [.int 0, .null]) := rfl
  have s3 : small 3 = true := sm_n (n := 3) (by omega)
  have s24 : small 24 = true := sm_n (n := 24) (by omega)
  have cat : ∀ (x : AC) (R : AH), (A ++ [x]) ++ R = A ++ x :: R := fun x R => by simp
  rw [k1, eW_init_0, Nat.ble_eq_true_of_le hA, ob, s3, s24, cat, arr_l, eW_init_12, okP_t _ _ _ _ _ hA rfl, pF_at, bq9 (by omega)]
  rfl
