/-! Constructors of Reader, Bodies, over any heap. -/
set_option maxRecDepth 100000 in
theorem eR_init_0 (d : Nat) (h : AH) (r0 : Nat) : sem PGM d yR_init (0, [some (.ref r0)], [], h) =
    bif Nat.ble 12 r0 && true then (bif small 201 then sem PGM d yR_init (10, [some (.ref r0)], [.ref (List.length h), .ref r0], (h ++ [.inl (tyN 0, ints ((201 : Int32).toNatClampNeg))]))
    else none) else none := (ev_eq PGM d yR_init [10, 13, 19, 22, 28, 31, 36, 39, 44, 47, 52, 55, 61] 400 _).trans rfl
set_option maxRecDepth 100000 in
theorem eR_init_10 (d : Nat) (h : AH) (r0 : Nat) (q0 : Nat) (q1 : Nat) : sem PGM d yR_init (10, [some (.ref r0)], [.ref q1, .ref q0], h) =
    bif okP h q0 2 0 && !(Nat.beq q1 9) then sem PGM d yR_init (13, [some (.ref r0)], [], (pF h q0 0 (.ref q1)))
    else none := (ev_eq PGM d yR_init [10, 13, 19, 22, 28, 31, 36, 39, 44, 47, 52, 55, 61] 400 _).trans rfl
set_option maxRecDepth 100000 in
theorem eR_init_13 (d : Nat) (h : AH) (r0 : Nat) : sem PGM d yR_init (13, [some (.ref r0)], [], h) =
    bif small 201 then sem PGM d yR_init (19, [some (.ref r0)], [.ref (List.length h), .ref r0], (h ++ [.inl (tyN 0, ints ((201 : Int32).toNatClampNeg))]))
    else none := (ev_eq PGM d yR_init [10, 13, 19, 22, 28, 31, 36, 39, 44, 47, 52, 55, 61] 400 _).trans rfl
set_option maxRecDepth 100000 in
theorem eR_init_19 (d : Nat) (h : AH) (r0 : Nat) (q0 : Nat) (q1 : Nat) : sem PGM d yR_init (19, [some (.ref r0)], [.ref q1, .ref q0], h) =
    bif okP h q0 2 1 && !(Nat.beq q1 9) then sem PGM d yR_init (22, [some (.ref r0)], [], (pF h q0 1 (.ref q1)))
    else none := (ev_eq PGM d yR_init [10, 13, 19, 22, 28, 31, 36, 39, 44, 47, 52, 55, 61] 400 _).trans rfl
set_option maxRecDepth 100000 in
theorem eR_init_22 (d : Nat) (h : AH) (r0 : Nat) : sem PGM d yR_init (22, [some (.ref r0)], [], h) =
    bif small 201 then sem PGM d yR_init (28, [some (.ref r0)], [.ref (List.length h), .ref r0], (h ++ [.inl (tyN 0, ints ((201 : Int32).toNatClampNeg))]))
    else none := (ev_eq PGM d yR_init [10, 13, 19, 22, 28, 31, 36, 39, 44, 47, 52, 55, 61] 400 _).trans rfl
set_option maxRecDepth 100000 in
theorem eR_init_28 (d : Nat) (h : AH) (r0 : Nat) (q0 : Nat) (q1 : Nat) : sem PGM d yR_init (28, [some (.ref r0)], [.ref q1, .ref q0], h) =
    bif okP h q0 2 2 && !(Nat.beq q1 9) then sem PGM d yR_init (31, [some (.ref r0)], [], (pF h q0 2 (.ref q1)))
    else none := (ev_eq PGM d yR_init [10, 13, 19, 22, 28, 31, 36, 39, 44, 47, 52, 55, 61] 400 _).trans rfl
set_option maxRecDepth 100000 in
theorem eR_init_31 (d : Nat) (h : AH) (r0 : Nat) : sem PGM d yR_init (31, [some (.ref r0)], [], h) =
    bif small 8 then sem PGM d yR_init (36, [some (.ref r0)], [.ref (List.length h), .ref r0], (h ++ [.inl (tyN 0, ints ((8 : Int32).toNatClampNeg))]))
    else none := (ev_eq PGM d yR_init [10, 13, 19, 22, 28, 31, 36, 39, 44, 47, 52, 55, 61] 400 _).trans rfl
set_option maxRecDepth 100000 in
theorem eR_init_36 (d : Nat) (h : AH) (r0 : Nat) (q0 : Nat) (q1 : Nat) : sem PGM d yR_init (36, [some (.ref r0)], [.ref q1, .ref q0], h) =
    bif okP h q0 2 5 && !(Nat.beq q1 9) then sem PGM d yR_init (39, [some (.ref r0)], [], (pF h q0 5 (.ref q1)))
    else none := (ev_eq PGM d yR_init [10, 13, 19, 22, 28, 31, 36, 39, 44, 47, 52, 55, 61] 400 _).trans rfl
set_option maxRecDepth 100000 in
theorem eR_init_39 (d : Nat) (h : AH) (r0 : Nat) : sem PGM d yR_init (39, [some (.ref r0)], [], h) =
    bif small 8 then sem PGM d yR_init (44, [some (.ref r0)], [.ref (List.length h), .ref r0], (h ++ [.inl (tyN 0, ints ((8 : Int32).toNatClampNeg))]))
    else none := (ev_eq PGM d yR_init [10, 13, 19, 22, 28, 31, 36, 39, 44, 47, 52, 55, 61] 400 _).trans rfl
set_option maxRecDepth 100000 in
theorem eR_init_44 (d : Nat) (h : AH) (r0 : Nat) (q0 : Nat) (q1 : Nat) : sem PGM d yR_init (44, [some (.ref r0)], [.ref q1, .ref q0], h) =
    bif okP h q0 2 6 && !(Nat.beq q1 9) then sem PGM d yR_init (47, [some (.ref r0)], [], (pF h q0 6 (.ref q1)))
    else none := (ev_eq PGM d yR_init [10, 13, 19, 22, 28, 31, 36, 39, 44, 47, 52, 55, 61] 400 _).trans rfl
set_option maxRecDepth 100000 in
theorem eR_init_47 (d : Nat) (h : AH) (r0 : Nat) : sem PGM d yR_init (47, [some (.ref r0)], [], h) =
    bif small 8 then sem PGM d yR_init (52, [some (.ref r0)], [.ref (List.length h), .ref r0], (h ++ [.inl (tyN 0, ints ((8 : Int32).toNatClampNeg))]))
    else none := (ev_eq PGM d yR_init [10, 13, 19, 22, 28, 31, 36, 39, 44, 47, 52, 55, 61] 400 _).trans rfl
set_option maxRecDepth 100000 in
theorem eR_init_52 (d : Nat) (h : AH) (r0 : Nat) (q0 : Nat) (q1 : Nat) : sem PGM d yR_init (52, [some (.ref r0)], [.ref q1, .ref q0], h) =
    bif okP h q0 2 7 && !(Nat.beq q1 9) then sem PGM d yR_init (55, [some (.ref r0)], [], (pF h q0 7 (.ref q1)))
    else none := (ev_eq PGM d yR_init [10, 13, 19, 22, 28, 31, 36, 39, 44, 47, 52, 55, 61] 400 _).trans rfl
set_option maxRecDepth 100000 in
theorem eR_init_55 (d : Nat) (h : AH) (r0 : Nat) : sem PGM d yR_init (55, [some (.ref r0)], [], h) =
    bif small 200 then sem PGM d yR_init (61, [some (.ref r0)], [.ref (List.length h), .ref r0], (h ++ [.inl (tyN 0, ints ((200 : Int32).toNatClampNeg))]))
    else none := (ev_eq PGM d yR_init [10, 13, 19, 22, 28, 31, 36, 39, 44, 47, 52, 55, 61] 400 _).trans rfl
set_option maxRecDepth 100000 in
theorem eR_init_61 (d : Nat) (h : AH) (u0 : Option Value) (q0 : Nat) (q1 : Nat) : sem PGM d yR_init (61, [u0], [.ref q1, .ref q0], h) =
    bif okP h q0 2 8 && !(Nat.beq q1 9) then some (none, (pF h q0 8 (.ref q1)))
    else none := (ev_eq PGM d yR_init [10, 13, 19, 22, 28, 31, 36, 39, 44, 47, 52, 55, 61] 400 _).trans rfl
set_option maxRecDepth 100000 in
theorem eD_init_0 (d : Nat) (h : AH) (r0 : Nat) : sem PGM d yD_init (0, [some (.ref r0)], [], h) =
    bif Nat.ble 12 r0 && true then (bif small 30 then sem PGM d yD_init (9, [some (.ref r0)], [.ref (List.length h), .ref r0], (h ++ [.inl (tyN 0, ints ((30 : Int32).toNatClampNeg))]))
    else none) else none := (ev_eq PGM d yD_init [9] 400 _).trans rfl
set_option maxRecDepth 100000 in
theorem eD_init_9 (d : Nat) (h : AH) (u0 : Option Value) (q0 : Nat) (q1 : Nat) : sem PGM d yD_init (9, [u0], [.ref q1, .ref q0], h) =
    bif okP h q0 0 1 && !(Nat.beq q1 9) then some (none, (pF h q0 1 (.ref q1)))
    else none := (ev_eq PGM d yD_init [9] 400 _).trans rfl

theorem arr_c {A B : AH} {x y : AC} : (A ++ x :: B) ++ [y] = A ++ x :: (B ++ [y]) := by simp
theorem arr_l (A B : AH) (x : AC) : List.length (A ++ x :: B) = A.length + (B.length + 1) := by simp
theorem sm_n {n : Nat} (h : n ≤ 100000) : small (nI n) = true := by
  unfold small
  rw [l0, show (100000 : Int32) = nI 100000 from rfl, dle (by omega) (by omega), dle (by omega) (by omega)]
  simp
  omega
theorem okP_t (A B : AH) (ci : Nat) (fs : List Value) (k : Nat) (hA : 12 ≤ A.length) (hk : Nat.blt k fs.length = true) : okP (A ++ .inr (ci, fs) :: B) A.length ci k = true := (okP_at A B ci fs k hA).trans hk
theorem cD_init (d : Nat) (A : AH) (hA : 12 ≤ A.length) : call PGM (d + 1) yD_init [.ref A.length] (A ++ [objOf dfls 0]) = some (none, A ++ (.inr (0, [.int 0, .ref (A.length + 1), .int 0, .int 0, .int 0, .int 0]) : AC) :: [.inl (.int, 30, .inl (fun _ => 0))]) := by
  have k1 : call PGM (d + 1) yD_init [.ref A.length] (A ++ [objOf dfls 0]) = sem PGM d yD_init (0, [some (.ref A.length)], [], A ++ [objOf dfls 0]) := rfl
  have ob : objOf dfls 0 = .inr (0, [.int 0, .null, .int 0, .int 0, .int 0, .int 0]) := rfl
  have s30 : small 30 = true := sm_n (n := 30) (by omega)
  rw [k1, eD_init_0, Nat.ble_eq_true_of_le hA, ob, s30, arr_c, arr_l, eD_init_9, okP_at _ _ _ _ _ hA, pF_at, bq9 (by omega)]
  rfl
theorem cR_init (d : Nat) (A : AH) (hA : 12 ≤ A.length) : call PGM (d + 1) yR_init [.ref A.length] (A ++ [objOf dfls 2]) = some (none, A ++ (.inr (2, [.ref (A.length + 1), .ref (A.length + 2), .ref (A.length + 3), .int 0, .int 0, .ref (A.length + 4), .ref (A.length + 5), .ref (A.length + 6), .ref (A.length + 7), .int 0, .int 0]) : AC) :: [.inl (.int, 201, .inl (fun _ => 0)), .inl (.int, 201, .inl (fun _ => 0)), .inl (.int, 201, .inl (fun _ => 0)), .inl (.int, 8, .inl (fun _ => 0)), .inl (.int, 8, .inl (fun _ => 0)), .inl (.int, 8, .inl (fun _ => 0)), .inl (.int, 200, .inl (fun _ => 0))]) := by
  have k1 : call PGM (d + 1) yR_init [.ref A.length] (A ++ [objOf dfls 2]) = sem PGM d yR_init (0, [some (.ref A.length)], [], A ++ [objOf dfls 2]) := rfl
  have ob : objOf dfls 2 = .inr (2, [.null, .null, .null, .int 0, .int 0, .null, .null, .null, .null, .int 0, .int 0]) := rfl
  have s201 : small 201 = true := sm_n (n := 201) (by omega)
  have s200 : small 200 = true := sm_n (n := 200) (by omega)
  have s8 : small 8 = true := sm_n (n := 8) (by omega)
  rw [k1, eR_init_0, Nat.ble_eq_true_of_le hA, ob]
  rw [s201, arr_c, arr_l]
  simp only [cond_true, Bool.and_true, Bool.true_and, Bool.and_self, Bool.not_false, List.set_cons_zero, List.set_cons_succ, List.nil_append, List.cons_append, List.length_cons, List.length_nil, Nat.zero_add, Nat.reduceAdd]
  rw [eR_init_10, okP_t _ _ _ _ _ hA rfl, pF_at, bq9 (by omega)]
  simp only [cond_true, Bool.and_true, Bool.true_and, Bool.and_self, Bool.not_false, List.set_cons_zero, List.set_cons_succ, List.nil_append, List.cons_append, List.length_cons, List.length_nil, Nat.zero_add, Nat.reduceAdd]
  rw [eR_init_13]
  rw [s201, arr_c, arr_l]
  simp only [cond_true, Bool.and_true, Bool.true_and, Bool.and_self, Bool.not_false, List.set_cons_zero, List.set_cons_succ, List.nil_append, List.cons_append, List.length_cons, List.length_nil, Nat.zero_add, Nat.reduceAdd]
  rw [eR_init_19, okP_t _ _ _ _ _ hA rfl, pF_at, bq9 (by omega)]
  simp only [cond_true, Bool.and_true, Bool.true_and, Bool.and_self, Bool.not_false, List.set_cons_zero, List.set_cons_succ, List.nil_append, List.cons_append, List.length_cons, List.length_nil, Nat.zero_add, Nat.reduceAdd]
  rw [eR_init_22]
  rw [s201, arr_c, arr_l]
  simp only [cond_true, Bool.and_true, Bool.true_and, Bool.and_self, Bool.not_false, List.set_cons_zero, List.set_cons_succ, List.nil_append, List.cons_append, List.length_cons, List.length_nil, Nat.zero_add, Nat.reduceAdd]
  rw [eR_init_28, okP_t _ _ _ _ _ hA rfl, pF_at, bq9 (by omega)]
  simp only [cond_true, Bool.and_true, Bool.true_and, Bool.and_self, Bool.not_false, List.set_cons_zero, List.set_cons_succ, List.nil_append, List.cons_append, List.length_cons, List.length_nil, Nat.zero_add, Nat.reduceAdd]
  rw [eR_init_31]
  rw [s8, arr_c, arr_l]
  simp only [cond_true, Bool.and_true, Bool.true_and, Bool.and_self, Bool.not_false, List.set_cons_zero, List.set_cons_succ, List.nil_append, List.cons_append, List.length_cons, List.length_nil, Nat.zero_add, Nat.reduceAdd]
  rw [eR_init_36, okP_t _ _ _ _ _ hA rfl, pF_at, bq9 (by omega)]
  simp only [cond_true, Bool.and_true, Bool.true_and, Bool.and_self, Bool.not_false, List.set_cons_zero, List.set_cons_succ, List.nil_append, List.cons_append, List.length_cons, List.length_nil, Nat.zero_add, Nat.reduceAdd]
  rw [eR_init_39]
  rw [s8, arr_c, arr_l]
  simp only [cond_true, Bool.and_true, Bool.true_and, Bool.and_self, Bool.not_false, List.set_cons_zero, List.set_cons_succ, List.nil_append, List.cons_append, List.length_cons, List.length_nil, Nat.zero_add, Nat.reduceAdd]
  rw [eR_init_44, okP_t _ _ _ _ _ hA rfl, pF_at, bq9 (by omega)]
  simp only [cond_true, Bool.and_true, Bool.true_and, Bool.and_self, Bool.not_false, List.set_cons_zero, List.set_cons_succ, List.nil_append, List.cons_append, List.length_cons, List.length_nil, Nat.zero_add, Nat.reduceAdd]
  rw [eR_init_47]
  rw [s8, arr_c, arr_l]
  simp only [cond_true, Bool.and_true, Bool.true_and, Bool.and_self, Bool.not_false, List.set_cons_zero, List.set_cons_succ, List.nil_append, List.cons_append, List.length_cons, List.length_nil, Nat.zero_add, Nat.reduceAdd]
  rw [eR_init_52, okP_t _ _ _ _ _ hA rfl, pF_at, bq9 (by omega)]
  simp only [cond_true, Bool.and_true, Bool.true_and, Bool.and_self, Bool.not_false, List.set_cons_zero, List.set_cons_succ, List.nil_append, List.cons_append, List.length_cons, List.length_nil, Nat.zero_add, Nat.reduceAdd]
  rw [eR_init_55]
  rw [s200, arr_c, arr_l]
  simp only [cond_true, Bool.and_true, Bool.true_and, Bool.and_self, Bool.not_false, List.set_cons_zero, List.set_cons_succ, List.nil_append, List.cons_append, List.length_cons, List.length_nil, Nat.zero_add, Nat.reduceAdd]
  rw [eR_init_61, okP_t _ _ _ _ _ hA rfl, pF_at, bq9 (by omega)]
  simp only [cond_true, Bool.and_true, Bool.true_and, Bool.and_self, Bool.not_false, List.set_cons_zero, List.set_cons_succ, List.nil_append, List.cons_append, List.length_cons, List.length_nil, Nat.zero_add, Nat.reduceAdd]
  rfl
