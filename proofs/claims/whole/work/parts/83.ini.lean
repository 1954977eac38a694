/-! Constructors that run later, by wip/whole/gen/inits.py. -/
set_option maxRecDepth 100000 in
theorem eH_init_0 (d : Nat) (h : AH) (r0 : Nat) (i1 : Int32) (i2 : Int32) : sem PGM d yH_init (0, [some (.ref r0), some (.int i1), some (.int i2)], [], h) =
    bif Nat.ble 12 r0 && true then (bif okP h r0 4 0 then bif small (if 0 < i2 then i2 else 0) then sem PGM d yH_init (17, [some (.ref r0), some (.int i1), some (.int i2)], [.ref (List.length (pF h r0 0 (.int i1))), .ref r0], ((pF h r0 0 (.int i1)) ++ [.inl (tyN 0, ints (((if 0 < i2 then i2 else 0)).toNatClampNeg))]))
      else none
    else none) else none := (ev_eq PGM d yH_init [17] 400 _).trans rfl
set_option maxRecDepth 100000 in
theorem eH_init_17 (d : Nat) (h : AH) (u0 : Option Value) (u1 : Option Value) (u2 : Option Value) (q0 : Nat) (q1 : Nat) : sem PGM d yH_init (17, [u0, u1, u2], [.ref q1, .ref q0], h) =
    bif okP h q0 4 1 && !(Nat.beq q1 9) then some (none, (pF h q0 1 (.ref q1)))
    else none := (ev_eq PGM d yH_init [17] 400 _).trans rfl
set_option maxRecDepth 100000 in
theorem eL_init_0 (d : Nat) (h : AH) (r0 : Nat) (i1 : Int32) (r2 : Nat) (r3 : Nat) (r4 : Nat) (r5 : Nat) : sem PGM d yL_init (0, [some (.ref r0), some (.int i1), some (.ref r2), some (.ref r3), some (.ref r4), some (.ref r5)], [], h) =
    bif Nat.ble 12 r0 && true then (bif okP h r0 1 0 then sem PGM d yL_init (9, [some (.ref r0), some (.int i1), some (.ref r2), some (.ref r3), some (.ref r4), some (.ref r5)], [], (pF h r0 0 (.int i1)))
    else none) else none := (ev_eq PGM d yL_init [9, 14, 19, 25] 400 _).trans rfl
set_option maxRecDepth 100000 in
theorem eL_init_9 (d : Nat) (h : AH) (r0 : Nat) (u1 : Option Value) (r2 : Nat) (r3 : Nat) (r4 : Nat) (r5 : Nat) : sem PGM d yL_init (9, [some (.ref r0), u1, some (.ref r2), some (.ref r3), some (.ref r4), some (.ref r5)], [], h) =
    bif okP h r0 1 1 && !(Nat.beq r2 9) then sem PGM d yL_init (14, [some (.ref r0), u1, some (.ref r2), some (.ref r3), some (.ref r4), some (.ref r5)], [], (pF h r0 1 (.ref r2)))
    else none := (ev_eq PGM d yL_init [9, 14, 19, 25] 400 _).trans rfl
set_option maxRecDepth 100000 in
theorem eL_init_14 (d : Nat) (h : AH) (r0 : Nat) (u1 : Option Value) (u2 : Option Value) (r3 : Nat) (r4 : Nat) (r5 : Nat) : sem PGM d yL_init (14, [some (.ref r0), u1, u2, some (.ref r3), some (.ref r4), some (.ref r5)], [], h) =
    bif okP h r0 1 2 && !(Nat.beq r3 9) then sem PGM d yL_init (19, [some (.ref r0), u1, u2, some (.ref r3), some (.ref r4), some (.ref r5)], [], (pF h r0 2 (.ref r3)))
    else none := (ev_eq PGM d yL_init [9, 14, 19, 25] 400 _).trans rfl
set_option maxRecDepth 100000 in
theorem eL_init_19 (d : Nat) (h : AH) (r0 : Nat) (u1 : Option Value) (u2 : Option Value) (u3 : Option Value) (r4 : Nat) (r5 : Nat) : sem PGM d yL_init (19, [some (.ref r0), u1, u2, u3, some (.ref r4), some (.ref r5)], [], h) =
    bif okP h r0 1 3 && !(Nat.beq r4 9) then sem PGM d yL_init (25, [some (.ref r0), u1, u2, u3, some (.ref r4), some (.ref r5)], [], (pF h r0 3 (.ref r4)))
    else none := (ev_eq PGM d yL_init [9, 14, 19, 25] 400 _).trans rfl
set_option maxRecDepth 100000 in
theorem eL_init_25 (d : Nat) (h : AH) (r0 : Nat) (u1 : Option Value) (u2 : Option Value) (u3 : Option Value) (u4 : Option Value) (r5 : Nat) : sem PGM d yL_init (25, [some (.ref r0), u1, u2, u3, u4, some (.ref r5)], [], h) =
    bif okP h r0 1 4 && !(Nat.beq r5 9) then some (none, (pF h r0 4 (.ref r5)))
    else none := (ev_eq PGM d yL_init [9, 14, 19, 25] 400 _).trans rfl
