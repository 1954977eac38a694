/-! Constructors of Street, BullStreet, the model, over any heap (by gen/inits2.py). -/
set_option maxRecDepth 100000 in
theorem eS_init_0 (d : Nat) (h : AH) (r0 : Nat) (r1 : Nat) : sem PGM d yS_init (0, [some (.ref r0), some (.ref r1)], [], h) =
    bif Nat.ble 12 r0 && true then (bif small 3 && small 30 then sem PGM d yS_init (12, [some (.ref r0), some (.ref r1)], [.ref (List.length h), .ref r0], (h ++ gridC (List.length h) (3 : Int32).toNatClampNeg (30 : Int32).toNatClampNeg))
    else none) else none := (ev_eq PGM d yS_init [12, 15, 20, 23, 28, 31, 36, 39, 44, 47, 52, 55, 60, 63, 68, 71, 76, 79, 84, 87, 94, 97, 102, 108, 113, 116, 121] 400 _).trans rfl
set_option maxRecDepth 100000 in
theorem eS_init_12 (d : Nat) (h : AH) (r0 : Nat) (r1 : Nat) (q0 : Nat) (q1 : Nat) : sem PGM d yS_init (12, [some (.ref r0), some (.ref r1)], [.ref q1, .ref q0], h) =
    bif okP h q0 5 1 && !(Nat.beq q1 9) then sem PGM d yS_init (15, [some (.ref r0), some (.ref r1)], [], (pF h q0 1 (.ref q1)))
    else none := (ev_eq PGM d yS_init [12, 15, 20, 23, 28, 31, 36, 39, 44, 47, 52, 55, 60, 63, 68, 71, 76, 79, 84, 87, 94, 97, 102, 108, 113, 116, 121] 400 _).trans rfl
set_option maxRecDepth 100000 in
theorem eS_init_15 (d : Nat) (h : AH) (r0 : Nat) (r1 : Nat) : sem PGM d yS_init (15, [some (.ref r0), some (.ref r1)], [], h) =
    bif small 30 then sem PGM d yS_init (20, [some (.ref r0), some (.ref r1)], [.ref (List.length h), .ref r0], (h ++ [.inl (tyN 0, ints ((30 : Int32).toNatClampNeg))]))
    else none := (ev_eq PGM d yS_init [12, 15, 20, 23, 28, 31, 36, 39, 44, 47, 52, 55, 60, 63, 68, 71, 76, 79, 84, 87, 94, 97, 102, 108, 113, 116, 121] 400 _).trans rfl
set_option maxRecDepth 100000 in
theorem eS_init_20 (d : Nat) (h : AH) (r0 : Nat) (r1 : Nat) (q0 : Nat) (q1 : Nat) : sem PGM d yS_init (20, [some (.ref r0), some (.ref r1)], [.ref q1, .ref q0], h) =
    bif okP h q0 5 2 && !(Nat.beq q1 9) then sem PGM d yS_init (23, [some (.ref r0), some (.ref r1)], [], (pF h q0 2 (.ref q1)))
    else none := (ev_eq PGM d yS_init [12, 15, 20, 23, 28, 31, 36, 39, 44, 47, 52, 55, 60, 63, 68, 71, 76, 79, 84, 87, 94, 97, 102, 108, 113, 116, 121] 400 _).trans rfl
set_option maxRecDepth 100000 in
theorem eS_init_23 (d : Nat) (h : AH) (r0 : Nat) (r1 : Nat) : sem PGM d yS_init (23, [some (.ref r0), some (.ref r1)], [], h) =
    bif small 30 then sem PGM d yS_init (28, [some (.ref r0), some (.ref r1)], [.ref (List.length h), .ref r0], (h ++ [.inl (tyN 0, ints ((30 : Int32).toNatClampNeg))]))
    else none := (ev_eq PGM d yS_init [12, 15, 20, 23, 28, 31, 36, 39, 44, 47, 52, 55, 60, 63, 68, 71, 76, 79, 84, 87, 94, 97, 102, 108, 113, 116, 121] 400 _).trans rfl
set_option maxRecDepth 100000 in
theorem eS_init_28 (d : Nat) (h : AH) (r0 : Nat) (r1 : Nat) (q0 : Nat) (q1 : Nat) : sem PGM d yS_init (28, [some (.ref r0), some (.ref r1)], [.ref q1, .ref q0], h) =
    bif okP h q0 5 3 && !(Nat.beq q1 9) then sem PGM d yS_init (31, [some (.ref r0), some (.ref r1)], [], (pF h q0 3 (.ref q1)))
    else none := (ev_eq PGM d yS_init [12, 15, 20, 23, 28, 31, 36, 39, 44, 47, 52, 55, 60, 63, 68, 71, 76, 79, 84, 87, 94, 97, 102, 108, 113, 116, 121] 400 _).trans rfl
set_option maxRecDepth 100000 in
theorem eS_init_31 (d : Nat) (h : AH) (r0 : Nat) (r1 : Nat) : sem PGM d yS_init (31, [some (.ref r0), some (.ref r1)], [], h) =
    bif small 20 then sem PGM d yS_init (36, [some (.ref r0), some (.ref r1)], [.ref (List.length h), .ref r0], (h ++ [.inl (tyN 0, ints ((20 : Int32).toNatClampNeg))]))
    else none := (ev_eq PGM d yS_init [12, 15, 20, 23, 28, 31, 36, 39, 44, 47, 52, 55, 60, 63, 68, 71, 76, 79, 84, 87, 94, 97, 102, 108, 113, 116, 121] 400 _).trans rfl
set_option maxRecDepth 100000 in
theorem eS_init_36 (d : Nat) (h : AH) (r0 : Nat) (r1 : Nat) (q0 : Nat) (q1 : Nat) : sem PGM d yS_init (36, [some (.ref r0), some (.ref r1)], [.ref q1, .ref q0], h) =
    bif okP h q0 5 5 && !(Nat.beq q1 9) then sem PGM d yS_init (39, [some (.ref r0), some (.ref r1)], [], (pF h q0 5 (.ref q1)))
    else none := (ev_eq PGM d yS_init [12, 15, 20, 23, 28, 31, 36, 39, 44, 47, 52, 55, 60, 63, 68, 71, 76, 79, 84, 87, 94, 97, 102, 108, 113, 116, 121] 400 _).trans rfl
set_option maxRecDepth 100000 in
theorem eS_init_39 (d : Nat) (h : AH) (r0 : Nat) (r1 : Nat) : sem PGM d yS_init (39, [some (.ref r0), some (.ref r1)], [], h) =
    bif small 20 then sem PGM d yS_init (44, [some (.ref r0), some (.ref r1)], [.ref (List.length h), .ref r0], (h ++ [.inl (tyN 0, ints ((20 : Int32).toNatClampNeg))]))
    else none := (ev_eq PGM d yS_init [12, 15, 20, 23, 28, 31, 36, 39, 44, 47, 52, 55, 60, 63, 68, 71, 76, 79, 84, 87, 94, 97, 102, 108, 113, 116, 121] 400 _).trans rfl
set_option maxRecDepth 100000 in
theorem eS_init_44 (d : Nat) (h : AH) (r0 : Nat) (r1 : Nat) (q0 : Nat) (q1 : Nat) : sem PGM d yS_init (44, [some (.ref r0), some (.ref r1)], [.ref q1, .ref q0], h) =
    bif okP h q0 5 6 && !(Nat.beq q1 9) then sem PGM d yS_init (47, [some (.ref r0), some (.ref r1)], [], (pF h q0 6 (.ref q1)))
    else none := (ev_eq PGM d yS_init [12, 15, 20, 23, 28, 31, 36, 39, 44, 47, 52, 55, 60, 63, 68, 71, 76, 79, 84, 87, 94, 97, 102, 108, 113, 116, 121] 400 _).trans rfl
set_option maxRecDepth 100000 in
theorem eS_init_47 (d : Nat) (h : AH) (r0 : Nat) (r1 : Nat) : sem PGM d yS_init (47, [some (.ref r0), some (.ref r1)], [], h) =
    bif small 20 then sem PGM d yS_init (52, [some (.ref r0), some (.ref r1)], [.ref (List.length h), .ref r0], (h ++ [.inl (tyN 0, ints ((20 : Int32).toNatClampNeg))]))
    else none := (ev_eq PGM d yS_init [12, 15, 20, 23, 28, 31, 36, 39, 44, 47, 52, 55, 60, 63, 68, 71, 76, 79, 84, 87, 94, 97, 102, 108, 113, 116, 121] 400 _).trans rfl
set_option maxRecDepth 100000 in
theorem eS_init_52 (d : Nat) (h : AH) (r0 : Nat) (r1 : Nat) (q0 : Nat) (q1 : Nat) : sem PGM d yS_init (52, [some (.ref r0), some (.ref r1)], [.ref q1, .ref q0], h) =
    bif okP h q0 5 7 && !(Nat.beq q1 9) then sem PGM d yS_init (55, [some (.ref r0), some (.ref r1)], [], (pF h q0 7 (.ref q1)))
    else none := (ev_eq PGM d yS_init [12, 15, 20, 23, 28, 31, 36, 39, 44, 47, 52, 55, 60, 63, 68, 71, 76, 79, 84, 87, 94, 97, 102, 108, 113, 116, 121] 400 _).trans rfl
set_option maxRecDepth 100000 in
theorem eS_init_55 (d : Nat) (h : AH) (r0 : Nat) (r1 : Nat) : sem PGM d yS_init (55, [some (.ref r0), some (.ref r1)], [], h) =
    bif small 20 then sem PGM d yS_init (60, [some (.ref r0), some (.ref r1)], [.ref (List.length h), .ref r0], (h ++ [.inl (tyN 0, ints ((20 : Int32).toNatClampNeg))]))
    else none := (ev_eq PGM d yS_init [12, 15, 20, 23, 28, 31, 36, 39, 44, 47, 52, 55, 60, 63, 68, 71, 76, 79, 84, 87, 94, 97, 102, 108, 113, 116, 121] 400 _).trans rfl
set_option maxRecDepth 100000 in
theorem eS_init_60 (d : Nat) (h : AH) (r0 : Nat) (r1 : Nat) (q0 : Nat) (q1 : Nat) : sem PGM d yS_init (60, [some (.ref r0), some (.ref r1)], [.ref q1, .ref q0], h) =
    bif okP h q0 5 8 && !(Nat.beq q1 9) then sem PGM d yS_init (63, [some (.ref r0), some (.ref r1)], [], (pF h q0 8 (.ref q1)))
    else none := (ev_eq PGM d yS_init [12, 15, 20, 23, 28, 31, 36, 39, 44, 47, 52, 55, 60, 63, 68, 71, 76, 79, 84, 87, 94, 97, 102, 108, 113, 116, 121] 400 _).trans rfl
set_option maxRecDepth 100000 in
theorem eS_init_63 (d : Nat) (h : AH) (r0 : Nat) (r1 : Nat) : sem PGM d yS_init (63, [some (.ref r0), some (.ref r1)], [], h) =
    bif small 6 then sem PGM d yS_init (68, [some (.ref r0), some (.ref r1)], [.ref (List.length h), .ref r0], (h ++ [.inl (tyN 0, ints ((6 : Int32).toNatClampNeg))]))
    else none := (ev_eq PGM d yS_init [12, 15, 20, 23, 28, 31, 36, 39, 44, 47, 52, 55, 60, 63, 68, 71, 76, 79, 84, 87, 94, 97, 102, 108, 113, 116, 121] 400 _).trans rfl
set_option maxRecDepth 100000 in
theorem eS_init_68 (d : Nat) (h : AH) (r0 : Nat) (r1 : Nat) (q0 : Nat) (q1 : Nat) : sem PGM d yS_init (68, [some (.ref r0), some (.ref r1)], [.ref q1, .ref q0], h) =
    bif okP h q0 5 10 && !(Nat.beq q1 9) then sem PGM d yS_init (71, [some (.ref r0), some (.ref r1)], [], (pF h q0 10 (.ref q1)))
    else none := (ev_eq PGM d yS_init [12, 15, 20, 23, 28, 31, 36, 39, 44, 47, 52, 55, 60, 63, 68, 71, 76, 79, 84, 87, 94, 97, 102, 108, 113, 116, 121] 400 _).trans rfl
set_option maxRecDepth 100000 in
theorem eS_init_71 (d : Nat) (h : AH) (r0 : Nat) (r1 : Nat) : sem PGM d yS_init (71, [some (.ref r0), some (.ref r1)], [], h) =
    bif small 6 then sem PGM d yS_init (76, [some (.ref r0), some (.ref r1)], [.ref (List.length h), .ref r0], (h ++ [.inl (tyN 0, ints ((6 : Int32).toNatClampNeg))]))
    else none := (ev_eq PGM d yS_init [12, 15, 20, 23, 28, 31, 36, 39, 44, 47, 52, 55, 60, 63, 68, 71, 76, 79, 84, 87, 94, 97, 102, 108, 113, 116, 121] 400 _).trans rfl
set_option maxRecDepth 100000 in
theorem eS_init_76 (d : Nat) (h : AH) (r0 : Nat) (r1 : Nat) (q0 : Nat) (q1 : Nat) : sem PGM d yS_init (76, [some (.ref r0), some (.ref r1)], [.ref q1, .ref q0], h) =
    bif okP h q0 5 11 && !(Nat.beq q1 9) then sem PGM d yS_init (79, [some (.ref r0), some (.ref r1)], [], (pF h q0 11 (.ref q1)))
    else none := (ev_eq PGM d yS_init [12, 15, 20, 23, 28, 31, 36, 39, 44, 47, 52, 55, 60, 63, 68, 71, 76, 79, 84, 87, 94, 97, 102, 108, 113, 116, 121] 400 _).trans rfl
set_option maxRecDepth 100000 in
theorem eS_init_79 (d : Nat) (h : AH) (r0 : Nat) (r1 : Nat) : sem PGM d yS_init (79, [some (.ref r0), some (.ref r1)], [], h) =
    bif small 6 then sem PGM d yS_init (84, [some (.ref r0), some (.ref r1)], [.ref (List.length h), .ref r0], (h ++ [.inl (tyN 0, ints ((6 : Int32).toNatClampNeg))]))
    else none := (ev_eq PGM d yS_init [12, 15, 20, 23, 28, 31, 36, 39, 44, 47, 52, 55, 60, 63, 68, 71, 76, 79, 84, 87, 94, 97, 102, 108, 113, 116, 121] 400 _).trans rfl
set_option maxRecDepth 100000 in
theorem eS_init_84 (d : Nat) (h : AH) (r0 : Nat) (r1 : Nat) (q0 : Nat) (q1 : Nat) : sem PGM d yS_init (84, [some (.ref r0), some (.ref r1)], [.ref q1, .ref q0], h) =
    bif okP h q0 5 12 && !(Nat.beq q1 9) then sem PGM d yS_init (87, [some (.ref r0), some (.ref r1)], [], (pF h q0 12 (.ref q1)))
    else none := (ev_eq PGM d yS_init [12, 15, 20, 23, 28, 31, 36, 39, 44, 47, 52, 55, 60, 63, 68, 71, 76, 79, 84, 87, 94, 97, 102, 108, 113, 116, 121] 400 _).trans rfl
set_option maxRecDepth 100000 in
theorem eS_init_87 (d : Nat) (h : AH) (r0 : Nat) (r1 : Nat) : sem PGM d yS_init (87, [some (.ref r0), some (.ref r1)], [], h) =
    bif okL h 6 then bif small (nI (lenA h 6)) then sem PGM d yS_init (94, [some (.ref r0), some (.ref r1)], [.ref (List.length h), .ref r0], (h ++ [.inl (tyN 0, ints (((nI (lenA h 6))).toNatClampNeg))]))
      else none
    else none := (ev_eq PGM d yS_init [12, 15, 20, 23, 28, 31, 36, 39, 44, 47, 52, 55, 60, 63, 68, 71, 76, 79, 84, 87, 94, 97, 102, 108, 113, 116, 121] 400 _).trans rfl
set_option maxRecDepth 100000 in
theorem eS_init_94 (d : Nat) (h : AH) (r0 : Nat) (r1 : Nat) (q0 : Nat) (q1 : Nat) : sem PGM d yS_init (94, [some (.ref r0), some (.ref r1)], [.ref q1, .ref q0], h) =
    bif okP h q0 5 13 && !(Nat.beq q1 9) then sem PGM d yS_init (97, [some (.ref r0), some (.ref r1)], [], (pF h q0 13 (.ref q1)))
    else none := (ev_eq PGM d yS_init [12, 15, 20, 23, 28, 31, 36, 39, 44, 47, 52, 55, 60, 63, 68, 71, 76, 79, 84, 87, 94, 97, 102, 108, 113, 116, 121] 400 _).trans rfl
set_option maxRecDepth 100000 in
theorem eS_init_97 (d : Nat) (h : AH) (r0 : Nat) (r1 : Nat) : sem PGM d yS_init (97, [some (.ref r0), some (.ref r1)], [], h) =
    bif okP h r0 5 15 then sem PGM d yS_init (102, [some (.ref r0), some (.ref r1)], [], (pF h r0 15 (.int 1)))
    else none := (ev_eq PGM d yS_init [12, 15, 20, 23, 28, 31, 36, 39, 44, 47, 52, 55, 60, 63, 68, 71, 76, 79, 84, 87, 94, 97, 102, 108, 113, 116, 121] 400 _).trans rfl
set_option maxRecDepth 100000 in
theorem eS_init_102 (d : Nat) (h : AH) (r0 : Nat) (r1 : Nat) : sem PGM d yS_init (102, [some (.ref r0), some (.ref r1)], [], h) =
    bif okP h r0 5 17 then sem PGM d yS_init (108, [some (.ref r0), some (.ref r1)], [], (pF h r0 17 (.int (-9))))
    else none := (ev_eq PGM d yS_init [12, 15, 20, 23, 28, 31, 36, 39, 44, 47, 52, 55, 60, 63, 68, 71, 76, 79, 84, 87, 94, 97, 102, 108, 113, 116, 121] 400 _).trans rfl
set_option maxRecDepth 100000 in
theorem eS_init_108 (d : Nat) (h : AH) (r0 : Nat) (r1 : Nat) : sem PGM d yS_init (108, [some (.ref r0), some (.ref r1)], [], h) =
    bif small 6 then sem PGM d yS_init (113, [some (.ref r0), some (.ref r1)], [.ref (List.length h), .ref r0], (h ++ [.inl (tyN 0, ints ((6 : Int32).toNatClampNeg))]))
    else none := (ev_eq PGM d yS_init [12, 15, 20, 23, 28, 31, 36, 39, 44, 47, 52, 55, 60, 63, 68, 71, 76, 79, 84, 87, 94, 97, 102, 108, 113, 116, 121] 400 _).trans rfl
set_option maxRecDepth 100000 in
theorem eS_init_113 (d : Nat) (h : AH) (r0 : Nat) (r1 : Nat) (q0 : Nat) (q1 : Nat) : sem PGM d yS_init (113, [some (.ref r0), some (.ref r1)], [.ref q1, .ref q0], h) =
    bif okP h q0 5 18 && !(Nat.beq q1 9) then sem PGM d yS_init (116, [some (.ref r0), some (.ref r1)], [], (pF h q0 18 (.ref q1)))
    else none := (ev_eq PGM d yS_init [12, 15, 20, 23, 28, 31, 36, 39, 44, 47, 52, 55, 60, 63, 68, 71, 76, 79, 84, 87, 94, 97, 102, 108, 113, 116, 121] 400 _).trans rfl
set_option maxRecDepth 100000 in
theorem eS_init_116 (d : Nat) (h : AH) (r0 : Nat) (r1 : Nat) : sem PGM d yS_init (116, [some (.ref r0), some (.ref r1)], [], h) =
    bif okP h r0 5 16 && !(Nat.beq r1 9) then sem PGM d yS_init (121, [some (.ref r0), some (.ref r1)], [], (pF h r0 16 (.ref r1)))
    else none := (ev_eq PGM d yS_init [12, 15, 20, 23, 28, 31, 36, 39, 44, 47, 52, 55, 60, 63, 68, 71, 76, 79, 84, 87, 94, 97, 102, 108, 113, 116, 121] 400 _).trans rfl
set_option maxRecDepth 100000 in
theorem eS_init_121 (d : Nat) (h : AH) (r0 : Nat) (u1 : Option Value) : sem PGM d yS_init (121, [some (.ref r0), u1], [], h) =
    bif okN h r0 5 13 then bif okN h r0 5 13 then none
      else bif okR h r0 5 13 then bif okL h (gR h r0 13) then none
        else none
      else none
    else bif okR h r0 5 13 then bif okN h r0 5 13 then none
      else bif okR h r0 5 13 then bif okL h (gR h r0 13) then bif okCop h 6 (gR h r0 13) 0 0 (nI (lenA h (gR h r0 13))) && true then bif okC (copA h 6 (gR h r0 13) 0 0 (nI (lenA h (gR h r0 13)))) r0 5 && true then aftK (sem PGM d yS_init) 0 (144, [some (.ref r0), u1], [], (copA h 6 (gR h r0 13) 0 0 (nI (lenA h (gR h r0 13))))) (call PGM d yS_lay [.ref r0, .int 10] (copA h 6 (gR h r0 13) 0 0 (nI (lenA h (gR h r0 13)))))
            else none
          else none
        else none
      else none
    else none := (ev_eq PGM d yS_init [12, 15, 20, 23, 28, 31, 36, 39, 44, 47, 52, 55, 60, 63, 68, 71, 76, 79, 84, 87, 94, 97, 102, 108, 113, 116, 121] 400 _).trans rfl
set_option maxRecDepth 100000 in
theorem eS_init_144 (d : Nat) (h : AH) (u0 : Option Value) (u1 : Option Value) : sem PGM d yS_init (144, [u0, u1], [], h) =
    some (none, h) := (ev_eq PGM d yS_init [12, 15, 20, 23, 28, 31, 36, 39, 44, 47, 52, 55, 60, 63, 68, 71, 76, 79, 84, 87, 94, 97, 102, 108, 113, 116, 121] 400 _).trans rfl
set_option maxRecDepth 100000 in
theorem eB_init_0 (d : Nat) (h : AH) (r0 : Nat) : sem PGM d yB_init (0, [some (.ref r0), none], [], h) =
    bif Nat.ble 12 r0 && true then (bif small 200 then sem PGM d yB_init (10, [some (.ref r0), none], [.ref (List.length h), .ref r0], (h ++ [.inl (tyN 1, ints ((200 : Int32).toNatClampNeg))]))
    else none) else none := (ev_eq PGM d yB_init [10, 46, 51, 54, 59, 62, 66, 70, 74, 78, 82, 85, 89] 400 _).trans rfl
set_option maxRecDepth 100000 in
theorem eB_init_10 (d : Nat) (h : AH) (r0 : Nat) (u1 : Option Value) (q0 : Nat) (q1 : Nat) : sem PGM d yB_init (10, [some (.ref r0), u1], [.ref q1, .ref q0], h) =
    bif okP h q0 6 4 && !(Nat.beq q1 9) then bif Nat.ble 12 (List.length (pF h q0 4 (.ref q1))) && true then aftK (sem PGM d yB_init) 0 (21, [some (.ref r0), u1], [.ref (List.length (pF h q0 4 (.ref q1))), .ref r0], ((pF h q0 4 (.ref q1)) ++ [objOf dfls 2])) (call PGM d yR_init [.ref (List.length (pF h q0 4 (.ref q1)))] ((pF h q0 4 (.ref q1)) ++ [objOf dfls 2]))
      else none
    else none := (ev_eq PGM d yB_init [10, 46, 51, 54, 59, 62, 66, 70, 74, 78, 82, 85, 89] 400 _).trans rfl
set_option maxRecDepth 100000 in
theorem eB_init_21 (d : Nat) (h : AH) (r0 : Nat) (u1 : Option Value) (q0 : Nat) (q1 : Nat) : sem PGM d yB_init (21, [some (.ref r0), u1], [.ref q1, .ref q0], h) =
    bif okP h q0 6 6 && !(Nat.beq q1 9) then bif Nat.ble 12 (List.length (pF h q0 6 (.ref q1))) && true then aftK (sem PGM d yB_init) 0 (32, [some (.ref r0), u1], [.ref (List.length (pF h q0 6 (.ref q1))), .ref r0], ((pF h q0 6 (.ref q1)) ++ [objOf dfls 3])) (call PGM d yW_init [.ref (List.length (pF h q0 6 (.ref q1)))] ((pF h q0 6 (.ref q1)) ++ [objOf dfls 3]))
      else none
    else none := (ev_eq PGM d yB_init [10, 46, 51, 54, 59, 62, 66, 70, 74, 78, 82, 85, 89] 400 _).trans rfl
set_option maxRecDepth 100000 in
theorem eB_init_32 (d : Nat) (h : AH) (r0 : Nat) (u1 : Option Value) (q0 : Nat) (q1 : Nat) : sem PGM d yB_init (32, [some (.ref r0), u1], [.ref q1, .ref q0], h) =
    bif okP h q0 6 7 && !(Nat.beq q1 9) then bif Nat.ble 12 (List.length (pF h q0 7 (.ref q1))) && true then aftK (sem PGM d yB_init) 0 (43, [some (.ref r0), u1], [.ref (List.length (pF h q0 7 (.ref q1))), .ref r0], ((pF h q0 7 (.ref q1)) ++ [objOf dfls 3])) (call PGM d yW_init [.ref (List.length (pF h q0 7 (.ref q1)))] ((pF h q0 7 (.ref q1)) ++ [objOf dfls 3]))
      else none
    else none := (ev_eq PGM d yB_init [10, 46, 51, 54, 59, 62, 66, 70, 74, 78, 82, 85, 89] 400 _).trans rfl
set_option maxRecDepth 100000 in
theorem eB_init_43 (d : Nat) (h : AH) (r0 : Nat) (u1 : Option Value) (q0 : Nat) (q1 : Nat) : sem PGM d yB_init (43, [some (.ref r0), u1], [.ref q1, .ref q0], h) =
    bif okP h q0 6 8 && !(Nat.beq q1 9) then sem PGM d yB_init (46, [some (.ref r0), u1], [], (pF h q0 8 (.ref q1)))
    else none := (ev_eq PGM d yB_init [10, 46, 51, 54, 59, 62, 66, 70, 74, 78, 82, 85, 89] 400 _).trans rfl
set_option maxRecDepth 100000 in
theorem eB_init_46 (d : Nat) (h : AH) (r0 : Nat) (u1 : Option Value) : sem PGM d yB_init (46, [some (.ref r0), u1], [], h) =
    bif small 4 then sem PGM d yB_init (51, [some (.ref r0), u1], [.ref (List.length h), .ref r0], (h ++ [.inl (.char, refs (4 : Int32).toNatClampNeg (fun _ => none))]))
    else none := (ev_eq PGM d yB_init [10, 46, 51, 54, 59, 62, 66, 70, 74, 78, 82, 85, 89] 400 _).trans rfl
set_option maxRecDepth 100000 in
theorem eB_init_51 (d : Nat) (h : AH) (r0 : Nat) (u1 : Option Value) (q0 : Nat) (q1 : Nat) : sem PGM d yB_init (51, [some (.ref r0), u1], [.ref q1, .ref q0], h) =
    bif okP h q0 6 9 && !(Nat.beq q1 9) then sem PGM d yB_init (54, [some (.ref r0), u1], [], (pF h q0 9 (.ref q1)))
    else none := (ev_eq PGM d yB_init [10, 46, 51, 54, 59, 62, 66, 70, 74, 78, 82, 85, 89] 400 _).trans rfl
set_option maxRecDepth 100000 in
theorem eB_init_54 (d : Nat) (h : AH) (r0 : Nat) (u1 : Option Value) : sem PGM d yB_init (54, [some (.ref r0), u1], [], h) =
    bif small 4 then sem PGM d yB_init (59, [some (.ref r0), u1], [.ref (List.length h), .ref r0], (h ++ [.inl (.char, refs (4 : Int32).toNatClampNeg (fun _ => none))]))
    else none := (ev_eq PGM d yB_init [10, 46, 51, 54, 59, 62, 66, 70, 74, 78, 82, 85, 89] 400 _).trans rfl
set_option maxRecDepth 100000 in
theorem eB_init_59 (d : Nat) (h : AH) (r0 : Nat) (u1 : Option Value) (q0 : Nat) (q1 : Nat) : sem PGM d yB_init (59, [some (.ref r0), u1], [.ref q1, .ref q0], h) =
    bif okP h q0 6 10 && !(Nat.beq q1 9) then sem PGM d yB_init (62, [some (.ref r0), u1], [], (pF h q0 10 (.ref q1)))
    else none := (ev_eq PGM d yB_init [10, 46, 51, 54, 59, 62, 66, 70, 74, 78, 82, 85, 89] 400 _).trans rfl
set_option maxRecDepth 100000 in
theorem eB_init_62 (d : Nat) (h : AH) (r0 : Nat) (u1 : Option Value) : sem PGM d yB_init (62, [some (.ref r0), u1], [], h) =
    bif small 4 then sem PGM d yB_init (66, [some (.ref r0), u1], [.ref (List.length h), .ref r0], (h ++ [.inl (tyN 0, ints ((4 : Int32).toNatClampNeg))]))
    else none := (ev_eq PGM d yB_init [10, 46, 51, 54, 59, 62, 66, 70, 74, 78, 82, 85, 89] 400 _).trans rfl
set_option maxRecDepth 100000 in
theorem eB_init_66 (d : Nat) (h : AH) (r0 : Nat) (u1 : Option Value) (q0 : Nat) (q1 : Nat) : sem PGM d yB_init (66, [some (.ref r0), u1], [.ref q1, .ref q0], h) =
    bif Nat.ble 12 q1 && inA h q1 0 0 then sem PGM d yB_init (70, [some (.ref r0), u1], [.ref q1, .ref q0], (wA h q1 0 3))
    else none := (ev_eq PGM d yB_init [10, 46, 51, 54, 59, 62, 66, 70, 74, 78, 82, 85, 89] 400 _).trans rfl
set_option maxRecDepth 100000 in
theorem eB_init_70 (d : Nat) (h : AH) (r0 : Nat) (u1 : Option Value) (q0 : Nat) (q1 : Nat) : sem PGM d yB_init (70, [some (.ref r0), u1], [.ref q1, .ref q0], h) =
    bif Nat.ble 12 q1 && inA h q1 0 1 then sem PGM d yB_init (74, [some (.ref r0), u1], [.ref q1, .ref q0], (wA h q1 1 3))
    else none := (ev_eq PGM d yB_init [10, 46, 51, 54, 59, 62, 66, 70, 74, 78, 82, 85, 89] 400 _).trans rfl
set_option maxRecDepth 100000 in
theorem eB_init_74 (d : Nat) (h : AH) (r0 : Nat) (u1 : Option Value) (q0 : Nat) (q1 : Nat) : sem PGM d yB_init (74, [some (.ref r0), u1], [.ref q1, .ref q0], h) =
    bif Nat.ble 12 q1 && inA h q1 0 2 then sem PGM d yB_init (78, [some (.ref r0), u1], [.ref q1, .ref q0], (wA h q1 2 3))
    else none := (ev_eq PGM d yB_init [10, 46, 51, 54, 59, 62, 66, 70, 74, 78, 82, 85, 89] 400 _).trans rfl
set_option maxRecDepth 100000 in
theorem eB_init_78 (d : Nat) (h : AH) (r0 : Nat) (u1 : Option Value) (q0 : Nat) (q1 : Nat) : sem PGM d yB_init (78, [some (.ref r0), u1], [.ref q1, .ref q0], h) =
    bif Nat.ble 12 q1 && inA h q1 0 3 then sem PGM d yB_init (82, [some (.ref r0), u1], [.ref q1, .ref q0], (wA h q1 3 3))
    else none := (ev_eq PGM d yB_init [10, 46, 51, 54, 59, 62, 66, 70, 74, 78, 82, 85, 89] 400 _).trans rfl
set_option maxRecDepth 100000 in
theorem eB_init_82 (d : Nat) (h : AH) (r0 : Nat) (u1 : Option Value) (q0 : Nat) (q1 : Nat) : sem PGM d yB_init (82, [some (.ref r0), u1], [.ref q1, .ref q0], h) =
    bif okP h q0 6 11 && !(Nat.beq q1 9) then sem PGM d yB_init (85, [some (.ref r0), u1], [], (pF h q0 11 (.ref q1)))
    else none := (ev_eq PGM d yB_init [10, 46, 51, 54, 59, 62, 66, 70, 74, 78, 82, 85, 89] 400 _).trans rfl
set_option maxRecDepth 100000 in
theorem eB_init_85 (d : Nat) (h : AH) (r0 : Nat) (u1 : Option Value) : sem PGM d yB_init (85, [some (.ref r0), u1], [], h) =
    bif small 4 then sem PGM d yB_init (89, [some (.ref r0), u1], [.ref (List.length h), .ref r0], (h ++ [.inl (tyN 0, ints ((4 : Int32).toNatClampNeg))]))
    else none := (ev_eq PGM d yB_init [10, 46, 51, 54, 59, 62, 66, 70, 74, 78, 82, 85, 89] 400 _).trans rfl
set_option maxRecDepth 100000 in
theorem eB_init_89 (d : Nat) (h : AH) (r0 : Nat) (u1 : Option Value) (q0 : Nat) (q1 : Nat) : sem PGM d yB_init (89, [some (.ref r0), u1], [.ref q1, .ref q0], h) =
    bif okP h q0 6 12 && !(Nat.beq q1 9) then bif Nat.ble 12 (List.length (pF h q0 12 (.ref q1))) && true then aftK (sem PGM d yB_init) 0 (100, [some (.ref r0), u1], [.ref (List.length (pF h q0 12 (.ref q1))), .ref r0], ((pF h q0 12 (.ref q1)) ++ [objOf dfls 0])) (call PGM d yD_init [.ref (List.length (pF h q0 12 (.ref q1)))] ((pF h q0 12 (.ref q1)) ++ [objOf dfls 0]))
      else none
    else none := (ev_eq PGM d yB_init [10, 46, 51, 54, 59, 62, 66, 70, 74, 78, 82, 85, 89] 400 _).trans rfl
set_option maxRecDepth 100000 in
theorem eB_init_100 (d : Nat) (h : AH) (r0 : Nat) (u1 : Option Value) (q0 : Nat) (q1 : Nat) : sem PGM d yB_init (100, [some (.ref r0), u1], [.ref q1, .ref q0], h) =
    bif okP h q0 6 13 && !(Nat.beq q1 9) then bif small 0 then bif small 0 then bif small 0 then bif small 0 then bif Nat.ble 12 (List.length (pF h q0 13 (.ref q1))) && true then aftK (sem PGM d yB_init) 0 (123, [some (.ref r0), u1], [.ref (List.length (pF h q0 13 (.ref q1)))], ((((((pF h q0 13 (.ref q1)) ++ [objOf dfls 1]) ++ [.inl (tyN 0, ints ((0 : Int32).toNatClampNeg))]) ++ [.inl (tyN 0, ints ((0 : Int32).toNatClampNeg))]) ++ [.inl (tyN 0, ints ((0 : Int32).toNatClampNeg))]) ++ [.inl (tyN 0, ints ((0 : Int32).toNatClampNeg))])) (call PGM d yL_init [.ref (List.length (pF h q0 13 (.ref q1))), .int 0, .ref (List.length ((pF h q0 13 (.ref q1)) ++ [objOf dfls 1])), .ref (List.length (((pF h q0 13 (.ref q1)) ++ [objOf dfls 1]) ++ [.inl (tyN 0, ints ((0 : Int32).toNatClampNeg))])), .ref (List.length ((((pF h q0 13 (.ref q1)) ++ [objOf dfls 1]) ++ [.inl (tyN 0, ints ((0 : Int32).toNatClampNeg))]) ++ [.inl (tyN 0, ints ((0 : Int32).toNatClampNeg))])), .ref (List.length (((((pF h q0 13 (.ref q1)) ++ [objOf dfls 1]) ++ [.inl (tyN 0, ints ((0 : Int32).toNatClampNeg))]) ++ [.inl (tyN 0, ints ((0 : Int32).toNatClampNeg))]) ++ [.inl (tyN 0, ints ((0 : Int32).toNatClampNeg))]))] ((((((pF h q0 13 (.ref q1)) ++ [objOf dfls 1]) ++ [.inl (tyN 0, ints ((0 : Int32).toNatClampNeg))]) ++ [.inl (tyN 0, ints ((0 : Int32).toNatClampNeg))]) ++ [.inl (tyN 0, ints ((0 : Int32).toNatClampNeg))]) ++ [.inl (tyN 0, ints ((0 : Int32).toNatClampNeg))]))
              else none
            else none
          else none
        else none
      else none
    else none := (ev_eq PGM d yB_init [10, 46, 51, 54, 59, 62, 66, 70, 74, 78, 82, 85, 89] 400 _).trans rfl
set_option maxRecDepth 100000 in
theorem eB_init_123 (d : Nat) (h : AH) (r0 : Nat) (u1 : Option Value) (q0 : Nat) : sem PGM d yB_init (123, [some (.ref r0), u1], [.ref q0], h) =
    bif Nat.ble 12 (List.length h) && true then aftK (sem PGM d yB_init) 0 (133, [some (.ref r0), some (.ref q0)], [.ref (List.length h), .ref r0], (h ++ [objOf dfls 5])) (call PGM d yS_init [.ref (List.length h), .ref q0] (h ++ [objOf dfls 5]))
    else none := (ev_eq PGM d yB_init [10, 46, 51, 54, 59, 62, 66, 70, 74, 78, 82, 85, 89] 400 _).trans rfl
set_option maxRecDepth 100000 in
theorem eB_init_133 (d : Nat) (h : AH) (r0 : Nat) (r1 : Nat) (q0 : Nat) (q1 : Nat) : sem PGM d yB_init (133, [some (.ref r0), some (.ref r1)], [.ref q1, .ref q0], h) =
    bif okP h q0 6 0 && !(Nat.beq q1 9) then bif Nat.ble 12 (List.length (pF h q0 0 (.ref q1))) && true then aftK (sem PGM d yB_init) 0 (145, [some (.ref r0), some (.ref r1)], [.ref (List.length (pF h q0 0 (.ref q1))), .ref r0], ((pF h q0 0 (.ref q1)) ++ [objOf dfls 5])) (call PGM d yS_init [.ref (List.length (pF h q0 0 (.ref q1))), .ref r1] ((pF h q0 0 (.ref q1)) ++ [objOf dfls 5]))
      else none
    else none := (ev_eq PGM d yB_init [10, 46, 51, 54, 59, 62, 66, 70, 74, 78, 82, 85, 89] 400 _).trans rfl
set_option maxRecDepth 100000 in
theorem eB_init_145 (d : Nat) (h : AH) (r0 : Nat) (r1 : Nat) (q0 : Nat) (q1 : Nat) : sem PGM d yB_init (145, [some (.ref r0), some (.ref r1)], [.ref q1, .ref q0], h) =
    bif okP h q0 6 1 && !(Nat.beq q1 9) then bif Nat.ble 12 (List.length (pF h q0 1 (.ref q1))) && true then aftK (sem PGM d yB_init) 0 (157, [some (.ref r0), some (.ref r1)], [.ref (List.length (pF h q0 1 (.ref q1))), .ref r0], ((pF h q0 1 (.ref q1)) ++ [objOf dfls 5])) (call PGM d yS_init [.ref (List.length (pF h q0 1 (.ref q1))), .ref r1] ((pF h q0 1 (.ref q1)) ++ [objOf dfls 5]))
      else none
    else none := (ev_eq PGM d yB_init [10, 46, 51, 54, 59, 62, 66, 70, 74, 78, 82, 85, 89] 400 _).trans rfl
set_option maxRecDepth 100000 in
theorem eB_init_157 (d : Nat) (h : AH) (r0 : Nat) (u1 : Option Value) (q0 : Nat) (q1 : Nat) : sem PGM d yB_init (157, [some (.ref r0), u1], [.ref q1, .ref q0], h) =
    bif okP h q0 6 2 && !(Nat.beq q1 9) then some (none, (pF h q0 2 (.ref q1)))
    else none := (ev_eq PGM d yB_init [10, 46, 51, 54, 59, 62, 66, 70, 74, 78, 82, 85, 89] 400 _).trans rfl
set_option maxRecDepth 100000 in
theorem eM_init_0 (d : Nat) (h : AH) (r0 : Nat) : sem PGM d yM_init (0, [some (.ref r0)], [], h) =
    bif Nat.ble 12 r0 && true then (bif small 437 then sem PGM d yM_init (10, [some (.ref r0)], [.ref (List.length h), .ref r0], (h ++ [.inl (tyN 0, ints ((437 : Int32).toNatClampNeg))]))
    else none) else none := (ev_eq PGM d yM_init [10, 13, 19, 22, 28, 31, 37, 40, 46, 49, 54, 57, 63, 66, 71, 76, 79, 84, 87, 91, 95, 99, 103, 107, 110, 114, 117, 123, 126, 130, 134, 138, 142, 146, 149, 153, 156, 160, 163, 168, 171, 178, 185, 193] 400 _).trans rfl
set_option maxRecDepth 100000 in
theorem eM_init_10 (d : Nat) (h : AH) (r0 : Nat) (q0 : Nat) (q1 : Nat) : sem PGM d yM_init (10, [some (.ref r0)], [.ref q1, .ref q0], h) =
    bif okP h q0 7 0 && !(Nat.beq q1 9) then sem PGM d yM_init (13, [some (.ref r0)], [], (pF h q0 0 (.ref q1)))
    else none := (ev_eq PGM d yM_init [10, 13, 19, 22, 28, 31, 37, 40, 46, 49, 54, 57, 63, 66, 71, 76, 79, 84, 87, 91, 95, 99, 103, 107, 110, 114, 117, 123, 126, 130, 134, 138, 142, 146, 149, 153, 156, 160, 163, 168, 171, 178, 185, 193] 400 _).trans rfl
set_option maxRecDepth 100000 in
theorem eM_init_13 (d : Nat) (h : AH) (r0 : Nat) : sem PGM d yM_init (13, [some (.ref r0)], [], h) =
    bif small 437 then sem PGM d yM_init (19, [some (.ref r0)], [.ref (List.length h), .ref r0], (h ++ [.inl (tyN 0, ints ((437 : Int32).toNatClampNeg))]))
    else none := (ev_eq PGM d yM_init [10, 13, 19, 22, 28, 31, 37, 40, 46, 49, 54, 57, 63, 66, 71, 76, 79, 84, 87, 91, 95, 99, 103, 107, 110, 114, 117, 123, 126, 130, 134, 138, 142, 146, 149, 153, 156, 160, 163, 168, 171, 178, 185, 193] 400 _).trans rfl
set_option maxRecDepth 100000 in
theorem eM_init_19 (d : Nat) (h : AH) (r0 : Nat) (q0 : Nat) (q1 : Nat) : sem PGM d yM_init (19, [some (.ref r0)], [.ref q1, .ref q0], h) =
    bif okP h q0 7 1 && !(Nat.beq q1 9) then sem PGM d yM_init (22, [some (.ref r0)], [], (pF h q0 1 (.ref q1)))
    else none := (ev_eq PGM d yM_init [10, 13, 19, 22, 28, 31, 37, 40, 46, 49, 54, 57, 63, 66, 71, 76, 79, 84, 87, 91, 95, 99, 103, 107, 110, 114, 117, 123, 126, 130, 134, 138, 142, 146, 149, 153, 156, 160, 163, 168, 171, 178, 185, 193] 400 _).trans rfl
set_option maxRecDepth 100000 in
theorem eM_init_22 (d : Nat) (h : AH) (r0 : Nat) : sem PGM d yM_init (22, [some (.ref r0)], [], h) =
    bif small 437 then sem PGM d yM_init (28, [some (.ref r0)], [.ref (List.length h), .ref r0], (h ++ [.inl (tyN 0, ints ((437 : Int32).toNatClampNeg))]))
    else none := (ev_eq PGM d yM_init [10, 13, 19, 22, 28, 31, 37, 40, 46, 49, 54, 57, 63, 66, 71, 76, 79, 84, 87, 91, 95, 99, 103, 107, 110, 114, 117, 123, 126, 130, 134, 138, 142, 146, 149, 153, 156, 160, 163, 168, 171, 178, 185, 193] 400 _).trans rfl
set_option maxRecDepth 100000 in
theorem eM_init_28 (d : Nat) (h : AH) (r0 : Nat) (q0 : Nat) (q1 : Nat) : sem PGM d yM_init (28, [some (.ref r0)], [.ref q1, .ref q0], h) =
    bif okP h q0 7 2 && !(Nat.beq q1 9) then sem PGM d yM_init (31, [some (.ref r0)], [], (pF h q0 2 (.ref q1)))
    else none := (ev_eq PGM d yM_init [10, 13, 19, 22, 28, 31, 37, 40, 46, 49, 54, 57, 63, 66, 71, 76, 79, 84, 87, 91, 95, 99, 103, 107, 110, 114, 117, 123, 126, 130, 134, 138, 142, 146, 149, 153, 156, 160, 163, 168, 171, 178, 185, 193] 400 _).trans rfl
set_option maxRecDepth 100000 in
theorem eM_init_31 (d : Nat) (h : AH) (r0 : Nat) : sem PGM d yM_init (31, [some (.ref r0)], [], h) =
    bif small 200 then sem PGM d yM_init (37, [some (.ref r0)], [.ref (List.length h), .ref r0], (h ++ [.inl (tyN 0, ints ((200 : Int32).toNatClampNeg))]))
    else none := (ev_eq PGM d yM_init [10, 13, 19, 22, 28, 31, 37, 40, 46, 49, 54, 57, 63, 66, 71, 76, 79, 84, 87, 91, 95, 99, 103, 107, 110, 114, 117, 123, 126, 130, 134, 138, 142, 146, 149, 153, 156, 160, 163, 168, 171, 178, 185, 193] 400 _).trans rfl
set_option maxRecDepth 100000 in
theorem eM_init_37 (d : Nat) (h : AH) (r0 : Nat) (q0 : Nat) (q1 : Nat) : sem PGM d yM_init (37, [some (.ref r0)], [.ref q1, .ref q0], h) =
    bif okP h q0 7 4 && !(Nat.beq q1 9) then sem PGM d yM_init (40, [some (.ref r0)], [], (pF h q0 4 (.ref q1)))
    else none := (ev_eq PGM d yM_init [10, 13, 19, 22, 28, 31, 37, 40, 46, 49, 54, 57, 63, 66, 71, 76, 79, 84, 87, 91, 95, 99, 103, 107, 110, 114, 117, 123, 126, 130, 134, 138, 142, 146, 149, 153, 156, 160, 163, 168, 171, 178, 185, 193] 400 _).trans rfl
set_option maxRecDepth 100000 in
theorem eM_init_40 (d : Nat) (h : AH) (r0 : Nat) : sem PGM d yM_init (40, [some (.ref r0)], [], h) =
    bif small 200 then sem PGM d yM_init (46, [some (.ref r0)], [.ref (List.length h), .ref r0], (h ++ [.inl (tyN 0, ints ((200 : Int32).toNatClampNeg))]))
    else none := (ev_eq PGM d yM_init [10, 13, 19, 22, 28, 31, 37, 40, 46, 49, 54, 57, 63, 66, 71, 76, 79, 84, 87, 91, 95, 99, 103, 107, 110, 114, 117, 123, 126, 130, 134, 138, 142, 146, 149, 153, 156, 160, 163, 168, 171, 178, 185, 193] 400 _).trans rfl
set_option maxRecDepth 100000 in
theorem eM_init_46 (d : Nat) (h : AH) (r0 : Nat) (q0 : Nat) (q1 : Nat) : sem PGM d yM_init (46, [some (.ref r0)], [.ref q1, .ref q0], h) =
    bif okP h q0 7 5 && !(Nat.beq q1 9) then sem PGM d yM_init (49, [some (.ref r0)], [], (pF h q0 5 (.ref q1)))
    else none := (ev_eq PGM d yM_init [10, 13, 19, 22, 28, 31, 37, 40, 46, 49, 54, 57, 63, 66, 71, 76, 79, 84, 87, 91, 95, 99, 103, 107, 110, 114, 117, 123, 126, 130, 134, 138, 142, 146, 149, 153, 156, 160, 163, 168, 171, 178, 185, 193] 400 _).trans rfl
set_option maxRecDepth 100000 in
theorem eM_init_49 (d : Nat) (h : AH) (r0 : Nat) : sem PGM d yM_init (49, [some (.ref r0)], [], h) =
    bif small 40 then sem PGM d yM_init (54, [some (.ref r0)], [.ref (List.length h), .ref r0], (h ++ [.inl (tyN 0, ints ((40 : Int32).toNatClampNeg))]))
    else none := (ev_eq PGM d yM_init [10, 13, 19, 22, 28, 31, 37, 40, 46, 49, 54, 57, 63, 66, 71, 76, 79, 84, 87, 91, 95, 99, 103, 107, 110, 114, 117, 123, 126, 130, 134, 138, 142, 146, 149, 153, 156, 160, 163, 168, 171, 178, 185, 193] 400 _).trans rfl
set_option maxRecDepth 100000 in
theorem eM_init_54 (d : Nat) (h : AH) (r0 : Nat) (q0 : Nat) (q1 : Nat) : sem PGM d yM_init (54, [some (.ref r0)], [.ref q1, .ref q0], h) =
    bif okP h q0 7 6 && !(Nat.beq q1 9) then sem PGM d yM_init (57, [some (.ref r0)], [], (pF h q0 6 (.ref q1)))
    else none := (ev_eq PGM d yM_init [10, 13, 19, 22, 28, 31, 37, 40, 46, 49, 54, 57, 63, 66, 71, 76, 79, 84, 87, 91, 95, 99, 103, 107, 110, 114, 117, 123, 126, 130, 134, 138, 142, 146, 149, 153, 156, 160, 163, 168, 171, 178, 185, 193] 400 _).trans rfl
set_option maxRecDepth 100000 in
theorem eM_init_57 (d : Nat) (h : AH) (r0 : Nat) : sem PGM d yM_init (57, [some (.ref r0)], [], h) =
    bif small 200 then sem PGM d yM_init (63, [some (.ref r0)], [.ref (List.length h), .ref r0], (h ++ [.inl (tyN 0, ints ((200 : Int32).toNatClampNeg))]))
    else none := (ev_eq PGM d yM_init [10, 13, 19, 22, 28, 31, 37, 40, 46, 49, 54, 57, 63, 66, 71, 76, 79, 84, 87, 91, 95, 99, 103, 107, 110, 114, 117, 123, 126, 130, 134, 138, 142, 146, 149, 153, 156, 160, 163, 168, 171, 178, 185, 193] 400 _).trans rfl
set_option maxRecDepth 100000 in
theorem eM_init_63 (d : Nat) (h : AH) (r0 : Nat) (q0 : Nat) (q1 : Nat) : sem PGM d yM_init (63, [some (.ref r0)], [.ref q1, .ref q0], h) =
    bif okP h q0 7 14 && !(Nat.beq q1 9) then sem PGM d yM_init (66, [some (.ref r0)], [], (pF h q0 14 (.ref q1)))
    else none := (ev_eq PGM d yM_init [10, 13, 19, 22, 28, 31, 37, 40, 46, 49, 54, 57, 63, 66, 71, 76, 79, 84, 87, 91, 95, 99, 103, 107, 110, 114, 117, 123, 126, 130, 134, 138, 142, 146, 149, 153, 156, 160, 163, 168, 171, 178, 185, 193] 400 _).trans rfl
set_option maxRecDepth 100000 in
theorem eM_init_66 (d : Nat) (h : AH) (r0 : Nat) : sem PGM d yM_init (66, [some (.ref r0)], [], h) =
    bif okP h r0 7 15 then sem PGM d yM_init (71, [some (.ref r0)], [], (pF h r0 15 (.int (-1))))
    else none := (ev_eq PGM d yM_init [10, 13, 19, 22, 28, 31, 37, 40, 46, 49, 54, 57, 63, 66, 71, 76, 79, 84, 87, 91, 95, 99, 103, 107, 110, 114, 117, 123, 126, 130, 134, 138, 142, 146, 149, 153, 156, 160, 163, 168, 171, 178, 185, 193] 400 _).trans rfl
set_option maxRecDepth 100000 in
theorem eM_init_71 (d : Nat) (h : AH) (r0 : Nat) : sem PGM d yM_init (71, [some (.ref r0)], [], h) =
    bif small 72 then sem PGM d yM_init (76, [some (.ref r0)], [.ref (List.length h), .ref r0], (h ++ [.inl (tyN 0, ints ((72 : Int32).toNatClampNeg))]))
    else none := (ev_eq PGM d yM_init [10, 13, 19, 22, 28, 31, 37, 40, 46, 49, 54, 57, 63, 66, 71, 76, 79, 84, 87, 91, 95, 99, 103, 107, 110, 114, 117, 123, 126, 130, 134, 138, 142, 146, 149, 153, 156, 160, 163, 168, 171, 178, 185, 193] 400 _).trans rfl
set_option maxRecDepth 100000 in
theorem eM_init_76 (d : Nat) (h : AH) (r0 : Nat) (q0 : Nat) (q1 : Nat) : sem PGM d yM_init (76, [some (.ref r0)], [.ref q1, .ref q0], h) =
    bif okP h q0 7 16 && !(Nat.beq q1 9) then sem PGM d yM_init (79, [some (.ref r0)], [], (pF h q0 16 (.ref q1)))
    else none := (ev_eq PGM d yM_init [10, 13, 19, 22, 28, 31, 37, 40, 46, 49, 54, 57, 63, 66, 71, 76, 79, 84, 87, 91, 95, 99, 103, 107, 110, 114, 117, 123, 126, 130, 134, 138, 142, 146, 149, 153, 156, 160, 163, 168, 171, 178, 185, 193] 400 _).trans rfl
set_option maxRecDepth 100000 in
theorem eM_init_79 (d : Nat) (h : AH) (r0 : Nat) : sem PGM d yM_init (79, [some (.ref r0)], [], h) =
    bif small 72 then sem PGM d yM_init (84, [some (.ref r0)], [.ref (List.length h), .ref r0], (h ++ [.inl (tyN 0, ints ((72 : Int32).toNatClampNeg))]))
    else none := (ev_eq PGM d yM_init [10, 13, 19, 22, 28, 31, 37, 40, 46, 49, 54, 57, 63, 66, 71, 76, 79, 84, 87, 91, 95, 99, 103, 107, 110, 114, 117, 123, 126, 130, 134, 138, 142, 146, 149, 153, 156, 160, 163, 168, 171, 178, 185, 193] 400 _).trans rfl
set_option maxRecDepth 100000 in
theorem eM_init_84 (d : Nat) (h : AH) (r0 : Nat) (q0 : Nat) (q1 : Nat) : sem PGM d yM_init (84, [some (.ref r0)], [.ref q1, .ref q0], h) =
    bif okP h q0 7 22 && !(Nat.beq q1 9) then sem PGM d yM_init (87, [some (.ref r0)], [], (pF h q0 22 (.ref q1)))
    else none := (ev_eq PGM d yM_init [10, 13, 19, 22, 28, 31, 37, 40, 46, 49, 54, 57, 63, 66, 71, 76, 79, 84, 87, 91, 95, 99, 103, 107, 110, 114, 117, 123, 126, 130, 134, 138, 142, 146, 149, 153, 156, 160, 163, 168, 171, 178, 185, 193] 400 _).trans rfl
set_option maxRecDepth 100000 in
theorem eM_init_87 (d : Nat) (h : AH) (r0 : Nat) : sem PGM d yM_init (87, [some (.ref r0)], [], h) =
    bif small 4 then sem PGM d yM_init (91, [some (.ref r0)], [.ref (List.length h), .ref r0], (h ++ [.inl (tyN 0, ints ((4 : Int32).toNatClampNeg))]))
    else none := (ev_eq PGM d yM_init [10, 13, 19, 22, 28, 31, 37, 40, 46, 49, 54, 57, 63, 66, 71, 76, 79, 84, 87, 91, 95, 99, 103, 107, 110, 114, 117, 123, 126, 130, 134, 138, 142, 146, 149, 153, 156, 160, 163, 168, 171, 178, 185, 193] 400 _).trans rfl
set_option maxRecDepth 100000 in
theorem eM_init_91 (d : Nat) (h : AH) (r0 : Nat) (q0 : Nat) (q1 : Nat) : sem PGM d yM_init (91, [some (.ref r0)], [.ref q1, .ref q0], h) =
    bif Nat.ble 12 q1 && inA h q1 0 0 then sem PGM d yM_init (95, [some (.ref r0)], [.ref q1, .ref q0], (wA h q1 0 (-1)))
    else none := (ev_eq PGM d yM_init [10, 13, 19, 22, 28, 31, 37, 40, 46, 49, 54, 57, 63, 66, 71, 76, 79, 84, 87, 91, 95, 99, 103, 107, 110, 114, 117, 123, 126, 130, 134, 138, 142, 146, 149, 153, 156, 160, 163, 168, 171, 178, 185, 193] 400 _).trans rfl
set_option maxRecDepth 100000 in
theorem eM_init_95 (d : Nat) (h : AH) (r0 : Nat) (q0 : Nat) (q1 : Nat) : sem PGM d yM_init (95, [some (.ref r0)], [.ref q1, .ref q0], h) =
    bif Nat.ble 12 q1 && inA h q1 0 1 then sem PGM d yM_init (99, [some (.ref r0)], [.ref q1, .ref q0], (wA h q1 1 (-1)))
    else none := (ev_eq PGM d yM_init [10, 13, 19, 22, 28, 31, 37, 40, 46, 49, 54, 57, 63, 66, 71, 76, 79, 84, 87, 91, 95, 99, 103, 107, 110, 114, 117, 123, 126, 130, 134, 138, 142, 146, 149, 153, 156, 160, 163, 168, 171, 178, 185, 193] 400 _).trans rfl
set_option maxRecDepth 100000 in
theorem eM_init_99 (d : Nat) (h : AH) (r0 : Nat) (q0 : Nat) (q1 : Nat) : sem PGM d yM_init (99, [some (.ref r0)], [.ref q1, .ref q0], h) =
    bif Nat.ble 12 q1 && inA h q1 0 2 then sem PGM d yM_init (103, [some (.ref r0)], [.ref q1, .ref q0], (wA h q1 2 (-1)))
    else none := (ev_eq PGM d yM_init [10, 13, 19, 22, 28, 31, 37, 40, 46, 49, 54, 57, 63, 66, 71, 76, 79, 84, 87, 91, 95, 99, 103, 107, 110, 114, 117, 123, 126, 130, 134, 138, 142, 146, 149, 153, 156, 160, 163, 168, 171, 178, 185, 193] 400 _).trans rfl
set_option maxRecDepth 100000 in
theorem eM_init_103 (d : Nat) (h : AH) (r0 : Nat) (q0 : Nat) (q1 : Nat) : sem PGM d yM_init (103, [some (.ref r0)], [.ref q1, .ref q0], h) =
    bif Nat.ble 12 q1 && inA h q1 0 3 then sem PGM d yM_init (107, [some (.ref r0)], [.ref q1, .ref q0], (wA h q1 3 (-1)))
    else none := (ev_eq PGM d yM_init [10, 13, 19, 22, 28, 31, 37, 40, 46, 49, 54, 57, 63, 66, 71, 76, 79, 84, 87, 91, 95, 99, 103, 107, 110, 114, 117, 123, 126, 130, 134, 138, 142, 146, 149, 153, 156, 160, 163, 168, 171, 178, 185, 193] 400 _).trans rfl
set_option maxRecDepth 100000 in
theorem eM_init_107 (d : Nat) (h : AH) (r0 : Nat) (q0 : Nat) (q1 : Nat) : sem PGM d yM_init (107, [some (.ref r0)], [.ref q1, .ref q0], h) =
    bif okP h q0 7 24 && !(Nat.beq q1 9) then sem PGM d yM_init (110, [some (.ref r0)], [], (pF h q0 24 (.ref q1)))
    else none := (ev_eq PGM d yM_init [10, 13, 19, 22, 28, 31, 37, 40, 46, 49, 54, 57, 63, 66, 71, 76, 79, 84, 87, 91, 95, 99, 103, 107, 110, 114, 117, 123, 126, 130, 134, 138, 142, 146, 149, 153, 156, 160, 163, 168, 171, 178, 185, 193] 400 _).trans rfl
set_option maxRecDepth 100000 in
theorem eM_init_110 (d : Nat) (h : AH) (r0 : Nat) : sem PGM d yM_init (110, [some (.ref r0)], [], h) =
    bif small 4 then sem PGM d yM_init (114, [some (.ref r0)], [.ref (List.length h), .ref r0], (h ++ [.inl (tyN 0, ints ((4 : Int32).toNatClampNeg))]))
    else none := (ev_eq PGM d yM_init [10, 13, 19, 22, 28, 31, 37, 40, 46, 49, 54, 57, 63, 66, 71, 76, 79, 84, 87, 91, 95, 99, 103, 107, 110, 114, 117, 123, 126, 130, 134, 138, 142, 146, 149, 153, 156, 160, 163, 168, 171, 178, 185, 193] 400 _).trans rfl
set_option maxRecDepth 100000 in
theorem eM_init_114 (d : Nat) (h : AH) (r0 : Nat) (q0 : Nat) (q1 : Nat) : sem PGM d yM_init (114, [some (.ref r0)], [.ref q1, .ref q0], h) =
    bif okP h q0 7 25 && !(Nat.beq q1 9) then sem PGM d yM_init (117, [some (.ref r0)], [], (pF h q0 25 (.ref q1)))
    else none := (ev_eq PGM d yM_init [10, 13, 19, 22, 28, 31, 37, 40, 46, 49, 54, 57, 63, 66, 71, 76, 79, 84, 87, 91, 95, 99, 103, 107, 110, 114, 117, 123, 126, 130, 134, 138, 142, 146, 149, 153, 156, 160, 163, 168, 171, 178, 185, 193] 400 _).trans rfl
set_option maxRecDepth 100000 in
theorem eM_init_117 (d : Nat) (h : AH) (r0 : Nat) : sem PGM d yM_init (117, [some (.ref r0)], [], h) =
    bif small 160 then sem PGM d yM_init (123, [some (.ref r0)], [.ref (List.length h), .ref r0], (h ++ [.inl (tyN 0, ints ((160 : Int32).toNatClampNeg))]))
    else none := (ev_eq PGM d yM_init [10, 13, 19, 22, 28, 31, 37, 40, 46, 49, 54, 57, 63, 66, 71, 76, 79, 84, 87, 91, 95, 99, 103, 107, 110, 114, 117, 123, 126, 130, 134, 138, 142, 146, 149, 153, 156, 160, 163, 168, 171, 178, 185, 193] 400 _).trans rfl
set_option maxRecDepth 100000 in
theorem eM_init_123 (d : Nat) (h : AH) (r0 : Nat) (q0 : Nat) (q1 : Nat) : sem PGM d yM_init (123, [some (.ref r0)], [.ref q1, .ref q0], h) =
    bif okP h q0 7 26 && !(Nat.beq q1 9) then sem PGM d yM_init (126, [some (.ref r0)], [], (pF h q0 26 (.ref q1)))
    else none := (ev_eq PGM d yM_init [10, 13, 19, 22, 28, 31, 37, 40, 46, 49, 54, 57, 63, 66, 71, 76, 79, 84, 87, 91, 95, 99, 103, 107, 110, 114, 117, 123, 126, 130, 134, 138, 142, 146, 149, 153, 156, 160, 163, 168, 171, 178, 185, 193] 400 _).trans rfl
set_option maxRecDepth 100000 in
theorem eM_init_126 (d : Nat) (h : AH) (r0 : Nat) : sem PGM d yM_init (126, [some (.ref r0)], [], h) =
    bif small 4 then sem PGM d yM_init (130, [some (.ref r0)], [.ref (List.length h), .ref r0], (h ++ [.inl (tyN 0, ints ((4 : Int32).toNatClampNeg))]))
    else none := (ev_eq PGM d yM_init [10, 13, 19, 22, 28, 31, 37, 40, 46, 49, 54, 57, 63, 66, 71, 76, 79, 84, 87, 91, 95, 99, 103, 107, 110, 114, 117, 123, 126, 130, 134, 138, 142, 146, 149, 153, 156, 160, 163, 168, 171, 178, 185, 193] 400 _).trans rfl
set_option maxRecDepth 100000 in
theorem eM_init_130 (d : Nat) (h : AH) (r0 : Nat) (q0 : Nat) (q1 : Nat) : sem PGM d yM_init (130, [some (.ref r0)], [.ref q1, .ref q0], h) =
    bif Nat.ble 12 q1 && inA h q1 0 0 then sem PGM d yM_init (134, [some (.ref r0)], [.ref q1, .ref q0], (wA h q1 0 3))
    else none := (ev_eq PGM d yM_init [10, 13, 19, 22, 28, 31, 37, 40, 46, 49, 54, 57, 63, 66, 71, 76, 79, 84, 87, 91, 95, 99, 103, 107, 110, 114, 117, 123, 126, 130, 134, 138, 142, 146, 149, 153, 156, 160, 163, 168, 171, 178, 185, 193] 400 _).trans rfl
set_option maxRecDepth 100000 in
theorem eM_init_134 (d : Nat) (h : AH) (r0 : Nat) (q0 : Nat) (q1 : Nat) : sem PGM d yM_init (134, [some (.ref r0)], [.ref q1, .ref q0], h) =
    bif Nat.ble 12 q1 && inA h q1 0 1 then sem PGM d yM_init (138, [some (.ref r0)], [.ref q1, .ref q0], (wA h q1 1 3))
    else none := (ev_eq PGM d yM_init [10, 13, 19, 22, 28, 31, 37, 40, 46, 49, 54, 57, 63, 66, 71, 76, 79, 84, 87, 91, 95, 99, 103, 107, 110, 114, 117, 123, 126, 130, 134, 138, 142, 146, 149, 153, 156, 160, 163, 168, 171, 178, 185, 193] 400 _).trans rfl
set_option maxRecDepth 100000 in
theorem eM_init_138 (d : Nat) (h : AH) (r0 : Nat) (q0 : Nat) (q1 : Nat) : sem PGM d yM_init (138, [some (.ref r0)], [.ref q1, .ref q0], h) =
    bif Nat.ble 12 q1 && inA h q1 0 2 then sem PGM d yM_init (142, [some (.ref r0)], [.ref q1, .ref q0], (wA h q1 2 3))
    else none := (ev_eq PGM d yM_init [10, 13, 19, 22, 28, 31, 37, 40, 46, 49, 54, 57, 63, 66, 71, 76, 79, 84, 87, 91, 95, 99, 103, 107, 110, 114, 117, 123, 126, 130, 134, 138, 142, 146, 149, 153, 156, 160, 163, 168, 171, 178, 185, 193] 400 _).trans rfl
set_option maxRecDepth 100000 in
theorem eM_init_142 (d : Nat) (h : AH) (r0 : Nat) (q0 : Nat) (q1 : Nat) : sem PGM d yM_init (142, [some (.ref r0)], [.ref q1, .ref q0], h) =
    bif Nat.ble 12 q1 && inA h q1 0 3 then sem PGM d yM_init (146, [some (.ref r0)], [.ref q1, .ref q0], (wA h q1 3 3))
    else none := (ev_eq PGM d yM_init [10, 13, 19, 22, 28, 31, 37, 40, 46, 49, 54, 57, 63, 66, 71, 76, 79, 84, 87, 91, 95, 99, 103, 107, 110, 114, 117, 123, 126, 130, 134, 138, 142, 146, 149, 153, 156, 160, 163, 168, 171, 178, 185, 193] 400 _).trans rfl
set_option maxRecDepth 100000 in
theorem eM_init_146 (d : Nat) (h : AH) (r0 : Nat) (q0 : Nat) (q1 : Nat) : sem PGM d yM_init (146, [some (.ref r0)], [.ref q1, .ref q0], h) =
    bif okP h q0 7 27 && !(Nat.beq q1 9) then sem PGM d yM_init (149, [some (.ref r0)], [], (pF h q0 27 (.ref q1)))
    else none := (ev_eq PGM d yM_init [10, 13, 19, 22, 28, 31, 37, 40, 46, 49, 54, 57, 63, 66, 71, 76, 79, 84, 87, 91, 95, 99, 103, 107, 110, 114, 117, 123, 126, 130, 134, 138, 142, 146, 149, 153, 156, 160, 163, 168, 171, 178, 185, 193] 400 _).trans rfl
set_option maxRecDepth 100000 in
theorem eM_init_149 (d : Nat) (h : AH) (r0 : Nat) : sem PGM d yM_init (149, [some (.ref r0)], [], h) =
    bif small 4 then sem PGM d yM_init (153, [some (.ref r0)], [.ref (List.length h), .ref r0], (h ++ [.inl (tyN 0, ints ((4 : Int32).toNatClampNeg))]))
    else none := (ev_eq PGM d yM_init [10, 13, 19, 22, 28, 31, 37, 40, 46, 49, 54, 57, 63, 66, 71, 76, 79, 84, 87, 91, 95, 99, 103, 107, 110, 114, 117, 123, 126, 130, 134, 138, 142, 146, 149, 153, 156, 160, 163, 168, 171, 178, 185, 193] 400 _).trans rfl
set_option maxRecDepth 100000 in
theorem eM_init_153 (d : Nat) (h : AH) (r0 : Nat) (q0 : Nat) (q1 : Nat) : sem PGM d yM_init (153, [some (.ref r0)], [.ref q1, .ref q0], h) =
    bif okP h q0 7 28 && !(Nat.beq q1 9) then sem PGM d yM_init (156, [some (.ref r0)], [], (pF h q0 28 (.ref q1)))
    else none := (ev_eq PGM d yM_init [10, 13, 19, 22, 28, 31, 37, 40, 46, 49, 54, 57, 63, 66, 71, 76, 79, 84, 87, 91, 95, 99, 103, 107, 110, 114, 117, 123, 126, 130, 134, 138, 142, 146, 149, 153, 156, 160, 163, 168, 171, 178, 185, 193] 400 _).trans rfl
set_option maxRecDepth 100000 in
theorem eM_init_156 (d : Nat) (h : AH) (r0 : Nat) : sem PGM d yM_init (156, [some (.ref r0)], [], h) =
    bif small 4 then sem PGM d yM_init (160, [some (.ref r0)], [.ref (List.length h), .ref r0], (h ++ [.inl (tyN 0, ints ((4 : Int32).toNatClampNeg))]))
    else none := (ev_eq PGM d yM_init [10, 13, 19, 22, 28, 31, 37, 40, 46, 49, 54, 57, 63, 66, 71, 76, 79, 84, 87, 91, 95, 99, 103, 107, 110, 114, 117, 123, 126, 130, 134, 138, 142, 146, 149, 153, 156, 160, 163, 168, 171, 178, 185, 193] 400 _).trans rfl
set_option maxRecDepth 100000 in
theorem eM_init_160 (d : Nat) (h : AH) (r0 : Nat) (q0 : Nat) (q1 : Nat) : sem PGM d yM_init (160, [some (.ref r0)], [.ref q1, .ref q0], h) =
    bif okP h q0 7 29 && !(Nat.beq q1 9) then sem PGM d yM_init (163, [some (.ref r0)], [], (pF h q0 29 (.ref q1)))
    else none := (ev_eq PGM d yM_init [10, 13, 19, 22, 28, 31, 37, 40, 46, 49, 54, 57, 63, 66, 71, 76, 79, 84, 87, 91, 95, 99, 103, 107, 110, 114, 117, 123, 126, 130, 134, 138, 142, 146, 149, 153, 156, 160, 163, 168, 171, 178, 185, 193] 400 _).trans rfl
set_option maxRecDepth 100000 in
theorem eM_init_163 (d : Nat) (h : AH) (r0 : Nat) : sem PGM d yM_init (163, [some (.ref r0)], [], h) =
    bif small 30 then sem PGM d yM_init (168, [some (.ref r0)], [.ref (List.length h), .ref r0], (h ++ [.inl (tyN 0, ints ((30 : Int32).toNatClampNeg))]))
    else none := (ev_eq PGM d yM_init [10, 13, 19, 22, 28, 31, 37, 40, 46, 49, 54, 57, 63, 66, 71, 76, 79, 84, 87, 91, 95, 99, 103, 107, 110, 114, 117, 123, 126, 130, 134, 138, 142, 146, 149, 153, 156, 160, 163, 168, 171, 178, 185, 193] 400 _).trans rfl
set_option maxRecDepth 100000 in
theorem eM_init_168 (d : Nat) (h : AH) (r0 : Nat) (q0 : Nat) (q1 : Nat) : sem PGM d yM_init (168, [some (.ref r0)], [.ref q1, .ref q0], h) =
    bif okP h q0 7 33 && !(Nat.beq q1 9) then sem PGM d yM_init (171, [some (.ref r0)], [], (pF h q0 33 (.ref q1)))
    else none := (ev_eq PGM d yM_init [10, 13, 19, 22, 28, 31, 37, 40, 46, 49, 54, 57, 63, 66, 71, 76, 79, 84, 87, 91, 95, 99, 103, 107, 110, 114, 117, 123, 126, 130, 134, 138, 142, 146, 149, 153, 156, 160, 163, 168, 171, 178, 185, 193] 400 _).trans rfl
set_option maxRecDepth 100000 in
theorem eM_init_171 (d : Nat) (h : AH) (r0 : Nat) : sem PGM d yM_init (171, [some (.ref r0)], [], h) =
    bif okN h r0 7 0 then none
    else bif okR h r0 7 0 then bif Nat.ble 12 (gR h r0 0) && inA h (gR h r0 0) 0 4 then sem PGM d yM_init (178, [some (.ref r0)], [], (wA h (gR h r0 0) 4 1))
      else none
    else none := (ev_eq PGM d yM_init [10, 13, 19, 22, 28, 31, 37, 40, 46, 49, 54, 57, 63, 66, 71, 76, 79, 84, 87, 91, 95, 99, 103, 107, 110, 114, 117, 123, 126, 130, 134, 138, 142, 146, 149, 153, 156, 160, 163, 168, 171, 178, 185, 193] 400 _).trans rfl
set_option maxRecDepth 100000 in
theorem eM_init_178 (d : Nat) (h : AH) (r0 : Nat) : sem PGM d yM_init (178, [some (.ref r0)], [], h) =
    bif okN h r0 7 0 then none
    else bif okR h r0 7 0 then bif Nat.ble 12 (gR h r0 0) && inA h (gR h r0 0) 0 5 then sem PGM d yM_init (185, [some (.ref r0)], [], (wA h (gR h r0 0) 5 3))
      else none
    else none := (ev_eq PGM d yM_init [10, 13, 19, 22, 28, 31, 37, 40, 46, 49, 54, 57, 63, 66, 71, 76, 79, 84, 87, 91, 95, 99, 103, 107, 110, 114, 117, 123, 126, 130, 134, 138, 142, 146, 149, 153, 156, 160, 163, 168, 171, 178, 185, 193] 400 _).trans rfl
set_option maxRecDepth 100000 in
theorem eM_init_185 (d : Nat) (h : AH) (r0 : Nat) : sem PGM d yM_init (185, [some (.ref r0)], [], h) =
    bif okN h r0 7 0 then none
    else bif okR h r0 7 0 then bif Nat.ble 12 (gR h r0 0) && inA h (gR h r0 0) 0 6 then sem PGM d yM_init (193, [some (.ref r0)], [], (wA h (gR h r0 0) 6 2))
      else none
    else none := (ev_eq PGM d yM_init [10, 13, 19, 22, 28, 31, 37, 40, 46, 49, 54, 57, 63, 66, 71, 76, 79, 84, 87, 91, 95, 99, 103, 107, 110, 114, 117, 123, 126, 130, 134, 138, 142, 146, 149, 153, 156, 160, 163, 168, 171, 178, 185, 193] 400 _).trans rfl
set_option maxRecDepth 100000 in
theorem eM_init_193 (d : Nat) (h : AH) (r0 : Nat) : sem PGM d yM_init (193, [some (.ref r0)], [], h) =
    bif okN h r0 7 0 then none
    else bif okR h r0 7 0 then bif Nat.ble 12 (gR h r0 0) && inA h (gR h r0 0) 0 7 then bif okC (wA h (gR h r0 0) 7 3) r0 7 && true then aftK (sem PGM d yM_init) 0 (207, [some (.ref r0)], [], (wA h (gR h r0 0) 7 3)) (call PGM d yM_paves [.ref r0, .int 10] (wA h (gR h r0 0) 7 3))
        else none
      else none
    else none := (ev_eq PGM d yM_init [10, 13, 19, 22, 28, 31, 37, 40, 46, 49, 54, 57, 63, 66, 71, 76, 79, 84, 87, 91, 95, 99, 103, 107, 110, 114, 117, 123, 126, 130, 134, 138, 142, 146, 149, 153, 156, 160, 163, 168, 171, 178, 185, 193] 400 _).trans rfl
set_option maxRecDepth 100000 in
theorem eM_init_207 (d : Nat) (h : AH) (u0 : Option Value) : sem PGM d yM_init (207, [u0], [], h) =
    some (none, h) := (ev_eq PGM d yM_init [10, 13, 19, 22, 28, 31, 37, 40, 46, 49, 54, 57, 63, 66, 71, 76, 79, 84, 87, 91, 95, 99, 103, 107, 110, 114, 117, 123, 126, 130, 134, 138, 142, 146, 149, 153, 156, 160, 163, 168, 171, 178, 185, 193] 400 _).trans rfl
set_option maxRecDepth 100000 in
theorem eMh_paves_0 (d : Nat) (h : AH) (r0 : Nat) (i1 : Int32) : sem PGM d yM_paves (0, [some (.ref r0), some (.int i1), none], [], h) =
    bif okN h r0 7 0 then none
    else bif okR h r0 7 0 then bif Nat.ble 12 (gR h r0 0) && inA h (gR h r0 0) 0 0 then sem PGM d yM_paves (7, [some (.ref r0), some (.int i1), none], [], (wA h (gR h r0 0) 0 i1))
      else none
    else none := (ev_eq PGM d yM_paves [7, 9, 27, 41, 55] 400 _).trans rfl
set_option maxRecDepth 100000 in
theorem eMh_paves_7 (d : Nat) (h : AH) (r0 : Nat) (i1 : Int32) (u2 : Option Value) : sem PGM d yM_paves (7, [some (.ref r0), some (.int i1), u2], [], h) =
    sem PGM d yM_paves (9, [some (.ref r0), some (.int i1), some (.int 0)], [], h) := (ev_eq PGM d yM_paves [7, 9, 27, 41, 55] 400 _).trans rfl
set_option maxRecDepth 100000 in
theorem eMh_paves_9 (d : Nat) (h : AH) (r0 : Nat) (i1 : Int32) (i2 : Int32) : sem PGM d yM_paves (9, [some (.ref r0), some (.int i1), some (.int i2)], [], h) =
    bif decide (30 ≤ i2) then some (none, h)
    else bif okN h r0 7 0 then none
      else bif okR h r0 7 0 then bif Nat.ble 12 (gR h r0 0) && inA h (gR h r0 0) 0 (9 + (3 * i2)) then sem PGM d yM_paves (27, [some (.ref r0), some (.int i1), some (.int i2)], [], (wA h (gR h r0 0) (9 + (3 * i2)) 3))
        else none
      else none := (ev_eq PGM d yM_paves [7, 9, 27, 41, 55] 400 _).trans rfl
set_option maxRecDepth 100000 in
theorem eMh_paves_27 (d : Nat) (h : AH) (r0 : Nat) (i1 : Int32) (i2 : Int32) : sem PGM d yM_paves (27, [some (.ref r0), some (.int i1), some (.int i2)], [], h) =
    bif okN h r0 7 0 then none
    else bif okR h r0 7 0 then bif Nat.ble 12 (gR h r0 0) && inA h (gR h r0 0) 0 ((9 + (3 * i2)) + 1) then sem PGM d yM_paves (41, [some (.ref r0), some (.int i1), some (.int i2)], [], (wA h (gR h r0 0) ((9 + (3 * i2)) + 1) 0))
      else none
    else none := (ev_eq PGM d yM_paves [7, 9, 27, 41, 55] 400 _).trans rfl
set_option maxRecDepth 100000 in
theorem eMh_paves_41 (d : Nat) (h : AH) (r0 : Nat) (i1 : Int32) (i2 : Int32) : sem PGM d yM_paves (41, [some (.ref r0), some (.int i1), some (.int i2)], [], h) =
    bif okN h r0 7 0 then none
    else bif okR h r0 7 0 then bif Nat.ble 12 (gR h r0 0) && inA h (gR h r0 0) 0 ((9 + (3 * i2)) + 2) then sem PGM d yM_paves (55, [some (.ref r0), some (.int i1), some (.int i2)], [], (wA h (gR h r0 0) ((9 + (3 * i2)) + 2) 0))
      else none
    else none := (ev_eq PGM d yM_paves [7, 9, 27, 41, 55] 400 _).trans rfl
set_option maxRecDepth 100000 in
theorem eMh_paves_55 (d : Nat) (h : AH) (r0 : Nat) (i1 : Int32) (i2 : Int32) : sem PGM d yM_paves (55, [some (.ref r0), some (.int i1), some (.int i2)], [], h) =
    sem PGM d yM_paves (9, [some (.ref r0), some (.int i1), some (.int (i2 + 1))], [], h) := (ev_eq PGM d yM_paves [7, 9, 27, 41, 55] 400 _).trans rfl
