/-! Equations of blocks, by wip/whole/gen/alleq.py. -/
set_option maxRecDepth 100000 in
theorem eM_fallsOf_0 (d : Nat) (Z : ZT) (M : MS) (i1 : Int32) : sem PGM d yM_fallsOf (0, [some (.ref 91), some (.int i1)], [], (hM Z M)) =
    bif decide ((M.2 15) = Int32.ofInt 3) then aftK (sem PGM d yM_fallsOf) 1 (45, [some (.ref 91), some (.int i1)], [], (hM Z M)) (call PGM d yM_fallenFalls [.ref 91, .int i1] (hM Z M))
    else bif decide ((M.2 15) = Int32.ofInt 6) then aftK (sem PGM d yM_fallsOf) 0 (52, [some (.ref 91), some (.int i1)], [], (hM Z M)) (call PGM d yM_ran [.ref 91, .int 70] (hM Z M))
    else bif decide ((M.2 15) = Int32.ofInt 8) then aftK (sem PGM d yM_fallsOf) 0 (66, [some (.ref 91), some (.int i1)], [], (hM Z M)) (call PGM d yM_ran [.ref 91, .int 92] (hM Z M))
    else aftK (sem PGM d yM_fallsOf) 1 (78, [some (.ref 91), some (.int i1)], [], (hM Z M)) (call PGM d yM_anyFalls [.ref 91, .int i1] (hM Z M)) := (ev_eq PGM d yM_fallsOf [] 400 _).trans rfl
set_option maxRecDepth 100000 in
theorem eM_fallsOf_45 (d : Nat) (Z : ZT) (M : MS) (u0 : Option Value) (u1 : Option Value) (k0 : Int32) : sem PGM d yM_fallsOf (45, [u0, u1], [.int k0], (hM Z M)) =
    some (some (.int k0), (hM Z M)) := (ev_eq PGM d yM_fallsOf [] 400 _).trans rfl
set_option maxRecDepth 100000 in
theorem eM_fallsOf_52 (d : Nat) (Z : ZT) (M : MS) (i1 : Int32) : sem PGM d yM_fallsOf (52, [some (.ref 91), some (.int i1)], [], (hM Z M)) =
    aftK (sem PGM d yM_fallsOf) 1 (57, [some (.ref 91), some (.int i1)], [], (hM Z M)) (call PGM d yM_fallenFalls [.ref 91, .int i1] (hM Z M)) := (ev_eq PGM d yM_fallsOf [] 400 _).trans rfl
set_option maxRecDepth 100000 in
theorem eM_fallsOf_66 (d : Nat) (Z : ZT) (M : MS) (i1 : Int32) : sem PGM d yM_fallsOf (66, [some (.ref 91), some (.int i1)], [], (hM Z M)) =
    some (some (.int (i1 ||| (M.2 17))), (hM Z M)) := (ev_eq PGM d yM_fallsOf [] 400 _).trans rfl
set_option maxRecDepth 100000 in
theorem eM_fallsOf_78 (d : Nat) (Z : ZT) (M : MS) (u0 : Option Value) (u1 : Option Value) (k0 : Int32) : sem PGM d yM_fallsOf (78, [u0, u1], [.int k0], (hM Z M)) =
    some (some (.int k0), (hM Z M)) := (ev_eq PGM d yM_fallsOf [] 400 _).trans rfl
set_option maxRecDepth 100000 in
theorem eM_fallsOf_57 (d : Nat) (Z : ZT) (M : MS) (u0 : Option Value) (u1 : Option Value) (k0 : Int32) : sem PGM d yM_fallsOf (57, [u0, u1], [.int k0], (hM Z M)) =
    some (some (.int (k0 ^^^ 1)), (hM Z M)) := (ev_eq PGM d yM_fallsOf [] 400 _).trans rfl
set_option maxRecDepth 100000 in
theorem eM_fallenFalls_0 (d : Nat) (Z : ZT) (M : MS) (i1 : Int32) : sem PGM d yM_fallenFalls (0, [some (.ref 91), some (.int i1)], [], (hM Z M)) =
    aftK (sem PGM d yM_fallenFalls) 0 (6, [some (.ref 91), some (.int i1)], [], (hM Z M)) (call PGM d yM_ran [.ref 91, .int 40] (hM Z M)) := (ev_eq PGM d yM_fallenFalls [] 400 _).trans rfl
set_option maxRecDepth 100000 in
theorem eM_fallenFalls_6 (d : Nat) (Z : ZT) (M : MS) (i1 : Int32) : sem PGM d yM_fallenFalls (6, [some (.ref 91), some (.int i1)], [], (hM Z M)) =
    aftK (sem PGM d yM_fallenFalls) 1 (13, [some (.ref 91), some (.int i1)], [], (hM Z M)) (call PGM d yM_anyFalls [.ref 91, .int (i1 + 1)] (hM Z M)) := (ev_eq PGM d yM_fallenFalls [] 400 _).trans rfl
set_option maxRecDepth 100000 in
theorem eM_fallenFalls_13 (d : Nat) (Z : ZT) (M : MS) (u0 : Option Value) (u1 : Option Value) (k0 : Int32) : sem PGM d yM_fallenFalls (13, [u0, u1], [.int k0], (hM Z M)) =
    some (some (.int k0), (hM Z M)) := (ev_eq PGM d yM_fallenFalls [] 400 _).trans rfl
set_option maxRecDepth 100000 in
theorem eM_anyFalls_0 (d : Nat) (Z : ZT) (M : MS) (i1 : Int32) : sem PGM d yM_anyFalls (0, [some (.ref 91), some (.int i1)], [], (hM Z M)) =
    aftK (sem PGM d yM_anyFalls) 0 (6, [some (.ref 91), some (.int i1)], [], (hM Z M)) (call PGM d yM_ran [.ref 91, .int 12] (hM Z M)) := (ev_eq PGM d yM_anyFalls [33] 400 _).trans rfl
set_option maxRecDepth 100000 in
theorem eM_anyFalls_6 (d : Nat) (Z : ZT) (M : MS) (i1 : Int32) : sem PGM d yM_anyFalls (6, [some (.ref 91), some (.int i1)], [], (hM Z M)) =
    bif !decide ((M.2 19) = 0) then sem PGM d yM_anyFalls (33, [some (.ref 91), some (.int i1)], [], (hM Z (mV M 19 1)))
    else bif !decide ((M.2 17) = (M.2 16)) then sem PGM d yM_anyFalls (33, [some (.ref 91), some (.int i1)], [], (hM Z (mV M 19 0)))
      else sem PGM d yM_anyFalls (33, [some (.ref 91), some (.int i1)], [], (hM Z (mV M 19 1))) := (ev_eq PGM d yM_anyFalls [33] 400 _).trans rfl
set_option maxRecDepth 100000 in
theorem eM_anyFalls_33 (d : Nat) (Z : ZT) (M : MS) (i1 : Int32) : sem PGM d yM_anyFalls (33, [some (.ref 91), some (.int i1)], [], (hM Z M)) =
    bif !decide ((M.2 17) = (M.2 16)) then bif !decide (((M.2 17) - (M.2 16)) = 0) then some (some (.int (i1 / ((M.2 17) - (M.2 16)))), (hM Z M))
      else none
    else some (some (.int 0), (hM Z M)) := (ev_eq PGM d yM_anyFalls [33] 400 _).trans rfl
set_option maxRecDepth 100000 in
theorem eM_harmsOf_0 (d : Nat) (Z : ZT) (M : MS) (i1 : Int32) : sem PGM d yM_harmsOf (0, [some (.ref 91), some (.int i1), none], [], (hM Z M)) =
    bif decide ((M.2 15) = Int32.ofInt 4) then aftK (sem PGM d yM_harmsOf) 0 (46, [some (.ref 91), some (.int i1), none], [], (hM Z M)) (call PGM d yM_ran [.ref 91, .int 51] (hM Z M))
    else bif decide ((M.2 15) = Int32.ofInt 5) then aftK (sem PGM d yM_harmsOf) 1 (105, [some (.ref 91), some (.int i1), none], [], (hM Z M)) (call PGM d yM_anyHarms [.ref 91, .int i1] (hM Z M))
    else bif decide ((M.2 15) = Int32.ofInt 6) then aftK (sem PGM d yM_harmsOf) 1 (105, [some (.ref 91), some (.int i1), none], [], (hM Z M)) (call PGM d yM_anyHarms [.ref 91, .int i1] (hM Z M))
    else bif decide ((M.2 15) = Int32.ofInt 7) then aftK (sem PGM d yM_harmsOf) 0 (69, [some (.ref 91), some (.int i1), none], [], (hM Z M)) (call PGM d yM_ran [.ref 91, .int 80] (hM Z M))
    else bif decide ((M.2 15) = Int32.ofInt 8) then aftK (sem PGM d yM_harmsOf) 0 (83, [some (.ref 91), some (.int i1), none], [], (hM Z M)) (call PGM d yM_ran [.ref 91, .int 93] (hM Z M))
    else aftK (sem PGM d yM_harmsOf) 1 (105, [some (.ref 91), some (.int i1), none], [], (hM Z M)) (call PGM d yM_anyHarms [.ref 91, .int i1] (hM Z M)) := (ev_eq PGM d yM_harmsOf [] 400 _).trans rfl
set_option maxRecDepth 100000 in
theorem eM_harmsOf_46 (d : Nat) (Z : ZT) (M : MS) (i1 : Int32) (u2 : Option Value) : sem PGM d yM_harmsOf (46, [some (.ref 91), some (.int i1), u2], [], (hM Z M)) =
    aftK (sem PGM d yM_harmsOf) 1 (51, [some (.ref 91), some (.int i1), u2], [], (hM Z M)) (call PGM d yM_anyHarms [.ref 91, .int i1] (hM Z M)) := (ev_eq PGM d yM_harmsOf [] 400 _).trans rfl
set_option maxRecDepth 100000 in
theorem eM_harmsOf_105 (d : Nat) (Z : ZT) (M : MS) (u0 : Option Value) (i1 : Int32) (u2 : Option Value) (k0 : Int32) : sem PGM d yM_harmsOf (105, [u0, some (.int i1), u2], [.int k0], (hM Z M)) =
    some (some (.int k0), (hM Z M)) := (ev_eq PGM d yM_harmsOf [] 400 _).trans rfl
set_option maxRecDepth 100000 in
theorem eM_harmsOf_69 (d : Nat) (Z : ZT) (M : MS) (i1 : Int32) (u2 : Option Value) : sem PGM d yM_harmsOf (69, [some (.ref 91), some (.int i1), u2], [], (hM Z M)) =
    aftK (sem PGM d yM_harmsOf) 1 (74, [some (.ref 91), some (.int i1), u2], [], (hM Z M)) (call PGM d yM_anyHarms [.ref 91, .int i1] (hM Z M)) := (ev_eq PGM d yM_harmsOf [] 400 _).trans rfl
set_option maxRecDepth 100000 in
theorem eM_harmsOf_83 (d : Nat) (Z : ZT) (M : MS) (i1 : Int32) (u2 : Option Value) : sem PGM d yM_harmsOf (83, [some (.ref 91), some (.int i1), u2], [], (hM Z M)) =
    aftK (sem PGM d yM_harmsOf) 1 (88, [some (.ref 91), some (.int i1), u2], [], (hM Z M)) (call PGM d yM_seesOf [.ref 91, .int i1] (hM Z M)) := (ev_eq PGM d yM_harmsOf [] 400 _).trans rfl
set_option maxRecDepth 100000 in
theorem eM_harmsOf_51 (d : Nat) (Z : ZT) (M : MS) (i1 : Int32) (u2 : Option Value) (k0 : Int32) : sem PGM d yM_harmsOf (51, [some (.ref 91), some (.int i1), u2], [.int k0], (hM Z M)) =
    aftK (sem PGM d yM_harmsOf) 1 (61, [some (.ref 91), some (.int i1), some (.int k0)], [.int k0], (hM Z M)) (call PGM d yM_fallsOf [.ref 91, .int (M.2 16)] (hM Z M)) := (ev_eq PGM d yM_harmsOf [] 400 _).trans rfl
set_option maxRecDepth 100000 in
theorem eM_harmsOf_74 (d : Nat) (Z : ZT) (M : MS) (u0 : Option Value) (i1 : Int32) (u2 : Option Value) (k0 : Int32) : sem PGM d yM_harmsOf (74, [u0, some (.int i1), u2], [.int k0], (hM Z M)) =
    some (some (.int (k0 * 2)), (hM Z M)) := (ev_eq PGM d yM_harmsOf [] 400 _).trans rfl
set_option maxRecDepth 100000 in
theorem eM_harmsOf_88 (d : Nat) (Z : ZT) (M : MS) (i1 : Int32) (u2 : Option Value) (k0 : Int32) : sem PGM d yM_harmsOf (88, [some (.ref 91), some (.int i1), u2], [.int k0], (hM Z M)) =
    aftK (sem PGM d yM_harmsOf) 1 (98, [some (.ref 91), some (.int i1), some (.int k0)], [.int k0], (hM Z M)) (call PGM d yM_fallsOf [.ref 91, .int (M.2 16)] (hM Z M)) := (ev_eq PGM d yM_harmsOf [] 400 _).trans rfl
set_option maxRecDepth 100000 in
theorem eM_harmsOf_61 (d : Nat) (Z : ZT) (M : MS) (u0 : Option Value) (i1 : Int32) (u2 : Option Value) (k0 : Int32) (k1 : Int32) : sem PGM d yM_harmsOf (61, [u0, some (.int i1), u2], [.int k1, .int k0], (hM Z M)) =
    some (some (.int (k0 + k1)), (hM Z M)) := (ev_eq PGM d yM_harmsOf [] 400 _).trans rfl
set_option maxRecDepth 100000 in
theorem eM_harmsOf_98 (d : Nat) (Z : ZT) (M : MS) (u0 : Option Value) (i1 : Int32) (u2 : Option Value) (k0 : Int32) (k1 : Int32) : sem PGM d yM_harmsOf (98, [u0, some (.int i1), u2], [.int k1, .int k0], (hM Z M)) =
    some (some (.int (k0 - k1)), (hM Z M)) := (ev_eq PGM d yM_harmsOf [] 400 _).trans rfl
set_option maxRecDepth 100000 in
theorem eM_anyHarms_0 (d : Nat) (Z : ZT) (M : MS) (i1 : Int32) : sem PGM d yM_anyHarms (0, [some (.ref 91), some (.int i1)], [], (hM Z M)) =
    aftK (sem PGM d yM_anyHarms) 0 (6, [some (.ref 91), some (.int i1)], [], (hM Z M)) (call PGM d yM_ran [.ref 91, .int 13] (hM Z M)) := (ev_eq PGM d yM_anyHarms [] 400 _).trans rfl
set_option maxRecDepth 100000 in
theorem eM_anyHarms_6 (d : Nat) (Z : ZT) (M : MS) (i1 : Int32) : sem PGM d yM_anyHarms (6, [some (.ref 91), some (.int i1)], [], (hM Z M)) =
    aftK (sem PGM d yM_anyHarms) 1 (11, [some (.ref 91), some (.int i1)], [], (hM Z M)) (call PGM d yM_seesOf [.ref 91, .int i1] (hM Z M)) := (ev_eq PGM d yM_anyHarms [] 400 _).trans rfl
set_option maxRecDepth 100000 in
theorem eM_anyHarms_11 (d : Nat) (Z : ZT) (M : MS) (u1 : Option Value) (k0 : Int32) : sem PGM d yM_anyHarms (11, [some (.ref 91), u1], [.int k0], (hM Z M)) =
    some (some (.int (k0 ^^^ (M.2 16))), (hM Z M)) := (ev_eq PGM d yM_anyHarms [] 400 _).trans rfl
set_option maxRecDepth 100000 in
theorem eM_trace_0 (d : Nat) (Z : ZT) (M : MS) (i1 : Int32) : sem PGM d yM_trace (0, [some (.ref 91), some (.int i1)], [], (hM Z M)) =
    aftK (sem PGM d yM_trace) 1 (13, [some (.ref 91), some (.int i1)], [], (hM Z M)) (call PGM d yM_in [.long ((i1).toInt64), .long 0, .long ((((M.2 18) - 1)).toInt64)] (hM Z M)) := (ev_eq PGM d yM_trace [] 400 _).trans rfl
set_option maxRecDepth 100000 in
theorem eM_trace_13 (d : Nat) (Z : ZT) (M : MS) (i1 : Int32) (k0 : Int32) : sem PGM d yM_trace (13, [some (.ref 91), some (.int i1)], [.int k0], (hM Z M)) =
    bif decide (k0 = 0) then some (some (.int (-3)), (hM Z M))
    else bif inb i1 30 then some (some (.int ((M.1 15) (i1).toNatClampNeg)), (hM Z M))
      else none := (ev_eq PGM d yM_trace [] 400 _).trans rfl
set_option maxRecDepth 100000 in
theorem eM_many_0 (d : Nat) (Z : ZT) (M : MS) (i1 : Int32) : sem PGM d yM_many (0, [some (.ref 91), some (.int i1)], [], (hM Z M)) =
    bif decide (i1 = Int32.ofInt 0) then some (some (.int ((M.1 0) 0)), (hM Z M))
    else bif decide (i1 = Int32.ofInt 1) then some (some (.int ((M.1 0) 1)), (hM Z M))
    else bif decide (i1 = Int32.ofInt 2) then some (some (.int ((M.1 0) 2)), (hM Z M))
    else bif decide (i1 = Int32.ofInt 3) then some (some (.int ((M.1 0) 8)), (hM Z M))
    else bif decide (i1 = Int32.ofInt 4) then some (some (.int (M.2 14)), (hM Z M))
    else bif decide (i1 = Int32.ofInt 5) then some (some (.int (M.2 1)), (hM Z M))
    else bif decide (i1 = Int32.ofInt 6) then some (some (.int (M.2 18)), (hM Z M))
    else some (some (.int (-1)), (hM Z M)) := (ev_eq PGM d yM_many [] 400 _).trans rfl
set_option maxRecDepth 100000 in
theorem eM_keep_0 (d : Nat) (Z : ZT) (M : MS)  : sem PGM d yM_keep (0, [some (.ref 91), none], [], (hM Z M)) =
    sem PGM d yM_keep (2, [some (.ref 91), some (.int 0)], [], (hM Z M)) := (ev_eq PGM d yM_keep [2, 21] 400 _).trans rfl
set_option maxRecDepth 100000 in
theorem eM_keep_2 (d : Nat) (Z : ZT) (M : MS) (i1 : Int32) : sem PGM d yM_keep (2, [some (.ref 91), some (.int i1)], [], (hM Z M)) =
    bif decide (437 ≤ i1) then some (some (.int 1), (hM Z (mV M 0 1)))
    else bif inb i1 437 then bif inb i1 437 then sem PGM d yM_keep (21, [some (.ref 91), some (.int i1)], [], (hM Z (mA M 1 (upd (M.1 1) (i1).toNatClampNeg ((M.1 0) (i1).toNatClampNeg)))))
        else none
      else none := (ev_eq PGM d yM_keep [2, 21] 400 _).trans rfl
set_option maxRecDepth 100000 in
theorem eM_keep_21 (d : Nat) (Z : ZT) (M : MS) (i1 : Int32) : sem PGM d yM_keep (21, [some (.ref 91), some (.int i1)], [], (hM Z M)) =
    sem PGM d yM_keep (2, [some (.ref 91), some (.int (i1 + 1))], [], (hM Z M)) := (ev_eq PGM d yM_keep [2, 21] 400 _).trans rfl
set_option maxRecDepth 100000 in
theorem eM_again_0 (d : Nat) (Z : ZT) (M : MS)  : sem PGM d yM_again (0, [some (.ref 91), none], [], (hM Z M)) =
    bif !decide ((M.2 0) = 0) then sem PGM d yM_again (12, [some (.ref 91), some (.int 0)], [], (hM Z M))
    else some (some (.int (-3)), (hM Z M)) := (ev_eq PGM d yM_again [12, 31] 400 _).trans rfl
set_option maxRecDepth 100000 in
theorem eM_again_12 (d : Nat) (Z : ZT) (M : MS) (i1 : Int32) : sem PGM d yM_again (12, [some (.ref 91), some (.int i1)], [], (hM Z M)) =
    bif decide (437 ≤ i1) then some (some (.int 1), (hM Z M))
    else bif inb i1 437 then bif inb i1 437 then sem PGM d yM_again (31, [some (.ref 91), some (.int i1)], [], (hM Z (mA M 0 (upd (M.1 0) (i1).toNatClampNeg ((M.1 1) (i1).toNatClampNeg)))))
        else none
      else none := (ev_eq PGM d yM_again [12, 31] 400 _).trans rfl
set_option maxRecDepth 100000 in
theorem eM_again_31 (d : Nat) (Z : ZT) (M : MS) (i1 : Int32) : sem PGM d yM_again (31, [some (.ref 91), some (.int i1)], [], (hM Z M)) =
    sem PGM d yM_again (12, [some (.ref 91), some (.int (i1 + 1))], [], (hM Z M)) := (ev_eq PGM d yM_again [12, 31] 400 _).trans rfl
