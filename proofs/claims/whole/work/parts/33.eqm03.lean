/-! Equations of blocks, by wip/whole/gen/alleq.py. -/
set_option maxRecDepth 100000 in
theorem eM_value_0 (d : Nat) (Z : ZT) (M : MS)  : sem PGM d yM_value (0, [some (.ref 91), none, none], [], (hM Z M)) =
    bif decide ((M.2 7) = 0) then aftK (sem PGM d yM_value) 1 (16, [some (.ref 91), none, none], [], (hM Z M)) (call PGM d yM_byteAt [.ref 91, .int (M.2 2)] (hM Z M))
    else some (none, (hM Z M)) := (ev_eq PGM d yM_value [29] 400 _).trans rfl
set_option maxRecDepth 100000 in
theorem eM_value_16 (d : Nat) (Z : ZT) (M : MS) (u2 : Option Value) (k0 : Int32) : sem PGM d yM_value (16, [some (.ref 91), none, u2], [.int k0], (hM Z M)) =
    aftK (sem PGM d yM_value) 1 (19, [some (.ref 91), none, u2], [], (hM Z M)) (call PGM d yM_isDigit [.int k0] (hM Z M)) := (ev_eq PGM d yM_value [29] 400 _).trans rfl
set_option maxRecDepth 100000 in
theorem eM_value_19 (d : Nat) (Z : ZT) (M : MS) (u2 : Option Value) (k0 : Int32) : sem PGM d yM_value (19, [some (.ref 91), none, u2], [.int k0], (hM Z M)) =
    bif decide (k0 = 0) then aftK (sem PGM d yM_value) 1 (100, [some (.ref 91), none, u2], [], (hM Z M)) (call PGM d yM_factHere [.ref 91] (hM Z M))
    else sem PGM d yM_value (29, [some (.ref 91), some (.int 0), some (.int (M.2 2))], [], (hM Z M)) := (ev_eq PGM d yM_value [29] 400 _).trans rfl
set_option maxRecDepth 100000 in
theorem eM_value_100 (d : Nat) (Z : ZT) (M : MS) (u2 : Option Value) (k0 : Int32) : sem PGM d yM_value (100, [some (.ref 91), none, u2], [.int k0], (hM Z M)) =
    aftK (sem PGM d yM_value) 0 (110, [some (.ref 91), some (.int k0), u2], [], (hM Z M)) (call PGM d yM_emits [.ref 91, .int (10000 + k0)] (hM Z M)) := (ev_eq PGM d yM_value [29] 400 _).trans rfl
set_option maxRecDepth 100000 in
theorem eM_value_29 (d : Nat) (Z : ZT) (M : MS) (i1 : Int32) (i2 : Int32) : sem PGM d yM_value (29, [some (.ref 91), some (.int i1), some (.int i2)], [], (hM Z M)) =
    bif decide ((M.2 3) ≤ i2) then aftK (sem PGM d yM_value) 0 (73, [some (.ref 91), some (.int i1), some (.int i2)], [], (hM Z M)) (call PGM d yM_emits [.ref 91, .int i1] (hM Z M))
    else bif decide (((M.2 2) + 4) ≤ i2) then aftK (sem PGM d yM_value) 0 (73, [some (.ref 91), some (.int i1), some (.int i2)], [], (hM Z M)) (call PGM d yM_emits [.ref 91, .int i1] (hM Z M))
      else bif inb i2 200 then sem PGM d yM_value (29, [some (.ref 91), some (.int (((10 * i1) + ((M.1 3) (i2).toNatClampNeg)) - 48)), some (.int (i2 + 1))], [], (hM Z M))
        else none := (ev_eq PGM d yM_value [29] 400 _).trans rfl
set_option maxRecDepth 100000 in
theorem eM_value_110 (d : Nat) (Z : ZT) (M : MS) (i1 : Int32) (u2 : Option Value) : sem PGM d yM_value (110, [some (.ref 91), some (.int i1), u2], [], (hM Z M)) =
    bif decide (i1 < 0) then aftK (sem PGM d yM_value) 0 (123, [some (.ref 91), some (.int i1), u2], [], (hM Z M)) (call PGM d yM_needs [.ref 91, .int 0] (hM Z M))
    else aftK (sem PGM d yM_value) 0 (123, [some (.ref 91), some (.int i1), u2], [], (hM Z M)) (call PGM d yM_needs [.ref 91, .int 1] (hM Z M)) := (ev_eq PGM d yM_value [29] 400 _).trans rfl
set_option maxRecDepth 100000 in
theorem eM_value_73 (d : Nat) (Z : ZT) (M : MS) (i1 : Int32) (u2 : Option Value) : sem PGM d yM_value (73, [some (.ref 91), some (.int i1), u2], [], (hM Z M)) =
    bif decide (4 < ((M.2 3) - (M.2 2))) then aftK (sem PGM d yM_value) 0 (95, [some (.ref 91), some (.int i1), u2], [], (hM Z M)) (call PGM d yM_needs [.ref 91, .int 0] (hM Z M))
    else aftK (sem PGM d yM_value) 0 (95, [some (.ref 91), some (.int i1), u2], [], (hM Z M)) (call PGM d yM_needs [.ref 91, .int 1] (hM Z M)) := (ev_eq PGM d yM_value [29] 400 _).trans rfl
set_option maxRecDepth 100000 in
theorem eM_value_123 (d : Nat) (Z : ZT) (M : MS) (i1 : Int32) (u2 : Option Value) : sem PGM d yM_value (123, [some (.ref 91), some (.int i1), u2], [], (hM Z M)) =
    some (none, (hM Z M)) := (ev_eq PGM d yM_value [29] 400 _).trans rfl
set_option maxRecDepth 100000 in
theorem eM_value_95 (d : Nat) (Z : ZT) (M : MS) (i1 : Int32) (u2 : Option Value) : sem PGM d yM_value (95, [some (.ref 91), some (.int i1), u2], [], (hM Z M)) =
    some (none, (hM Z M)) := (ev_eq PGM d yM_value [29] 400 _).trans rfl
set_option maxRecDepth 100000 in
theorem eM_emits_0 (d : Nat) (Z : ZT) (M : MS) (i1 : Int32) : sem PGM d yM_emits (0, [some (.ref 91), some (.int i1)], [], (hM Z M)) =
    bif !decide ((M.2 7) = 0) then some (none, (hM Z M))
    else bif inb (M.2 5) 200 then sem PGM d yM_emits (17, [some (.ref 91), some (.int i1)], [], (hM Z (mA M 4 (upd (M.1 4) ((M.2 5)).toNatClampNeg i1))))
      else none := (ev_eq PGM d yM_emits [17] 400 _).trans rfl
set_option maxRecDepth 100000 in
theorem eM_emits_17 (d : Nat) (Z : ZT) (M : MS) (u1 : Option Value) : sem PGM d yM_emits (17, [some (.ref 91), u1], [], (hM Z M)) =
    some (none, (hM Z (mV M 5 ((M.2 5) + 1)))) := (ev_eq PGM d yM_emits [17] 400 _).trans rfl
set_option maxRecDepth 100000 in
theorem eM_factHere_0 (d : Nat) (Z : ZT) (M : MS)  : sem PGM d yM_factHere (0, [some (.ref 91)], [], (hM Z M)) =
    aftK (sem PGM d yM_factHere) 1 (16, [some (.ref 91)], [], (hM Z M)) (call PGM d yM_isName [.ref 91, .int 110, .int 101, .int 97, .int 114, .int 0, .int 0, .int 0, .int 0] (hM Z M)) := (ev_eq PGM d yM_factHere [] 400 _).trans rfl
set_option maxRecDepth 100000 in
theorem eM_factHere_16 (d : Nat) (Z : ZT) (M : MS) (k0 : Int32) : sem PGM d yM_factHere (16, [some (.ref 91)], [.int k0], (hM Z M)) =
    bif decide (k0 = 0) then aftK (sem PGM d yM_factHere) 1 (40, [some (.ref 91)], [], (hM Z M)) (call PGM d yM_isName [.ref 91, .int 99, .int 114, .int 111, .int 119, .int 100, .int 0, .int 0, .int 0] (hM Z M))
    else some (some (.int 0), (hM Z M)) := (ev_eq PGM d yM_factHere [] 400 _).trans rfl
set_option maxRecDepth 100000 in
theorem eM_factHere_40 (d : Nat) (Z : ZT) (M : MS) (k0 : Int32) : sem PGM d yM_factHere (40, [some (.ref 91)], [.int k0], (hM Z M)) =
    bif decide (k0 = 0) then aftK (sem PGM d yM_factHere) 1 (64, [some (.ref 91)], [], (hM Z M)) (call PGM d yM_isName [.ref 91, .int 97, .int 104, .int 101, .int 97, .int 100, .int 0, .int 0, .int 0] (hM Z M))
    else some (some (.int 1), (hM Z M)) := (ev_eq PGM d yM_factHere [] 400 _).trans rfl
set_option maxRecDepth 100000 in
theorem eM_factHere_64 (d : Nat) (Z : ZT) (M : MS) (k0 : Int32) : sem PGM d yM_factHere (64, [some (.ref 91)], [.int k0], (hM Z M)) =
    bif decide (k0 = 0) then aftK (sem PGM d yM_factHere) 1 (88, [some (.ref 91)], [], (hM Z M)) (call PGM d yM_isName [.ref 91, .int 112, .int 108, .int 97, .int 99, .int 101, .int 0, .int 0, .int 0] (hM Z M))
    else some (some (.int 2), (hM Z M)) := (ev_eq PGM d yM_factHere [] 400 _).trans rfl
set_option maxRecDepth 100000 in
theorem eM_factHere_88 (d : Nat) (Z : ZT) (M : MS) (k0 : Int32) : sem PGM d yM_factHere (88, [some (.ref 91)], [.int k0], (hM Z M)) =
    bif decide (k0 = 0) then aftK (sem PGM d yM_factHere) 1 (111, [some (.ref 91)], [], (hM Z M)) (call PGM d yM_isName [.ref 91, .int 116, .int 105, .int 99, .int 107, .int 0, .int 0, .int 0, .int 0] (hM Z M))
    else some (some (.int 3), (hM Z M)) := (ev_eq PGM d yM_factHere [] 400 _).trans rfl
set_option maxRecDepth 100000 in
theorem eM_factHere_111 (d : Nat) (Z : ZT) (M : MS) (k0 : Int32) : sem PGM d yM_factHere (111, [some (.ref 91)], [.int k0], (hM Z M)) =
    bif decide (k0 = 0) then aftK (sem PGM d yM_factHere) 1 (134, [some (.ref 91)], [], (hM Z M)) (call PGM d yM_isName [.ref 91, .int 108, .int 111, .int 110, .int 101, .int 0, .int 0, .int 0, .int 0] (hM Z M))
    else some (some (.int 4), (hM Z M)) := (ev_eq PGM d yM_factHere [] 400 _).trans rfl
set_option maxRecDepth 100000 in
theorem eM_factHere_134 (d : Nat) (Z : ZT) (M : MS) (u0 : Option Value) (k0 : Int32) : sem PGM d yM_factHere (134, [u0], [.int k0], (hM Z M)) =
    bif decide (k0 = 0) then some (some (.int (-1)), (hM Z M))
    else some (some (.int 5), (hM Z M)) := (ev_eq PGM d yM_factHere [] 400 _).trans rfl
set_option maxRecDepth 100000 in
theorem eM_says_0 (d : Nat) (Z : ZT) (M : MS) (i1 : Int32) : sem PGM d yM_says (0, [some (.ref 91), some (.int i1)], [], (hM Z M)) =
    aftK (sem PGM d yM_says) 1 (5, [some (.ref 91), some (.int i1)], [], (hM Z M)) (call PGM d yM_isPerson [.ref 91, .int i1] (hM Z M)) := (ev_eq PGM d yM_says [] 400 _).trans rfl
set_option maxRecDepth 100000 in
theorem eM_says_5 (d : Nat) (Z : ZT) (M : MS) (i1 : Int32) (k0 : Int32) : sem PGM d yM_says (5, [some (.ref 91), some (.int i1)], [.int k0], (hM Z M)) =
    bif !decide (k0 = 0) then aftK (sem PGM d yM_says) 1 (17, [some (.ref 91), some (.int i1)], [], (hM Z M)) (call PGM d yM_whereIs [.ref 91, .int i1] (hM Z M))
    else some (some (.int (-1)), (hM Z M)) := (ev_eq PGM d yM_says [] 400 _).trans rfl
set_option maxRecDepth 100000 in
theorem eM_says_17 (d : Nat) (Z : ZT) (M : MS) (i1 : Int32) (k0 : Int32) : sem PGM d yM_says (17, [some (.ref 91), some (.int i1)], [.int k0], (hM Z M)) =
    bif decide (0 ≤ k0) then aftK (sem PGM d yM_says) 1 (30, [some (.ref 91), some (.int i1)], [], (hM Z M)) (call PGM d yM_clauseOf [.ref 91, .int i1] (hM Z M))
    else some (some (.int (-9)), (hM Z M)) := (ev_eq PGM d yM_says [] 400 _).trans rfl
set_option maxRecDepth 100000 in
theorem eM_says_30 (d : Nat) (Z : ZT) (M : MS) (u0 : Option Value) (u1 : Option Value) (k0 : Int32) : sem PGM d yM_says (30, [u0, u1], [.int k0], (hM Z M)) =
    some (some (.int k0), (hM Z M)) := (ev_eq PGM d yM_says [] 400 _).trans rfl
set_option maxRecDepth 100000 in
theorem eM_clauseOf_0 (d : Nat) (Z : ZT) (M : MS) (i1 : Int32) : sem PGM d yM_clauseOf (0, [some (.ref 91), some (.int i1), none], [], (hM Z M)) =
    sem PGM d yM_clauseOf (2, [some (.ref 91), some (.int i1), some (.int 0)], [], (hM Z M)) := (ev_eq PGM d yM_clauseOf [2] 400 _).trans rfl
set_option maxRecDepth 100000 in
theorem eM_clauseOf_2 (d : Nat) (Z : ZT) (M : MS) (i1 : Int32) (i2 : Int32) : sem PGM d yM_clauseOf (2, [some (.ref 91), some (.int i1), some (.int i2)], [], (hM Z M)) =
    bif decide (((M.1 0) 8) ≤ i2) then some (some (.int (-9)), (hM Z M))
    else bif decide (i2 = (M.2 8)) then sem PGM d yM_clauseOf (2, [some (.ref 91), some (.int i1), some (.int (i2 + 1))], [], (hM Z M))
      else aftK (sem PGM d yM_clauseOf) 1 (26, [some (.ref 91), some (.int i1), some (.int i2)], [], (hM Z M)) (call PGM d yM_kindOf [.ref 91, .int i1] (hM Z M)) := (ev_eq PGM d yM_clauseOf [2] 400 _).trans rfl
set_option maxRecDepth 100000 in
theorem eM_clauseOf_26 (d : Nat) (Z : ZT) (M : MS) (i1 : Int32) (i2 : Int32) (k0 : Int32) : sem PGM d yM_clauseOf (26, [some (.ref 91), some (.int i1), some (.int i2)], [.int k0], (hM Z M)) =
    bif inb (197 + (5 * i2)) 437 then aftK (sem PGM d yM_clauseOf) 1 (41, [some (.ref 91), some (.int i1), some (.int i2)], [], (hM Z M)) (call PGM d yM_isUnder [.int k0, .int ((M.1 0) ((197 + (5 * i2))).toNatClampNeg)] (hM Z M))
    else none := (ev_eq PGM d yM_clauseOf [2] 400 _).trans rfl
set_option maxRecDepth 100000 in
theorem eM_clauseOf_41 (d : Nat) (Z : ZT) (M : MS) (i1 : Int32) (i2 : Int32) (k0 : Int32) : sem PGM d yM_clauseOf (41, [some (.ref 91), some (.int i1), some (.int i2)], [.int k0], (hM Z M)) =
    bif decide (k0 = 0) then sem PGM d yM_clauseOf (2, [some (.ref 91), some (.int i1), some (.int (i2 + 1))], [], (hM Z M))
    else aftK (sem PGM d yM_clauseOf) 1 (50, [some (.ref 91), some (.int i1), some (.int i2)], [], (hM Z M)) (call PGM d yM_holds [.ref 91, .int i2, .int i1] (hM Z M)) := (ev_eq PGM d yM_clauseOf [2] 400 _).trans rfl
set_option maxRecDepth 100000 in
theorem eM_clauseOf_50 (d : Nat) (Z : ZT) (M : MS) (i1 : Int32) (i2 : Int32) (k0 : Int32) : sem PGM d yM_clauseOf (50, [some (.ref 91), some (.int i1), some (.int i2)], [.int k0], (hM Z M)) =
    bif decide (k0 = 0) then sem PGM d yM_clauseOf (2, [some (.ref 91), some (.int i1), some (.int (i2 + 1))], [], (hM Z M))
    else some (some (.int i2), (hM Z M)) := (ev_eq PGM d yM_clauseOf [2] 400 _).trans rfl
set_option maxRecDepth 100000 in
theorem eM_holds_0 (d : Nat) (Z : ZT) (M : MS) (i1 : Int32) (i2 : Int32) : sem PGM d yM_holds (0, [some (.ref 91), some (.int i1), some (.int i2), none, none, none, none], [], (hM Z M)) =
    bif inb ((197 + (5 * i1)) + 3) 437 then sem PGM d yM_holds (21, [some (.ref 91), some (.int i1), some (.int i2), some (.int (197 + (5 * i1))), some (.int 0), some (.int ((M.1 0) (((197 + (5 * i1)) + 3)).toNatClampNeg)), none], [], (hM Z M))
    else none := (ev_eq PGM d yM_holds [21, 86, 120, 126, 156] 400 _).trans rfl
set_option maxRecDepth 100000 in
theorem eM_holds_21 (d : Nat) (Z : ZT) (M : MS) (u1 : Option Value) (i2 : Int32) (i3 : Int32) (i4 : Int32) (i5 : Int32) (u6 : Option Value) : sem PGM d yM_holds (21, [some (.ref 91), u1, some (.int i2), some (.int i3), some (.int i4), some (.int i5), u6], [], (hM Z M)) =
    bif inb (i3 + 4) 437 then bif decide (((M.1 0) ((i3 + 4)).toNatClampNeg) ≤ i5) then bif inb (i3 + 2) 437 then bif decide (((M.1 0) ((i3 + 2)).toNatClampNeg) = 0) then some (some (.int 1), (hM Z M))
          else bif !decide (((M.1 6) 0) = 1) then some (some (.int 0), (hM Z M))
            else some (some (.int 1), (hM Z M))
        else none
      else bif inb (237 + i5) 437 then bif decide (10010 ≤ ((M.1 0) ((237 + i5)).toNatClampNeg)) then bif !decide (((M.1 0) ((237 + i5)).toNatClampNeg) = 10010) then sem PGM d yM_holds (126, [some (.ref 91), u1, some (.int i2), some (.int i3), some (.int (i4 + (-1))), some (.int i5), some (.int ((M.1 0) ((237 + i5)).toNatClampNeg))], [], (hM Z M))
            else bif inb (i4 - 1) 200 then bif inb (i4 - 1) 200 then sem PGM d yM_holds (120, [some (.ref 91), u1, some (.int i2), some (.int i3), some (.int i4), some (.int i5), some (.int ((M.1 0) ((237 + i5)).toNatClampNeg))], [], (hM Z (mA M 6 (upd (M.1 6) ((i4 - 1)).toNatClampNeg (1 - ((M.1 6) ((i4 - 1)).toNatClampNeg))))))
                else none
              else none
          else bif decide (10000 ≤ ((M.1 0) ((237 + i5)).toNatClampNeg)) then aftK (sem PGM d yM_holds) 1 (85, [some (.ref 91), u1, some (.int i2), some (.int i3), some (.int i4), some (.int i5), some (.int ((M.1 0) ((237 + i5)).toNatClampNeg))], [.int i4, .ref 98], (hM Z M)) (call PGM d yM_factOf [.ref 91, .int i2, .int (((M.1 0) ((237 + i5)).toNatClampNeg) - 10000)] (hM Z M))
            else bif inb i4 200 then sem PGM d yM_holds (86, [some (.ref 91), u1, some (.int i2), some (.int i3), some (.int i4), some (.int i5), some (.int ((M.1 0) ((237 + i5)).toNatClampNeg))], [], (hM Z (mA M 6 (upd (M.1 6) (i4).toNatClampNeg ((M.1 0) ((237 + i5)).toNatClampNeg)))))
              else none
        else none
    else none := (ev_eq PGM d yM_holds [21, 86, 120, 126, 156] 400 _).trans rfl
set_option maxRecDepth 100000 in
theorem eM_holds_126 (d : Nat) (Z : ZT) (M : MS) (u1 : Option Value) (i2 : Int32) (i3 : Int32) (i4 : Int32) (i5 : Int32) (i6 : Int32) : sem PGM d yM_holds (126, [some (.ref 91), u1, some (.int i2), some (.int i3), some (.int i4), some (.int i5), some (.int i6)], [], (hM Z M)) =
    bif inb (i4 - 1) 200 then bif inb i4 200 then aftK (sem PGM d yM_holds) 1 (155, [some (.ref 91), u1, some (.int i2), some (.int i3), some (.int i4), some (.int i5), some (.int i6)], [.int (i4 - 1), .ref 98], (hM Z M)) (call PGM d yM_both [.int i6, .int ((M.1 6) ((i4 - 1)).toNatClampNeg), .int ((M.1 6) (i4).toNatClampNeg)] (hM Z M))
      else none
    else none := (ev_eq PGM d yM_holds [21, 86, 120, 126, 156] 400 _).trans rfl
set_option maxRecDepth 100000 in
theorem eM_holds_120 (d : Nat) (Z : ZT) (M : MS) (u1 : Option Value) (i2 : Int32) (i3 : Int32) (i4 : Int32) (i5 : Int32) (u6 : Option Value) : sem PGM d yM_holds (120, [some (.ref 91), u1, some (.int i2), some (.int i3), some (.int i4), some (.int i5), u6], [], (hM Z M)) =
    sem PGM d yM_holds (156, [some (.ref 91), u1, some (.int i2), some (.int i3), some (.int i4), some (.int i5), u6], [], (hM Z M)) := (ev_eq PGM d yM_holds [21, 86, 120, 126, 156] 400 _).trans rfl
set_option maxRecDepth 100000 in
theorem eM_holds_85 (d : Nat) (Z : ZT) (M : MS) (u1 : Option Value) (i2 : Int32) (i3 : Int32) (i4 : Int32) (i5 : Int32) (u6 : Option Value) (k1 : Int32) (k2 : Int32) : sem PGM d yM_holds (85, [some (.ref 91), u1, some (.int i2), some (.int i3), some (.int i4), some (.int i5), u6], [.int k2, .int k1, .ref 98], (hM Z M)) =
    bif inb k1 200 then sem PGM d yM_holds (86, [some (.ref 91), u1, some (.int i2), some (.int i3), some (.int i4), some (.int i5), u6], [], (hM Z (mA M 6 (upd (M.1 6) (k1).toNatClampNeg k2))))
    else none := (ev_eq PGM d yM_holds [21, 86, 120, 126, 156] 400 _).trans rfl
set_option maxRecDepth 100000 in
theorem eM_holds_86 (d : Nat) (Z : ZT) (M : MS) (u1 : Option Value) (i2 : Int32) (i3 : Int32) (i4 : Int32) (i5 : Int32) (u6 : Option Value) : sem PGM d yM_holds (86, [some (.ref 91), u1, some (.int i2), some (.int i3), some (.int i4), some (.int i5), u6], [], (hM Z M)) =
    sem PGM d yM_holds (156, [some (.ref 91), u1, some (.int i2), some (.int i3), some (.int (i4 + 1)), some (.int i5), u6], [], (hM Z M)) := (ev_eq PGM d yM_holds [21, 86, 120, 126, 156] 400 _).trans rfl
set_option maxRecDepth 100000 in
theorem eM_holds_155 (d : Nat) (Z : ZT) (M : MS) (u1 : Option Value) (i2 : Int32) (i3 : Int32) (i4 : Int32) (i5 : Int32) (u6 : Option Value) (k1 : Int32) (k2 : Int32) : sem PGM d yM_holds (155, [some (.ref 91), u1, some (.int i2), some (.int i3), some (.int i4), some (.int i5), u6], [.int k2, .int k1, .ref 98], (hM Z M)) =
    bif inb k1 200 then sem PGM d yM_holds (156, [some (.ref 91), u1, some (.int i2), some (.int i3), some (.int i4), some (.int i5), u6], [], (hM Z (mA M 6 (upd (M.1 6) (k1).toNatClampNeg k2))))
    else none := (ev_eq PGM d yM_holds [21, 86, 120, 126, 156] 400 _).trans rfl
set_option maxRecDepth 100000 in
theorem eM_holds_156 (d : Nat) (Z : ZT) (M : MS) (u1 : Option Value) (i2 : Int32) (i3 : Int32) (i4 : Int32) (i5 : Int32) (u6 : Option Value) : sem PGM d yM_holds (156, [some (.ref 91), u1, some (.int i2), some (.int i3), some (.int i4), some (.int i5), u6], [], (hM Z M)) =
    sem PGM d yM_holds (21, [some (.ref 91), u1, some (.int i2), some (.int i3), some (.int i4), some (.int (i5 + 1)), u6], [], (hM Z M)) := (ev_eq PGM d yM_holds [21, 86, 120, 126, 156] 400 _).trans rfl
set_option maxRecDepth 100000 in
theorem eM_factOf_0 (d : Nat) (Z : ZT) (M : MS) (i1 : Int32) (i2 : Int32) : sem PGM d yM_factOf (0, [some (.ref 91), some (.int i1), some (.int i2), none], [], (hM Z M)) =
    aftK (sem PGM d yM_factOf) 1 (5, [some (.ref 91), some (.int i1), some (.int i2), none], [], (hM Z M)) (call PGM d yM_whereIs [.ref 91, .int i1] (hM Z M)) := (ev_eq PGM d yM_factOf [] 400 _).trans rfl
set_option maxRecDepth 100000 in
theorem eM_factOf_5 (d : Nat) (Z : ZT) (M : MS) (u1 : Option Value) (i2 : Int32) (u3 : Option Value) (k0 : Int32) : sem PGM d yM_factOf (5, [some (.ref 91), u1, some (.int i2), u3], [.int k0], (hM Z M)) =
    bif !decide (i2 = 0) then bif !decide (i2 = 1) then bif !decide (i2 = 2) then bif !decide (i2 = 3) then bif !decide (i2 = 4) then aftK (sem PGM d yM_factOf) 1 (71, [some (.ref 91), u1, some (.int i2), some (.int k0)], [], (hM Z M)) (call PGM d yM_lone [.ref 91] (hM Z M))
            else some (some (.int ((M.1 0) 3)), (hM Z M))
          else some (some (.int k0), (hM Z M))
        else aftK (sem PGM d yM_factOf) 1 (41, [some (.ref 91), u1, some (.int i2), some (.int k0)], [], (hM Z M)) (call PGM d yM_aheadOf [.ref 91, .int k0] (hM Z M))
      else aftK (sem PGM d yM_factOf) 1 (28, [some (.ref 91), u1, some (.int i2), some (.int k0)], [], (hM Z M)) (call PGM d yM_crowd [.ref 91, .int k0] (hM Z M))
    else aftK (sem PGM d yM_factOf) 1 (15, [some (.ref 91), u1, some (.int i2), some (.int k0)], [], (hM Z M)) (call PGM d yM_nearTo [.ref 91, .int k0] (hM Z M)) := (ev_eq PGM d yM_factOf [] 400 _).trans rfl
set_option maxRecDepth 100000 in
theorem eM_factOf_71 (d : Nat) (Z : ZT) (M : MS) (u0 : Option Value) (u1 : Option Value) (i2 : Int32) (u3 : Option Value) (k0 : Int32) : sem PGM d yM_factOf (71, [u0, u1, some (.int i2), u3], [.int k0], (hM Z M)) =
    some (some (.int k0), (hM Z M)) := (ev_eq PGM d yM_factOf [] 400 _).trans rfl
set_option maxRecDepth 100000 in
theorem eM_factOf_41 (d : Nat) (Z : ZT) (M : MS) (u0 : Option Value) (u1 : Option Value) (i2 : Int32) (u3 : Option Value) (k0 : Int32) : sem PGM d yM_factOf (41, [u0, u1, some (.int i2), u3], [.int k0], (hM Z M)) =
    some (some (.int k0), (hM Z M)) := (ev_eq PGM d yM_factOf [] 400 _).trans rfl
set_option maxRecDepth 100000 in
theorem eM_factOf_28 (d : Nat) (Z : ZT) (M : MS) (u0 : Option Value) (u1 : Option Value) (i2 : Int32) (u3 : Option Value) (k0 : Int32) : sem PGM d yM_factOf (28, [u0, u1, some (.int i2), u3], [.int k0], (hM Z M)) =
    some (some (.int k0), (hM Z M)) := (ev_eq PGM d yM_factOf [] 400 _).trans rfl
set_option maxRecDepth 100000 in
theorem eM_factOf_15 (d : Nat) (Z : ZT) (M : MS) (u0 : Option Value) (u1 : Option Value) (i2 : Int32) (u3 : Option Value) (k0 : Int32) : sem PGM d yM_factOf (15, [u0, u1, some (.int i2), u3], [.int k0], (hM Z M)) =
    some (some (.int k0), (hM Z M)) := (ev_eq PGM d yM_factOf [] 400 _).trans rfl
set_option maxRecDepth 100000 in
theorem eM_aheadOf_0 (d : Nat) (Z : ZT) (M : MS) (i1 : Int32) : sem PGM d yM_aheadOf (0, [some (.ref 91), some (.int i1)], [], (hM Z M)) =
    bif decide (((M.1 0) 0) ≤ (i1 + 1)) then some (some (.int 99), (hM Z M))
    else aftK (sem PGM d yM_aheadOf) 1 (19, [some (.ref 91), some (.int i1)], [], (hM Z M)) (call PGM d yM_crowd [.ref 91, .int (i1 + 1)] (hM Z M)) := (ev_eq PGM d yM_aheadOf [] 400 _).trans rfl
set_option maxRecDepth 100000 in
theorem eM_aheadOf_19 (d : Nat) (Z : ZT) (M : MS) (u0 : Option Value) (u1 : Option Value) (k0 : Int32) : sem PGM d yM_aheadOf (19, [u0, u1], [.int k0], (hM Z M)) =
    some (some (.int k0), (hM Z M)) := (ev_eq PGM d yM_aheadOf [] 400 _).trans rfl
set_option maxRecDepth 100000 in
theorem eM_lone_0 (d : Nat) (Z : ZT) (M : MS)  : sem PGM d yM_lone (0, [some (.ref 91), none, none], [], (hM Z M)) =
    sem PGM d yM_lone (4, [some (.ref 91), some (.int 0), some (.int 0)], [], (hM Z M)) := (ev_eq PGM d yM_lone [4] 400 _).trans rfl
set_option maxRecDepth 100000 in
theorem eM_lone_4 (d : Nat) (Z : ZT) (M : MS) (i1 : Int32) (i2 : Int32) : sem PGM d yM_lone (4, [some (.ref 91), some (.int i1), some (.int i2)], [], (hM Z M)) =
    bif decide (((M.1 0) 2) ≤ i2) then some (some (.int i1), (hM Z M))
    else aftK (sem PGM d yM_lone) 1 (20, [some (.ref 91), some (.int i1), some (.int i2)], [.int i1], (hM Z M)) (call PGM d yM_whereBeast [.ref 91, .int i2] (hM Z M)) := (ev_eq PGM d yM_lone [4] 400 _).trans rfl
set_option maxRecDepth 100000 in
theorem eM_lone_20 (d : Nat) (Z : ZT) (M : MS) (i1 : Int32) (i2 : Int32) (k0 : Int32) (k1 : Int32) : sem PGM d yM_lone (20, [some (.ref 91), some (.int i1), some (.int i2)], [.int k1, .int k0], (hM Z M)) =
    bif decide (k1 < 0) then sem PGM d yM_lone (4, [some (.ref 91), some (.int (k0 + 0)), some (.int (i2 + 1))], [], (hM Z M))
    else aftK (sem PGM d yM_lone) 1 (28, [some (.ref 91), some (.int i1), some (.int i2)], [.int k0], (hM Z M)) (call PGM d yM_isAlone [.ref 91, .int i2] (hM Z M)) := (ev_eq PGM d yM_lone [4] 400 _).trans rfl
set_option maxRecDepth 100000 in
theorem eM_lone_28 (d : Nat) (Z : ZT) (M : MS) (i1 : Int32) (i2 : Int32) (k0 : Int32) (k1 : Int32) : sem PGM d yM_lone (28, [some (.ref 91), some (.int i1), some (.int i2)], [.int k1, .int k0], (hM Z M)) =
    bif decide (k1 = 0) then sem PGM d yM_lone (4, [some (.ref 91), some (.int (k0 + 0)), some (.int (i2 + 1))], [], (hM Z M))
    else sem PGM d yM_lone (4, [some (.ref 91), some (.int (k0 + 1)), some (.int (i2 + 1))], [], (hM Z M)) := (ev_eq PGM d yM_lone [4] 400 _).trans rfl
set_option maxRecDepth 100000 in
theorem eM_isAlone_0 (d : Nat) (Z : ZT) (M : MS) (i1 : Int32) : sem PGM d yM_isAlone (0, [some (.ref 91), some (.int i1)], [], (hM Z M)) =
    bif inb ((179 + (3 * i1)) + 2) 437 then bif !decide (((M.1 0) (((179 + (3 * i1)) + 2)).toNatClampNeg) = 1) then some (some (.int 0), (hM Z M))
      else some (some (.int 1), (hM Z M))
    else none := (ev_eq PGM d yM_isAlone [] 400 _).trans rfl
set_option maxRecDepth 100000 in
theorem eM_both_0 (d : Nat) (h : AH) (i0 : Int32) (i1 : Int32) (i2 : Int32) : sem PGM d yM_both (0, [some (.int i0), some (.int i1), some (.int i2)], [], h) =
    bif decide (i0 = Int32.ofInt 10011) then some (some (.int (i1 &&& i2)), h)
    else bif decide (i0 = Int32.ofInt 10012) then some (some (.int (i1 ||| i2)), h)
    else bif decide (i0 = Int32.ofInt 10080) then bif decide (i2 ≤ i1) then some (some (.int 0), h)
      else some (some (.int 1), h)
    else bif decide (i0 = Int32.ofInt 10081) then bif !decide (i1 = i2) then some (some (.int 0), h)
      else some (some (.int 1), h)
    else bif decide (i1 ≤ i2) then some (some (.int 0), h)
      else some (some (.int 1), h) := (ev_eq PGM d yM_both [] 400 _).trans rfl
set_option maxRecDepth 100000 in
theorem eM_fact_0 (d : Nat) (Z : ZT) (M : MS) (i1 : Int32) (i2 : Int32) : sem PGM d yM_fact (0, [some (.ref 91), some (.int i1), some (.int i2)], [], (hM Z M)) =
    aftK (sem PGM d yM_fact) 1 (5, [some (.ref 91), some (.int i1), some (.int i2)], [], (hM Z M)) (call PGM d yM_isPerson [.ref 91, .int i1] (hM Z M)) := (ev_eq PGM d yM_fact [] 400 _).trans rfl
set_option maxRecDepth 100000 in
theorem eM_fact_5 (d : Nat) (Z : ZT) (M : MS) (i1 : Int32) (i2 : Int32) (k0 : Int32) : sem PGM d yM_fact (5, [some (.ref 91), some (.int i1), some (.int i2)], [.int k0], (hM Z M)) =
    bif decide (k0 = 0) then some (some (.int (-1)), (hM Z M))
    else aftK (sem PGM d yM_fact) 1 (17, [some (.ref 91), some (.int i1), some (.int i2)], [], (hM Z M)) (call PGM d yM_in [.long ((i2).toInt64), .long 0, .long 5] (hM Z M)) := (ev_eq PGM d yM_fact [] 400 _).trans rfl
set_option maxRecDepth 100000 in
theorem eM_fact_17 (d : Nat) (Z : ZT) (M : MS) (i1 : Int32) (i2 : Int32) (k0 : Int32) : sem PGM d yM_fact (17, [some (.ref 91), some (.int i1), some (.int i2)], [.int k0], (hM Z M)) =
    bif !decide (k0 = 0) then aftK (sem PGM d yM_fact) 1 (27, [some (.ref 91), some (.int i1), some (.int i2)], [], (hM Z M)) (call PGM d yM_whereIs [.ref 91, .int i1] (hM Z M))
    else some (some (.int (-1)), (hM Z M)) := (ev_eq PGM d yM_fact [] 400 _).trans rfl
set_option maxRecDepth 100000 in
theorem eM_fact_27 (d : Nat) (Z : ZT) (M : MS) (i1 : Int32) (i2 : Int32) (k0 : Int32) : sem PGM d yM_fact (27, [some (.ref 91), some (.int i1), some (.int i2)], [.int k0], (hM Z M)) =
    bif decide (0 ≤ k0) then aftK (sem PGM d yM_fact) 1 (41, [some (.ref 91), some (.int i1), some (.int i2)], [], (hM Z M)) (call PGM d yM_factOf [.ref 91, .int i1, .int i2] (hM Z M))
    else some (some (.int (-3)), (hM Z M)) := (ev_eq PGM d yM_fact [] 400 _).trans rfl
set_option maxRecDepth 100000 in
theorem eM_fact_41 (d : Nat) (Z : ZT) (M : MS) (u0 : Option Value) (u1 : Option Value) (u2 : Option Value) (k0 : Int32) : sem PGM d yM_fact (41, [u0, u1, u2], [.int k0], (hM Z M)) =
    some (some (.int k0), (hM Z M)) := (ev_eq PGM d yM_fact [] 400 _).trans rfl
set_option maxRecDepth 100000 in
theorem eM_run_0 (d : Nat) (Z : ZT) (M : MS) (i1 : Int32) : sem PGM d yM_run (0, [some (.ref 91), some (.int i1)], [], (hM Z M)) =
    aftK (sem PGM d yM_run) 1 (9, [some (.ref 91), some (.int i1)], [], (hM Z (mV M 9 0))) (call PGM d yM_isLong [.int i1] (hM Z (mV M 9 0))) := (ev_eq PGM d yM_run [] 400 _).trans rfl
set_option maxRecDepth 100000 in
theorem eM_run_9 (d : Nat) (Z : ZT) (M : MS) (i1 : Int32) (k0 : Int32) : sem PGM d yM_run (9, [some (.ref 91), some (.int i1)], [.int k0], (hM Z M)) =
    bif decide (k0 = 0) then some (some (.int (-1)), (hM Z M))
    else aftK (sem PGM d yM_run) 1 (17, [some (.ref 91), some (.int i1)], [], (hM Z M)) (call PGM d yM_trial [.ref 91, .int i1] (hM Z M)) := (ev_eq PGM d yM_run [] 400 _).trans rfl
set_option maxRecDepth 100000 in
theorem eM_run_17 (d : Nat) (Z : ZT) (M : MS) (u0 : Option Value) (u1 : Option Value) (k0 : Int32) : sem PGM d yM_run (17, [u0, u1], [.int k0], (hM Z M)) =
    some (some (.int k0), (hM Z M)) := (ev_eq PGM d yM_run [] 400 _).trans rfl
set_option maxRecDepth 100000 in
theorem eM_isLong_0 (d : Nat) (h : AH) (i0 : Int32) : sem PGM d yM_isLong (0, [some (.int i0)], [], h) =
    aftK (sem PGM d yM_isLong) 1 (9, [some (.int i0)], [], h) (call PGM d yM_in [.long ((i0).toInt64), .long 0, .long 60] h) := (ev_eq PGM d yM_isLong [] 400 _).trans rfl
set_option maxRecDepth 100000 in
theorem eM_isLong_9 (d : Nat) (h : AH) (u0 : Option Value) (k0 : Int32) : sem PGM d yM_isLong (9, [u0], [.int k0], h) =
    bif isB k0 then some (some (.int k0), h) else none := (ev_eq PGM d yM_isLong [] 400 _).trans rfl
set_option maxRecDepth 100000 in
theorem eM_trial_0 (d : Nat) (Z : ZT) (M : MS) (i1 : Int32) : sem PGM d yM_trial (0, [some (.ref 91), some (.int i1), none, none], [], (hM Z M)) =
    sem PGM d yM_trial (5, [some (.ref 91), some (.int i1), none, none], [], (hM Z (mV M 10 0))) := (ev_eq PGM d yM_trial [5, 9] 400 _).trans rfl
set_option maxRecDepth 100000 in
theorem eM_trial_5 (d : Nat) (Z : ZT) (M : MS) (i1 : Int32) (u3 : Option Value) : sem PGM d yM_trial (5, [some (.ref 91), some (.int i1), none, u3], [], (hM Z M)) =
    sem PGM d yM_trial (9, [some (.ref 91), some (.int i1), some (.int 0), some (.int 1)], [], (hM Z M)) := (ev_eq PGM d yM_trial [5, 9] 400 _).trans rfl
set_option maxRecDepth 100000 in
theorem eM_trial_9 (d : Nat) (Z : ZT) (M : MS) (i1 : Int32) (i2 : Int32) (i3 : Int32) : sem PGM d yM_trial (9, [some (.ref 91), some (.int i1), some (.int i2), some (.int i3)], [], (hM Z M)) =
    bif decide (i1 < i3) then some (some (.int i2), (hM Z M))
    else aftK (sem PGM d yM_trial) 1 (24, [some (.ref 91), some (.int i1), some (.int i2), some (.int i3)], [.int i2], (hM Z (mV M 11 i3))) (call PGM d yM_goes [.ref 91] (hM Z (mV M 11 i3))) := (ev_eq PGM d yM_trial [5, 9] 400 _).trans rfl
set_option maxRecDepth 100000 in
theorem eM_trial_24 (d : Nat) (Z : ZT) (M : MS) (i1 : Int32) (i2 : Int32) (i3 : Int32) (k0 : Int32) (k1 : Int32) : sem PGM d yM_trial (24, [some (.ref 91), some (.int i1), some (.int i2), some (.int i3)], [.int k1, .int k0], (hM Z M)) =
    sem PGM d yM_trial (9, [some (.ref 91), some (.int i1), some (.int (k0 + k1)), some (.int (i3 + 1))], [], (hM Z M)) := (ev_eq PGM d yM_trial [5, 9] 400 _).trans rfl
