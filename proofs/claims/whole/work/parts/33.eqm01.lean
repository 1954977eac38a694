/-! Equations of blocks, by wip/whole/gen/alleq.py. -/
set_option maxRecDepth 100000 in
theorem eM_isPerson_0 (d : Nat) (Z : ZT) (M : MS) (i1 : Int32) : sem PGM d yM_isPerson (0, [some (.ref 91), some (.int i1)], [], (hM Z M)) =
    aftK (sem PGM d yM_isPerson) 1 (15, [some (.ref 91), some (.int i1)], [], (hM Z M)) (call PGM d yM_in [.long ((i1).toInt64), .long 0, .long (((((M.1 0) 1) - 1)).toInt64)] (hM Z M)) := (ev_eq PGM d yM_isPerson [] 400 _).trans rfl
set_option maxRecDepth 100000 in
theorem eM_isPerson_15 (d : Nat) (Z : ZT) (M : MS) (u0 : Option Value) (u1 : Option Value) (k0 : Int32) : sem PGM d yM_isPerson (15, [u0, u1], [.int k0], (hM Z M)) =
    bif isB k0 then some (some (.int k0), (hM Z M)) else none := (ev_eq PGM d yM_isPerson [] 400 _).trans rfl
set_option maxRecDepth 100000 in
theorem eM_nearTo_0 (d : Nat) (Z : ZT) (M : MS) (i1 : Int32) : sem PGM d yM_nearTo (0, [some (.ref 91), some (.int i1), none, none, none], [], (hM Z M)) =
    sem PGM d yM_nearTo (5, [some (.ref 91), some (.int i1), some (.int 99), some (.int 0), none], [], (hM Z M)) := (ev_eq PGM d yM_nearTo [5] 400 _).trans rfl
set_option maxRecDepth 100000 in
theorem eM_nearTo_5 (d : Nat) (Z : ZT) (M : MS) (i1 : Int32) (i2 : Int32) (i3 : Int32) (u4 : Option Value) : sem PGM d yM_nearTo (5, [some (.ref 91), some (.int i1), some (.int i2), some (.int i3), u4], [], (hM Z M)) =
    bif decide (((M.1 0) 2) ≤ i3) then some (some (.int i2), (hM Z M))
    else aftK (sem PGM d yM_nearTo) 1 (21, [some (.ref 91), some (.int i1), some (.int i2), some (.int i3), u4], [.int i1], (hM Z M)) (call PGM d yM_whereBeast [.ref 91, .int i3] (hM Z M)) := (ev_eq PGM d yM_nearTo [5] 400 _).trans rfl
set_option maxRecDepth 100000 in
theorem eM_nearTo_21 (d : Nat) (Z : ZT) (M : MS) (i1 : Int32) (i2 : Int32) (i3 : Int32) (u4 : Option Value) (k0 : Int32) (k1 : Int32) : sem PGM d yM_nearTo (21, [some (.ref 91), some (.int i1), some (.int i2), some (.int i3), u4], [.int k1, .int k0], (hM Z M)) =
    aftK (sem PGM d yM_nearTo) 1 (29, [some (.ref 91), some (.int i1), some (.int i2), some (.int i3), some (.int (k0 - k1))], [], (hM Z M)) (call PGM d yM_whereBeast [.ref 91, .int i3] (hM Z M)) := (ev_eq PGM d yM_nearTo [5] 400 _).trans rfl
set_option maxRecDepth 100000 in
theorem eM_nearTo_29 (d : Nat) (Z : ZT) (M : MS) (i1 : Int32) (i2 : Int32) (i3 : Int32) (i4 : Int32) (k0 : Int32) : sem PGM d yM_nearTo (29, [some (.ref 91), some (.int i1), some (.int i2), some (.int i3), some (.int i4)], [.int k0], (hM Z M)) =
    bif decide (k0 < 0) then sem PGM d yM_nearTo (5, [some (.ref 91), some (.int i1), some (.int i2), some (.int (i3 + 1)), some (.int i4)], [], (hM Z M))
    else bif decide (i4 < 0) then sem PGM d yM_nearTo (5, [some (.ref 91), some (.int i1), some (.int i2), some (.int (i3 + 1)), some (.int i4)], [], (hM Z M))
      else bif decide (i2 ≤ i4) then sem PGM d yM_nearTo (5, [some (.ref 91), some (.int i1), some (.int i2), some (.int (i3 + 1)), some (.int i4)], [], (hM Z M))
        else sem PGM d yM_nearTo (5, [some (.ref 91), some (.int i1), some (.int i4), some (.int (i3 + 1)), some (.int i4)], [], (hM Z M)) := (ev_eq PGM d yM_nearTo [5] 400 _).trans rfl
set_option maxRecDepth 100000 in
theorem eM_beast_0 (d : Nat) (Z : ZT) (M : MS) (i1 : Int32) (i2 : Int32) : sem PGM d yM_beast (0, [some (.ref 91), some (.int i1), some (.int i2), none], [], (hM Z M)) =
    aftK (sem PGM d yM_beast) 1 (5, [some (.ref 91), some (.int i1), some (.int i2), none], [], (hM Z M)) (call PGM d yM_isCell [.ref 91, .int i1] (hM Z M)) := (ev_eq PGM d yM_beast [56, 65, 74, 84] 400 _).trans rfl
set_option maxRecDepth 100000 in
theorem eM_beast_5 (d : Nat) (Z : ZT) (M : MS) (i1 : Int32) (i2 : Int32) (u3 : Option Value) (k0 : Int32) : sem PGM d yM_beast (5, [some (.ref 91), some (.int i1), some (.int i2), u3], [.int k0], (hM Z M)) =
    bif decide (k0 = 0) then some (some (.int (-1)), (hM Z M))
    else aftK (sem PGM d yM_beast) 1 (17, [some (.ref 91), some (.int i1), some (.int i2), u3], [], (hM Z M)) (call PGM d yM_in [.long ((i2).toInt64), .long 1, .long 4] (hM Z M)) := (ev_eq PGM d yM_beast [56, 65, 74, 84] 400 _).trans rfl
set_option maxRecDepth 100000 in
theorem eM_beast_17 (d : Nat) (Z : ZT) (M : MS) (i1 : Int32) (i2 : Int32) (u3 : Option Value) (k0 : Int32) : sem PGM d yM_beast (17, [some (.ref 91), some (.int i1), some (.int i2), u3], [.int k0], (hM Z M)) =
    bif !decide (k0 = 0) then bif !decide (((M.1 0) 2) = 6) then bif inb (179 + (3 * ((M.1 0) 2))) 437 then sem PGM d yM_beast (56, [some (.ref 91), some (.int i1), some (.int i2), some (.int (179 + (3 * ((M.1 0) 2))))], [], (hM Z (mA M 0 (upd (M.1 0) ((179 + (3 * ((M.1 0) 2)))).toNatClampNeg i1))))
        else none
      else some (some (.int (-2)), (hM Z M))
    else some (some (.int (-1)), (hM Z M)) := (ev_eq PGM d yM_beast [56, 65, 74, 84] 400 _).trans rfl
set_option maxRecDepth 100000 in
theorem eM_beast_56 (d : Nat) (Z : ZT) (M : MS) (u1 : Option Value) (i2 : Int32) (i3 : Int32) : sem PGM d yM_beast (56, [some (.ref 91), u1, some (.int i2), some (.int i3)], [], (hM Z M)) =
    bif inb (i3 + 1) 437 then sem PGM d yM_beast (65, [some (.ref 91), u1, some (.int i2), some (.int i3)], [], (hM Z (mA M 0 (upd (M.1 0) ((i3 + 1)).toNatClampNeg i2))))
    else none := (ev_eq PGM d yM_beast [56, 65, 74, 84] 400 _).trans rfl
set_option maxRecDepth 100000 in
theorem eM_beast_65 (d : Nat) (Z : ZT) (M : MS) (u1 : Option Value) (i2 : Int32) (i3 : Int32) : sem PGM d yM_beast (65, [some (.ref 91), u1, some (.int i2), some (.int i3)], [], (hM Z M)) =
    bif inb (i3 + 2) 437 then sem PGM d yM_beast (74, [some (.ref 91), u1, some (.int i2), some (.int i3)], [], (hM Z (mA M 0 (upd (M.1 0) ((i3 + 2)).toNatClampNeg 0))))
    else none := (ev_eq PGM d yM_beast [56, 65, 74, 84] 400 _).trans rfl
set_option maxRecDepth 100000 in
theorem eM_beast_74 (d : Nat) (Z : ZT) (M : MS) (u1 : Option Value) (i2 : Int32) (u3 : Option Value) : sem PGM d yM_beast (74, [some (.ref 91), u1, some (.int i2), u3], [], (hM Z M)) =
    sem PGM d yM_beast (84, [some (.ref 91), u1, some (.int i2), u3], [], (hM Z (mA M 0 (upd (M.1 0) 2 (((M.1 0) 2) + 1))))) := (ev_eq PGM d yM_beast [56, 65, 74, 84] 400 _).trans rfl
set_option maxRecDepth 100000 in
theorem eM_beast_84 (d : Nat) (Z : ZT) (M : MS) (u1 : Option Value) (i2 : Int32) (u3 : Option Value) : sem PGM d yM_beast (84, [some (.ref 91), u1, some (.int i2), u3], [], (hM Z M)) =
    some (some (.int (((M.1 0) 2) - 1)), (hM Z M)) := (ev_eq PGM d yM_beast [56, 65, 74, 84] 400 _).trans rfl
set_option maxRecDepth 100000 in
theorem eM_beastOf_0 (d : Nat) (Z : ZT) (M : MS) (i1 : Int32) (i2 : Int32) : sem PGM d yM_beastOf (0, [some (.ref 91), some (.int i1), some (.int i2)], [], (hM Z M)) =
    aftK (sem PGM d yM_beastOf) 1 (5, [some (.ref 91), some (.int i1), some (.int i2)], [], (hM Z M)) (call PGM d yM_isBeast [.ref 91, .int i1] (hM Z M)) := (ev_eq PGM d yM_beastOf [] 400 _).trans rfl
set_option maxRecDepth 100000 in
theorem eM_beastOf_5 (d : Nat) (Z : ZT) (M : MS) (i1 : Int32) (i2 : Int32) (k0 : Int32) : sem PGM d yM_beastOf (5, [some (.ref 91), some (.int i1), some (.int i2)], [.int k0], (hM Z M)) =
    bif decide (k0 = 0) then some (some (.int (-1)), (hM Z M))
    else aftK (sem PGM d yM_beastOf) 1 (17, [some (.ref 91), some (.int i1), some (.int i2)], [], (hM Z M)) (call PGM d yM_in [.long ((i2).toInt64), .long 0, .long 2] (hM Z M)) := (ev_eq PGM d yM_beastOf [] 400 _).trans rfl
set_option maxRecDepth 100000 in
theorem eM_beastOf_17 (d : Nat) (Z : ZT) (M : MS) (i1 : Int32) (i2 : Int32) (k0 : Int32) : sem PGM d yM_beastOf (17, [some (.ref 91), some (.int i1), some (.int i2)], [.int k0], (hM Z M)) =
    bif decide (k0 = 0) then some (some (.int (-1)), (hM Z M))
    else bif inb ((179 + (3 * i1)) + i2) 437 then some (some (.int ((M.1 0) (((179 + (3 * i1)) + i2)).toNatClampNeg)), (hM Z M))
      else none := (ev_eq PGM d yM_beastOf [] 400 _).trans rfl
set_option maxRecDepth 100000 in
theorem eM_isBeast_0 (d : Nat) (Z : ZT) (M : MS) (i1 : Int32) : sem PGM d yM_isBeast (0, [some (.ref 91), some (.int i1)], [], (hM Z M)) =
    aftK (sem PGM d yM_isBeast) 1 (15, [some (.ref 91), some (.int i1)], [], (hM Z M)) (call PGM d yM_in [.long ((i1).toInt64), .long 0, .long (((((M.1 0) 2) - 1)).toInt64)] (hM Z M)) := (ev_eq PGM d yM_isBeast [] 400 _).trans rfl
set_option maxRecDepth 100000 in
theorem eM_isBeast_15 (d : Nat) (Z : ZT) (M : MS) (u0 : Option Value) (u1 : Option Value) (k0 : Int32) : sem PGM d yM_isBeast (15, [u0, u1], [.int k0], (hM Z M)) =
    bif isB k0 then some (some (.int k0), (hM Z M)) else none := (ev_eq PGM d yM_isBeast [] 400 _).trans rfl
set_option maxRecDepth 100000 in
theorem eM_moves_0 (d : Nat) (Z : ZT) (M : MS) (i1 : Int32) (i2 : Int32) (i3 : Int32) : sem PGM d yM_moves (0, [some (.ref 91), some (.int i1), some (.int i2), some (.int i3), none], [], (hM Z M)) =
    aftK (sem PGM d yM_moves) 1 (5, [some (.ref 91), some (.int i1), some (.int i2), some (.int i3), none], [], (hM Z M)) (call PGM d yM_isPerson [.ref 91, .int i1] (hM Z M)) := (ev_eq PGM d yM_moves [49] 400 _).trans rfl
set_option maxRecDepth 100000 in
theorem eM_moves_5 (d : Nat) (Z : ZT) (M : MS) (i1 : Int32) (i2 : Int32) (i3 : Int32) (u4 : Option Value) (k0 : Int32) : sem PGM d yM_moves (5, [some (.ref 91), some (.int i1), some (.int i2), some (.int i3), u4], [.int k0], (hM Z M)) =
    bif decide (k0 = 0) then some (some (.int (-1)), (hM Z M))
    else aftK (sem PGM d yM_moves) 1 (13, [some (.ref 91), some (.int i1), some (.int i2), some (.int i3), u4], [], (hM Z M)) (call PGM d yM_isCell [.ref 91, .int i2] (hM Z M)) := (ev_eq PGM d yM_moves [49] 400 _).trans rfl
set_option maxRecDepth 100000 in
theorem eM_moves_13 (d : Nat) (Z : ZT) (M : MS) (i1 : Int32) (i2 : Int32) (i3 : Int32) (u4 : Option Value) (k0 : Int32) : sem PGM d yM_moves (13, [some (.ref 91), some (.int i1), some (.int i2), some (.int i3), u4], [.int k0], (hM Z M)) =
    bif decide (k0 = 0) then some (some (.int (-1)), (hM Z M))
    else aftK (sem PGM d yM_moves) 1 (25, [some (.ref 91), some (.int i1), some (.int i2), some (.int i3), u4], [], (hM Z M)) (call PGM d yM_in [.long ((i3).toInt64), .long 1, .long 7] (hM Z M)) := (ev_eq PGM d yM_moves [49] 400 _).trans rfl
set_option maxRecDepth 100000 in
theorem eM_moves_25 (d : Nat) (Z : ZT) (M : MS) (i1 : Int32) (i2 : Int32) (i3 : Int32) (u4 : Option Value) (k0 : Int32) : sem PGM d yM_moves (25, [some (.ref 91), some (.int i1), some (.int i2), some (.int i3), u4], [.int k0], (hM Z M)) =
    bif !decide (k0 = 0) then aftK (sem PGM d yM_moves) 1 (35, [some (.ref 91), some (.int i1), some (.int i2), some (.int i3), u4], [], (hM Z M)) (call PGM d yM_kindOf [.ref 91, .int i1] (hM Z M))
    else some (some (.int (-1)), (hM Z M)) := (ev_eq PGM d yM_moves [49] 400 _).trans rfl
set_option maxRecDepth 100000 in
theorem eM_moves_35 (d : Nat) (Z : ZT) (M : MS) (i1 : Int32) (i2 : Int32) (i3 : Int32) (u4 : Option Value) (k0 : Int32) : sem PGM d yM_moves (35, [some (.ref 91), some (.int i1), some (.int i2), some (.int i3), u4], [.int k0], (hM Z M)) =
    bif inb (99 + (4 * i1)) 437 then sem PGM d yM_moves (49, [some (.ref 91), some (.int i1), some (.int i2), some (.int i3), some (.int k0)], [], (hM Z (mA M 0 (upd (M.1 0) ((99 + (4 * i1))).toNatClampNeg i3))))
    else none := (ev_eq PGM d yM_moves [49] 400 _).trans rfl
set_option maxRecDepth 100000 in
theorem eM_moves_49 (d : Nat) (Z : ZT) (M : MS) (i1 : Int32) (i2 : Int32) (i3 : Int32) (i4 : Int32) : sem PGM d yM_moves (49, [some (.ref 91), some (.int i1), some (.int i2), some (.int i3), some (.int i4)], [], (hM Z M)) =
    bif inb ((99 + (4 * i1)) + 1) 437 then some (some (.int i4), (hM Z (mA M 0 (upd (M.1 0) (((99 + (4 * i1)) + 1)).toNatClampNeg i2))))
    else none := (ev_eq PGM d yM_moves [49] 400 _).trans rfl
set_option maxRecDepth 100000 in
theorem eM_feed_0 (d : Nat) (Z : ZT) (M : MS) (l1 : Int64) (i3 : Int32) : sem PGM d yM_feed (0, [some (.ref 91), some (.long l1), none, some (.int i3), none], [], (hM Z M)) =
    aftK (sem PGM d yM_feed) 1 (9, [some (.ref 91), some (.long l1), none, some (.int i3), none], [], (hM Z M)) (call PGM d yM_in [.long ((i3).toInt64), .long 1, .long 8] (hM Z M)) := (ev_eq PGM d yM_feed [32, 59, 69] 400 _).trans rfl
set_option maxRecDepth 100000 in
theorem eM_feed_9 (d : Nat) (Z : ZT) (M : MS) (l1 : Int64) (i3 : Int32) (u4 : Option Value) (k0 : Int32) : sem PGM d yM_feed (9, [some (.ref 91), some (.long l1), none, some (.int i3), u4], [.int k0], (hM Z M)) =
    bif !decide (k0 = 0) then bif decide (((M.2 1) + i3) ≤ 200) then sem PGM d yM_feed (32, [some (.ref 91), some (.long l1), none, some (.int i3), some (.int 0)], [], (hM Z M))
      else some (some (.int (-2)), (hM Z M))
    else some (some (.int (-1)), (hM Z M)) := (ev_eq PGM d yM_feed [32, 59, 69] 400 _).trans rfl
set_option maxRecDepth 100000 in
theorem eM_feed_32 (d : Nat) (Z : ZT) (M : MS) (l1 : Int64) (i3 : Int32) (i4 : Int32) : sem PGM d yM_feed (32, [some (.ref 91), some (.long l1), none, some (.int i3), some (.int i4)], [], (hM Z M)) =
    bif decide (i3 ≤ i4) then some (some (.int (M.2 1)), (hM Z M))
    else bif inb (M.2 1) 200 then sem PGM d yM_feed (59, [some (.ref 91), some (.long l1), none, some (.int i3), some (.int i4)], [], (hM Z (mA M 3 (upd (M.1 3) ((M.2 1)).toNatClampNeg ((((l1 >>> (((8 * i4)).toInt64 &&& 63)) &&& 255)).toInt32)))))
      else none := (ev_eq PGM d yM_feed [32, 59, 69] 400 _).trans rfl
set_option maxRecDepth 100000 in
theorem eM_feed_59 (d : Nat) (Z : ZT) (M : MS) (l1 : Int64) (i3 : Int32) (i4 : Int32) : sem PGM d yM_feed (59, [some (.ref 91), some (.long l1), none, some (.int i3), some (.int i4)], [], (hM Z M)) =
    sem PGM d yM_feed (69, [some (.ref 91), some (.long l1), none, some (.int i3), some (.int i4)], [], (hM Z (mV M 1 ((M.2 1) + 1)))) := (ev_eq PGM d yM_feed [32, 59, 69] 400 _).trans rfl
set_option maxRecDepth 100000 in
theorem eM_feed_69 (d : Nat) (Z : ZT) (M : MS) (l1 : Int64) (i3 : Int32) (i4 : Int32) : sem PGM d yM_feed (69, [some (.ref 91), some (.long l1), none, some (.int i3), some (.int i4)], [], (hM Z M)) =
    sem PGM d yM_feed (32, [some (.ref 91), some (.long l1), none, some (.int i3), some (.int (i4 + 1))], [], (hM Z M)) := (ev_eq PGM d yM_feed [32, 59, 69] 400 _).trans rfl
set_option maxRecDepth 100000 in
theorem eM_read_0 (d : Nat) (Z : ZT) (M : MS)  : sem PGM d yM_read (0, [some (.ref 91), none], [], (hM Z M)) =
    sem PGM d yM_read (5, [some (.ref 91), none], [], (hM Z (mV M 3 0))) := (ev_eq PGM d yM_read [5, 10, 15, 20, 29, 59, 85, 87, 123, 131, 166] 400 _).trans rfl
set_option maxRecDepth 100000 in
theorem eM_read_5 (d : Nat) (Z : ZT) (M : MS) (u1 : Option Value) : sem PGM d yM_read (5, [some (.ref 91), u1], [], (hM Z M)) =
    sem PGM d yM_read (10, [some (.ref 91), u1], [], (hM Z (mV M 4 0))) := (ev_eq PGM d yM_read [5, 10, 15, 20, 29, 59, 85, 87, 123, 131, 166] 400 _).trans rfl
set_option maxRecDepth 100000 in
theorem eM_read_10 (d : Nat) (Z : ZT) (M : MS) (u1 : Option Value) : sem PGM d yM_read (10, [some (.ref 91), u1], [], (hM Z M)) =
    sem PGM d yM_read (15, [some (.ref 91), u1], [], (hM Z (mV M 5 0))) := (ev_eq PGM d yM_read [5, 10, 15, 20, 29, 59, 85, 87, 123, 131, 166] 400 _).trans rfl
set_option maxRecDepth 100000 in
theorem eM_read_15 (d : Nat) (Z : ZT) (M : MS) (u1 : Option Value) : sem PGM d yM_read (15, [some (.ref 91), u1], [], (hM Z M)) =
    sem PGM d yM_read (20, [some (.ref 91), u1], [], (hM Z (mV M 6 0))) := (ev_eq PGM d yM_read [5, 10, 15, 20, 29, 59, 85, 87, 123, 131, 166] 400 _).trans rfl
set_option maxRecDepth 100000 in
theorem eM_read_20 (d : Nat) (Z : ZT) (M : MS) (u1 : Option Value) : sem PGM d yM_read (20, [some (.ref 91), u1], [], (hM Z M)) =
    aftK (sem PGM d yM_read) 0 (29, [some (.ref 91), u1], [], (hM Z (mV M 7 0))) (call PGM d yM_next [.ref 91] (hM Z (mV M 7 0))) := (ev_eq PGM d yM_read [5, 10, 15, 20, 29, 59, 85, 87, 123, 131, 166] 400 _).trans rfl
set_option maxRecDepth 100000 in
theorem eM_read_29 (d : Nat) (Z : ZT) (M : MS) (u1 : Option Value) : sem PGM d yM_read (29, [some (.ref 91), u1], [], (hM Z M)) =
    bif !decide ((M.2 7) = 0) then sem PGM d yM_read (59, [some (.ref 91), u1], [], (hM Z (mV M 1 0)))
    else bif decide ((M.2 1) ≤ (M.2 2)) then sem PGM d yM_read (59, [some (.ref 91), u1], [], (hM Z (mV M 1 0)))
      else aftK (sem PGM d yM_read) 0 (51, [some (.ref 91), u1], [], (hM Z M)) (call PGM d yM_oneClause [.ref 91] (hM Z M)) := (ev_eq PGM d yM_read [5, 10, 15, 20, 29, 59, 85, 87, 123, 131, 166] 400 _).trans rfl
set_option maxRecDepth 100000 in
theorem eM_read_59 (d : Nat) (Z : ZT) (M : MS) (u1 : Option Value) : sem PGM d yM_read (59, [some (.ref 91), u1], [], (hM Z M)) =
    bif decide ((M.2 7) = 0) then sem PGM d yM_read (85, [some (.ref 91), u1], [], (hM Z (mA M 0 (upd (M.1 0) 8 (M.2 6)))))
    else some (some (.int ((-100) - (M.2 2))), (hM Z M)) := (ev_eq PGM d yM_read [5, 10, 15, 20, 29, 59, 85, 87, 123, 131, 166] 400 _).trans rfl
set_option maxRecDepth 100000 in
theorem eM_read_51 (d : Nat) (Z : ZT) (M : MS) (u1 : Option Value) : sem PGM d yM_read (51, [some (.ref 91), u1], [], (hM Z M)) =
    sem PGM d yM_read (29, [some (.ref 91), u1], [], (hM Z M)) := (ev_eq PGM d yM_read [5, 10, 15, 20, 29, 59, 85, 87, 123, 131, 166] 400 _).trans rfl
set_option maxRecDepth 100000 in
theorem eM_read_85 (d : Nat) (Z : ZT) (M : MS) (u1 : Option Value) : sem PGM d yM_read (85, [some (.ref 91), u1], [], (hM Z M)) =
    sem PGM d yM_read (87, [some (.ref 91), some (.int 0)], [], (hM Z M)) := (ev_eq PGM d yM_read [5, 10, 15, 20, 29, 59, 85, 87, 123, 131, 166] 400 _).trans rfl
set_option maxRecDepth 100000 in
theorem eM_read_87 (d : Nat) (Z : ZT) (M : MS) (i1 : Int32) : sem PGM d yM_read (87, [some (.ref 91), some (.int i1)], [], (hM Z M)) =
    bif decide (40 ≤ i1) then sem PGM d yM_read (131, [some (.ref 91), some (.int 0)], [], (hM Z M))
    else bif decide ((5 * (M.2 6)) ≤ i1) then bif inb (197 + i1) 437 then sem PGM d yM_read (123, [some (.ref 91), some (.int i1)], [], (hM Z (mA M 0 (upd (M.1 0) ((197 + i1)).toNatClampNeg 0))))
        else none
      else bif inb i1 40 then bif inb (197 + i1) 437 then sem PGM d yM_read (123, [some (.ref 91), some (.int i1)], [], (hM Z (mA M 0 (upd (M.1 0) ((197 + i1)).toNatClampNeg ((M.1 5) (i1).toNatClampNeg)))))
          else none
        else none := (ev_eq PGM d yM_read [5, 10, 15, 20, 29, 59, 85, 87, 123, 131, 166] 400 _).trans rfl
set_option maxRecDepth 100000 in
theorem eM_read_131 (d : Nat) (Z : ZT) (M : MS) (i1 : Int32) : sem PGM d yM_read (131, [some (.ref 91), some (.int i1)], [], (hM Z M)) =
    bif decide (200 ≤ i1) then some (some (.int (M.2 6)), (hM Z M))
    else bif decide ((M.2 5) ≤ i1) then bif inb (237 + i1) 437 then sem PGM d yM_read (166, [some (.ref 91), some (.int i1)], [], (hM Z (mA M 0 (upd (M.1 0) ((237 + i1)).toNatClampNeg 0))))
        else none
      else bif inb i1 200 then bif inb (237 + i1) 437 then sem PGM d yM_read (166, [some (.ref 91), some (.int i1)], [], (hM Z (mA M 0 (upd (M.1 0) ((237 + i1)).toNatClampNeg ((M.1 4) (i1).toNatClampNeg)))))
          else none
        else none := (ev_eq PGM d yM_read [5, 10, 15, 20, 29, 59, 85, 87, 123, 131, 166] 400 _).trans rfl
set_option maxRecDepth 100000 in
theorem eM_read_123 (d : Nat) (Z : ZT) (M : MS) (i1 : Int32) : sem PGM d yM_read (123, [some (.ref 91), some (.int i1)], [], (hM Z M)) =
    sem PGM d yM_read (87, [some (.ref 91), some (.int (i1 + 1))], [], (hM Z M)) := (ev_eq PGM d yM_read [5, 10, 15, 20, 29, 59, 85, 87, 123, 131, 166] 400 _).trans rfl
set_option maxRecDepth 100000 in
theorem eM_read_166 (d : Nat) (Z : ZT) (M : MS) (i1 : Int32) : sem PGM d yM_read (166, [some (.ref 91), some (.int i1)], [], (hM Z M)) =
    sem PGM d yM_read (131, [some (.ref 91), some (.int (i1 + 1))], [], (hM Z M)) := (ev_eq PGM d yM_read [5, 10, 15, 20, 29, 59, 85, 87, 123, 131, 166] 400 _).trans rfl
set_option maxRecDepth 100000 in
theorem eM_next_0 (d : Nat) (Z : ZT) (M : MS)  : sem PGM d yM_next (0, [some (.ref 91), none, none], [], (hM Z M)) =
    sem PGM d yM_next (8, [some (.ref 91), none, none], [], (hM Z (mV M 2 (M.2 3)))) := (ev_eq PGM d yM_next [8, 31, 86, 132] 400 _).trans rfl
set_option maxRecDepth 100000 in
theorem eM_next_8 (d : Nat) (Z : ZT) (M : MS) (u2 : Option Value) : sem PGM d yM_next (8, [some (.ref 91), none, u2], [], (hM Z M)) =
    aftK (sem PGM d yM_next) 1 (16, [some (.ref 91), none, u2], [], (hM Z M)) (call PGM d yM_byteAt [.ref 91, .int (M.2 2)] (hM Z M)) := (ev_eq PGM d yM_next [8, 31, 86, 132] 400 _).trans rfl
set_option maxRecDepth 100000 in
theorem eM_next_16 (d : Nat) (Z : ZT) (M : MS) (u2 : Option Value) (k0 : Int32) : sem PGM d yM_next (16, [some (.ref 91), none, u2], [.int k0], (hM Z M)) =
    bif !decide (k0 = 32) then aftK (sem PGM d yM_next) 1 (42, [some (.ref 91), none, u2], [], (hM Z M)) (call PGM d yM_byteAt [.ref 91, .int (M.2 2)] (hM Z M))
    else sem PGM d yM_next (31, [some (.ref 91), none, u2], [], (hM Z (mV M 2 ((M.2 2) + 1)))) := (ev_eq PGM d yM_next [8, 31, 86, 132] 400 _).trans rfl
set_option maxRecDepth 100000 in
theorem eM_next_42 (d : Nat) (Z : ZT) (M : MS) (u2 : Option Value) (k0 : Int32) : sem PGM d yM_next (42, [some (.ref 91), none, u2], [.int k0], (hM Z M)) =
    aftK (sem PGM d yM_next) 1 (45, [some (.ref 91), none, u2], [], (hM Z M)) (call PGM d yM_isLetter [.int k0] (hM Z M)) := (ev_eq PGM d yM_next [8, 31, 86, 132] 400 _).trans rfl
set_option maxRecDepth 100000 in
theorem eM_next_31 (d : Nat) (Z : ZT) (M : MS) (u2 : Option Value) : sem PGM d yM_next (31, [some (.ref 91), none, u2], [], (hM Z M)) =
    sem PGM d yM_next (8, [some (.ref 91), none, u2], [], (hM Z M)) := (ev_eq PGM d yM_next [8, 31, 86, 132] 400 _).trans rfl
set_option maxRecDepth 100000 in
theorem eM_next_45 (d : Nat) (Z : ZT) (M : MS) (u2 : Option Value) (k0 : Int32) : sem PGM d yM_next (45, [some (.ref 91), none, u2], [.int k0], (hM Z M)) =
    aftK (sem PGM d yM_next) 1 (54, [some (.ref 91), some (.int k0), u2], [], (hM Z M)) (call PGM d yM_byteAt [.ref 91, .int (M.2 2)] (hM Z M)) := (ev_eq PGM d yM_next [8, 31, 86, 132] 400 _).trans rfl
set_option maxRecDepth 100000 in
theorem eM_next_54 (d : Nat) (Z : ZT) (M : MS) (i1 : Int32) (u2 : Option Value) (k0 : Int32) : sem PGM d yM_next (54, [some (.ref 91), some (.int i1), u2], [.int k0], (hM Z M)) =
    aftK (sem PGM d yM_next) 1 (57, [some (.ref 91), some (.int i1), u2], [], (hM Z M)) (call PGM d yM_isDigit [.int k0] (hM Z M)) := (ev_eq PGM d yM_next [8, 31, 86, 132] 400 _).trans rfl
set_option maxRecDepth 100000 in
theorem eM_next_57 (d : Nat) (Z : ZT) (M : MS) (i1 : Int32) (u2 : Option Value) (k0 : Int32) : sem PGM d yM_next (57, [some (.ref 91), some (.int i1), u2], [.int k0], (hM Z M)) =
    bif decide ((M.2 1) ≤ (M.2 2)) then sem PGM d yM_next (86, [some (.ref 91), some (.int i1), some (.int k0)], [], (hM Z (mV M 3 (M.2 2))))
    else sem PGM d yM_next (86, [some (.ref 91), some (.int i1), some (.int k0)], [], (hM Z (mV M 3 ((M.2 2) + 1)))) := (ev_eq PGM d yM_next [8, 31, 86, 132] 400 _).trans rfl
set_option maxRecDepth 100000 in
theorem eM_next_86 (d : Nat) (Z : ZT) (M : MS) (i1 : Int32) (i2 : Int32) : sem PGM d yM_next (86, [some (.ref 91), some (.int i1), some (.int i2)], [], (hM Z M)) =
    bif decide (i1 = 0) then bif decide (i2 = 0) then some (none, (hM Z M))
      else aftK (sem PGM d yM_next) 1 (116, [some (.ref 91), some (.int i1), some (.int i2)], [], (hM Z M)) (call PGM d yM_byteAt [.ref 91, .int (M.2 3)] (hM Z M))
    else aftK (sem PGM d yM_next) 1 (98, [some (.ref 91), some (.int i1), some (.int i2)], [], (hM Z M)) (call PGM d yM_byteAt [.ref 91, .int (M.2 3)] (hM Z M)) := (ev_eq PGM d yM_next [8, 31, 86, 132] 400 _).trans rfl
set_option maxRecDepth 100000 in
theorem eM_next_116 (d : Nat) (Z : ZT) (M : MS) (i1 : Int32) (i2 : Int32) (k0 : Int32) : sem PGM d yM_next (116, [some (.ref 91), some (.int i1), some (.int i2)], [.int k0], (hM Z M)) =
    aftK (sem PGM d yM_next) 1 (119, [some (.ref 91), some (.int i1), some (.int i2)], [], (hM Z M)) (call PGM d yM_isDigit [.int k0] (hM Z M)) := (ev_eq PGM d yM_next [8, 31, 86, 132] 400 _).trans rfl
set_option maxRecDepth 100000 in
theorem eM_next_98 (d : Nat) (Z : ZT) (M : MS) (i1 : Int32) (i2 : Int32) (k0 : Int32) : sem PGM d yM_next (98, [some (.ref 91), some (.int i1), some (.int i2)], [.int k0], (hM Z M)) =
    aftK (sem PGM d yM_next) 1 (101, [some (.ref 91), some (.int i1), some (.int i2)], [], (hM Z M)) (call PGM d yM_isLetter [.int k0] (hM Z M)) := (ev_eq PGM d yM_next [8, 31, 86, 132] 400 _).trans rfl
set_option maxRecDepth 100000 in
theorem eM_next_119 (d : Nat) (Z : ZT) (M : MS) (i1 : Int32) (i2 : Int32) (k0 : Int32) : sem PGM d yM_next (119, [some (.ref 91), some (.int i1), some (.int i2)], [.int k0], (hM Z M)) =
    bif decide (k0 = 0) then some (none, (hM Z M))
    else sem PGM d yM_next (132, [some (.ref 91), some (.int i1), some (.int i2)], [], (hM Z (mV M 3 ((M.2 3) + 1)))) := (ev_eq PGM d yM_next [8, 31, 86, 132] 400 _).trans rfl
set_option maxRecDepth 100000 in
theorem eM_next_101 (d : Nat) (Z : ZT) (M : MS) (i1 : Int32) (i2 : Int32) (k0 : Int32) : sem PGM d yM_next (101, [some (.ref 91), some (.int i1), some (.int i2)], [.int k0], (hM Z M)) =
    bif !decide (k0 = 0) then sem PGM d yM_next (132, [some (.ref 91), some (.int i1), some (.int i2)], [], (hM Z (mV M 3 ((M.2 3) + 1))))
    else bif decide (i2 = 0) then some (none, (hM Z M))
      else aftK (sem PGM d yM_next) 1 (116, [some (.ref 91), some (.int i1), some (.int i2)], [], (hM Z M)) (call PGM d yM_byteAt [.ref 91, .int (M.2 3)] (hM Z M)) := (ev_eq PGM d yM_next [8, 31, 86, 132] 400 _).trans rfl
set_option maxRecDepth 100000 in
theorem eM_next_132 (d : Nat) (Z : ZT) (M : MS) (i1 : Int32) (i2 : Int32) : sem PGM d yM_next (132, [some (.ref 91), some (.int i1), some (.int i2)], [], (hM Z M)) =
    sem PGM d yM_next (86, [some (.ref 91), some (.int i1), some (.int i2)], [], (hM Z M)) := (ev_eq PGM d yM_next [8, 31, 86, 132] 400 _).trans rfl
set_option maxRecDepth 100000 in
theorem eM_byteAt_0 (d : Nat) (Z : ZT) (M : MS) (i1 : Int32) : sem PGM d yM_byteAt (0, [some (.ref 91), some (.int i1)], [], (hM Z M)) =
    bif decide ((M.2 1) ≤ i1) then some (some (.int (-1)), (hM Z M))
    else bif inb i1 200 then some (some (.int ((M.1 3) (i1).toNatClampNeg)), (hM Z M))
      else none := (ev_eq PGM d yM_byteAt [] 400 _).trans rfl
set_option maxRecDepth 100000 in
theorem eM_isLetter_0 (d : Nat) (h : AH) (i0 : Int32) : sem PGM d yM_isLetter (0, [some (.int i0)], [], h) =
    aftK (sem PGM d yM_isLetter) 1 (11, [some (.int i0)], [], h) (call PGM d yM_in [.long ((i0).toInt64), .long 97, .long 122] h) := (ev_eq PGM d yM_isLetter [] 400 _).trans rfl
set_option maxRecDepth 100000 in
theorem eM_isLetter_11 (d : Nat) (h : AH) (u0 : Option Value) (k0 : Int32) : sem PGM d yM_isLetter (11, [u0], [.int k0], h) =
    bif isB k0 then some (some (.int k0), h) else none := (ev_eq PGM d yM_isLetter [] 400 _).trans rfl
set_option maxRecDepth 100000 in
theorem eM_isDigit_0 (d : Nat) (h : AH) (i0 : Int32) : sem PGM d yM_isDigit (0, [some (.int i0)], [], h) =
    aftK (sem PGM d yM_isDigit) 1 (11, [some (.int i0)], [], h) (call PGM d yM_in [.long ((i0).toInt64), .long 48, .long 57] h) := (ev_eq PGM d yM_isDigit [] 400 _).trans rfl
set_option maxRecDepth 100000 in
theorem eM_isDigit_11 (d : Nat) (h : AH) (u0 : Option Value) (k0 : Int32) : sem PGM d yM_isDigit (11, [u0], [.int k0], h) =
    bif isB k0 then some (some (.int k0), h) else none := (ev_eq PGM d yM_isDigit [] 400 _).trans rfl
