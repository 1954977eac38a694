/-! Equations of blocks, by wip/whole/gen/alleq.py. -/
set_option maxRecDepth 100000 in
theorem eM_heaps_0 (d : Nat) (Z : ZT) (M : MS)  : sem PGM d yM_heaps (0, [some (.ref 91), none, none, none], [], (hM Z M)) =
    sem PGM d yM_heaps (2, [some (.ref 91), some (.int 0), none, none], [], (hM Z M)) := (ev_eq PGM d yM_heaps [2, 35, 80] 400 _).trans rfl
set_option maxRecDepth 100000 in
theorem eM_heaps_2 (d : Nat) (Z : ZT) (M : MS) (i1 : Int32) (u3 : Option Value) : sem PGM d yM_heaps (2, [some (.ref 91), some (.int i1), none, u3], [], (hM Z M)) =
    bif decide (((M.1 0) 0) ≤ i1) then some (none, (hM Z M))
    else aftK (sem PGM d yM_heaps) 1 (17, [some (.ref 91), some (.int i1), none, u3], [], (hM Z M)) (call PGM d yM_fallenIn [.ref 91, .int i1] (hM Z M)) := (ev_eq PGM d yM_heaps [2, 35, 80] 400 _).trans rfl
set_option maxRecDepth 100000 in
theorem eM_heaps_17 (d : Nat) (Z : ZT) (M : MS) (i1 : Int32) (u3 : Option Value) (k0 : Int32) : sem PGM d yM_heaps (17, [some (.ref 91), some (.int i1), none, u3], [.int k0], (hM Z M)) =
    bif decide (k0 < ((M.1 0) 7)) then sem PGM d yM_heaps (35, [some (.ref 91), some (.int i1), some (.int 0), some (.int 0)], [], (hM Z M))
    else sem PGM d yM_heaps (35, [some (.ref 91), some (.int i1), some (.int 1), some (.int 0)], [], (hM Z M)) := (ev_eq PGM d yM_heaps [2, 35, 80] 400 _).trans rfl
set_option maxRecDepth 100000 in
theorem eM_heaps_35 (d : Nat) (Z : ZT) (M : MS) (i1 : Int32) (i2 : Int32) (i3 : Int32) : sem PGM d yM_heaps (35, [some (.ref 91), some (.int i1), some (.int i2), some (.int i3)], [], (hM Z M)) =
    bif decide (((M.1 0) 1) ≤ i3) then sem PGM d yM_heaps (2, [some (.ref 91), some (.int (i1 + 1)), some (.int i2), some (.int i3)], [], (hM Z M))
    else bif decide (i2 = 0) then sem PGM d yM_heaps (80, [some (.ref 91), some (.int i1), some (.int i2), some (.int i3)], [], (hM Z M))
      else aftK (sem PGM d yM_heaps) 1 (54, [some (.ref 91), some (.int i1), some (.int i2), some (.int i3)], [], (hM Z M)) (call PGM d yM_whereIs [.ref 91, .int i3] (hM Z M)) := (ev_eq PGM d yM_heaps [2, 35, 80] 400 _).trans rfl
set_option maxRecDepth 100000 in
theorem eM_heaps_2x (d : Nat) (Z : ZT) (M : MS) (i1 : Int32) (i2 : Int32) (u3 : Option Value) : sem PGM d yM_heaps (2, [some (.ref 91), some (.int i1), some (.int i2), u3], [], (hM Z M)) =
    bif decide (((M.1 0) 0) ≤ i1) then some (none, (hM Z M))
    else aftK (sem PGM d yM_heaps) 1 (17, [some (.ref 91), some (.int i1), some (.int i2), u3], [], (hM Z M)) (call PGM d yM_fallenIn [.ref 91, .int i1] (hM Z M)) := (ev_eq PGM d yM_heaps [2, 35, 80] 400 _).trans rfl
set_option maxRecDepth 100000 in
theorem eM_heaps_80 (d : Nat) (Z : ZT) (M : MS) (i1 : Int32) (i2 : Int32) (i3 : Int32) : sem PGM d yM_heaps (80, [some (.ref 91), some (.int i1), some (.int i2), some (.int i3)], [], (hM Z M)) =
    sem PGM d yM_heaps (35, [some (.ref 91), some (.int i1), some (.int i2), some (.int (i3 + 1))], [], (hM Z M)) := (ev_eq PGM d yM_heaps [2, 35, 80] 400 _).trans rfl
set_option maxRecDepth 100000 in
theorem eM_heaps_54 (d : Nat) (Z : ZT) (M : MS) (i1 : Int32) (i2 : Int32) (i3 : Int32) (k0 : Int32) : sem PGM d yM_heaps (54, [some (.ref 91), some (.int i1), some (.int i2), some (.int i3)], [.int k0], (hM Z M)) =
    bif !decide (k0 = i1) then sem PGM d yM_heaps (80, [some (.ref 91), some (.int i1), some (.int i2), some (.int i3)], [], (hM Z M))
    else aftK (sem PGM d yM_heaps) 1 (63, [some (.ref 91), some (.int i1), some (.int i2), some (.int i3)], [], (hM Z M)) (call PGM d yM_kindOf [.ref 91, .int i3] (hM Z M)) := (ev_eq PGM d yM_heaps [2, 35, 80] 400 _).trans rfl
set_option maxRecDepth 100000 in
theorem eM_heaps_17x (d : Nat) (Z : ZT) (M : MS) (i1 : Int32) (i2 : Int32) (u3 : Option Value) (k0 : Int32) : sem PGM d yM_heaps (17, [some (.ref 91), some (.int i1), some (.int i2), u3], [.int k0], (hM Z M)) =
    bif decide (k0 < ((M.1 0) 7)) then sem PGM d yM_heaps (35, [some (.ref 91), some (.int i1), some (.int 0), some (.int 0)], [], (hM Z M))
    else sem PGM d yM_heaps (35, [some (.ref 91), some (.int i1), some (.int 1), some (.int 0)], [], (hM Z M)) := (ev_eq PGM d yM_heaps [2, 35, 80] 400 _).trans rfl
set_option maxRecDepth 100000 in
theorem eM_heaps_63 (d : Nat) (Z : ZT) (M : MS) (i1 : Int32) (i2 : Int32) (i3 : Int32) (k0 : Int32) : sem PGM d yM_heaps (63, [some (.ref 91), some (.int i1), some (.int i2), some (.int i3)], [.int k0], (hM Z M)) =
    bif !decide (k0 = 3) then sem PGM d yM_heaps (80, [some (.ref 91), some (.int i1), some (.int i2), some (.int i3)], [], (hM Z M))
    else bif inb (99 + (4 * i3)) 437 then sem PGM d yM_heaps (80, [some (.ref 91), some (.int i1), some (.int i2), some (.int i3)], [], (hM Z (mA M 0 (upd (M.1 0) ((99 + (4 * i3))).toNatClampNeg 6))))
      else none := (ev_eq PGM d yM_heaps [2, 35, 80] 400 _).trans rfl
set_option maxRecDepth 100000 in
theorem eM_morning_0 (d : Nat) (Z : ZT) (M : MS) (i1 : Int32) : sem PGM d yM_morning (0, [some (.ref 91), some (.int i1), none, none, none, none, none], [], (hM Z M)) =
    aftK (sem PGM d yM_morning) 1 (9, [some (.ref 91), some (.int i1), none, none, none, none, none], [], (hM Z M)) (call PGM d yM_in [.long ((i1).toInt64), .long 0, .long 3] (hM Z M)) := (ev_eq PGM d yM_morning [24, 118] 400 _).trans rfl
set_option maxRecDepth 100000 in
theorem eM_morning_9 (d : Nat) (Z : ZT) (M : MS) (i1 : Int32) (u6 : Option Value) (k0 : Int32) : sem PGM d yM_morning (9, [some (.ref 91), some (.int i1), none, none, none, none, u6], [.int k0], (hM Z M)) =
    bif !decide (k0 = 0) then sem PGM d yM_morning (24, [some (.ref 91), some (.int i1), some (.int 0), some (.int 0), some (.int 0), some (.int 0), u6], [], (hM Z M))
    else some (some (.int (-1)), (hM Z M)) := (ev_eq PGM d yM_morning [24, 118] 400 _).trans rfl
set_option maxRecDepth 100000 in
theorem eM_morning_24 (d : Nat) (Z : ZT) (M : MS) (i1 : Int32) (i2 : Int32) (i3 : Int32) (i4 : Int32) (i5 : Int32) (u6 : Option Value) : sem PGM d yM_morning (24, [some (.ref 91), some (.int i1), some (.int i2), some (.int i3), some (.int i4), some (.int i5), u6], [], (hM Z M)) =
    bif decide (((M.1 0) 1) ≤ i5) then sem PGM d yM_morning (118, [some (.ref 91), some (.int i1), some (.int i2), some (.int i3), some (.int i4), some (.int 0), some (.int 0)], [], (hM Z M))
    else bif inb ((99 + (4 * i5)) + 3) 437 then aftK (sem PGM d yM_morning) 1 (59, [some (.ref 91), some (.int i1), some (.int (i2 + ((M.1 0) (((99 + (4 * i5)) + 3)).toNatClampNeg))), some (.int i3), some (.int i4), some (.int i5), u6], [.int i3], (hM Z M)) (call PGM d yM_whereIs [.ref 91, .int i5] (hM Z M))
      else none := (ev_eq PGM d yM_morning [24, 118] 400 _).trans rfl
set_option maxRecDepth 100000 in
theorem eM_morning_118 (d : Nat) (Z : ZT) (M : MS) (i1 : Int32) (i2 : Int32) (i3 : Int32) (i4 : Int32) (i5 : Int32) (i6 : Int32) : sem PGM d yM_morning (118, [some (.ref 91), some (.int i1), some (.int i2), some (.int i3), some (.int i4), some (.int i5), some (.int i6)], [], (hM Z M)) =
    bif decide (30 ≤ i6) then bif !decide (i1 = 0) then bif !decide (i1 = 1) then bif !decide (i1 = 2) then some (some (.int i5), (hM Z M))
          else some (some (.int i3), (hM Z M))
        else some (some (.int i2), (hM Z M))
      else some (some (.int ((M.1 0) 3)), (hM Z M))
    else sem PGM d yM_morning (118, [some (.ref 91), some (.int i1), some (.int i2), some (.int i3), some (.int i4), some (.int (i5 + ((i4 >>> (i6 &&& 31)) &&& 1))), some (.int (i6 + 1))], [], (hM Z M)) := (ev_eq PGM d yM_morning [24, 118] 400 _).trans rfl
set_option maxRecDepth 100000 in
theorem eM_morning_59 (d : Nat) (Z : ZT) (M : MS) (i1 : Int32) (i2 : Int32) (i3 : Int32) (i4 : Int32) (i5 : Int32) (u6 : Option Value) (k0 : Int32) (k1 : Int32) : sem PGM d yM_morning (59, [some (.ref 91), some (.int i1), some (.int i2), some (.int i3), some (.int i4), some (.int i5), u6], [.int k1, .int k0], (hM Z M)) =
    bif decide (0 ≤ k1) then aftK (sem PGM d yM_morning) 1 (77, [some (.ref 91), some (.int i1), some (.int i2), some (.int (k0 + 0)), some (.int i4), some (.int i5), u6], [.int i4], (hM Z M)) (call PGM d yM_whereIs [.ref 91, .int i5] (hM Z M))
    else aftK (sem PGM d yM_morning) 1 (77, [some (.ref 91), some (.int i1), some (.int i2), some (.int (k0 + 1)), some (.int i4), some (.int i5), u6], [.int i4], (hM Z M)) (call PGM d yM_whereIs [.ref 91, .int i5] (hM Z M)) := (ev_eq PGM d yM_morning [24, 118] 400 _).trans rfl
set_option maxRecDepth 100000 in
theorem eM_morning_77 (d : Nat) (Z : ZT) (M : MS) (i1 : Int32) (i2 : Int32) (i3 : Int32) (i4 : Int32) (i5 : Int32) (u6 : Option Value) (k0 : Int32) (k1 : Int32) : sem PGM d yM_morning (77, [some (.ref 91), some (.int i1), some (.int i2), some (.int i3), some (.int i4), some (.int i5), u6], [.int k1, .int k0], (hM Z M)) =
    bif decide (k1 < 0) then sem PGM d yM_morning (24, [some (.ref 91), some (.int i1), some (.int i2), some (.int i3), some (.int (k0 ||| 0)), some (.int (i5 + 1)), u6], [], (hM Z M))
    else aftK (sem PGM d yM_morning) 1 (86, [some (.ref 91), some (.int i1), some (.int i2), some (.int i3), some (.int i4), some (.int i5), u6], [.int k0], (hM Z M)) (call PGM d yM_kindOf [.ref 91, .int i5] (hM Z M)) := (ev_eq PGM d yM_morning [24, 118] 400 _).trans rfl
set_option maxRecDepth 100000 in
theorem eM_morning_86 (d : Nat) (Z : ZT) (M : MS) (i1 : Int32) (i2 : Int32) (i3 : Int32) (i4 : Int32) (i5 : Int32) (u6 : Option Value) (k0 : Int32) (k1 : Int32) : sem PGM d yM_morning (86, [some (.ref 91), some (.int i1), some (.int i2), some (.int i3), some (.int i4), some (.int i5), u6], [.int k1, .int k0], (hM Z M)) =
    bif !decide (k1 = 6) then sem PGM d yM_morning (24, [some (.ref 91), some (.int i1), some (.int i2), some (.int i3), some (.int (k0 ||| 0)), some (.int (i5 + 1)), u6], [], (hM Z M))
    else aftK (sem PGM d yM_morning) 1 (98, [some (.ref 91), some (.int i1), some (.int i2), some (.int i3), some (.int i4), some (.int i5), u6], [.int 1, .int k0], (hM Z M)) (call PGM d yM_whereIs [.ref 91, .int i5] (hM Z M)) := (ev_eq PGM d yM_morning [24, 118] 400 _).trans rfl
set_option maxRecDepth 100000 in
theorem eM_morning_98 (d : Nat) (Z : ZT) (M : MS) (i1 : Int32) (i2 : Int32) (i3 : Int32) (i4 : Int32) (i5 : Int32) (u6 : Option Value) (k0 : Int32) (k1 : Int32) (k2 : Int32) : sem PGM d yM_morning (98, [some (.ref 91), some (.int i1), some (.int i2), some (.int i3), some (.int i4), some (.int i5), u6], [.int k2, .int k1, .int k0], (hM Z M)) =
    sem PGM d yM_morning (24, [some (.ref 91), some (.int i1), some (.int i2), some (.int i3), some (.int (k0 ||| (k1 <<< (k2 &&& 31)))), some (.int (i5 + 1)), u6], [], (hM Z M)) := (ev_eq PGM d yM_morning [24, 118] 400 _).trans rfl
set_option maxRecDepth 100000 in
theorem eM_odds_0 (d : Nat) (Z : ZT) (M : MS) (i1 : Int32) (i2 : Int32) (i3 : Int32) : sem PGM d yM_odds (0, [some (.ref 91), some (.int i1), some (.int i2), some (.int i3), none, none], [], (hM Z M)) =
    aftK (sem PGM d yM_odds) 1 (5, [some (.ref 91), some (.int i1), some (.int i2), some (.int i3), none, none], [], (hM Z M)) (call PGM d yM_isPerson [.ref 91, .int i1] (hM Z M)) := (ev_eq PGM d yM_odds [33, 76] 400 _).trans rfl
set_option maxRecDepth 100000 in
theorem eM_odds_5 (d : Nat) (Z : ZT) (M : MS) (i1 : Int32) (i2 : Int32) (i3 : Int32) (u5 : Option Value) (k0 : Int32) : sem PGM d yM_odds (5, [some (.ref 91), some (.int i1), some (.int i2), some (.int i3), none, u5], [.int k0], (hM Z M)) =
    bif decide (k0 = 0) then some (some (.int (-1)), (hM Z M))
    else aftK (sem PGM d yM_odds) 1 (12, [some (.ref 91), some (.int i1), some (.int i2), some (.int i3), none, u5], [], (hM Z M)) (call PGM d yM_isLong [.int i2] (hM Z M)) := (ev_eq PGM d yM_odds [33, 76] 400 _).trans rfl
set_option maxRecDepth 100000 in
theorem eM_odds_12 (d : Nat) (Z : ZT) (M : MS) (i1 : Int32) (i2 : Int32) (i3 : Int32) (u5 : Option Value) (k0 : Int32) : sem PGM d yM_odds (12, [some (.ref 91), some (.int i1), some (.int i2), some (.int i3), none, u5], [.int k0], (hM Z M)) =
    bif decide (k0 = 0) then some (some (.int (-1)), (hM Z M))
    else aftK (sem PGM d yM_odds) 1 (22, [some (.ref 91), some (.int i1), some (.int i2), some (.int i3), none, u5], [], (hM Z M)) (call PGM d yM_in [.long ((i3).toInt64), .long 0, .long 1] (hM Z M)) := (ev_eq PGM d yM_odds [33, 76] 400 _).trans rfl
set_option maxRecDepth 100000 in
theorem eM_odds_22 (d : Nat) (Z : ZT) (M : MS) (i1 : Int32) (i2 : Int32) (i3 : Int32) (u5 : Option Value) (k0 : Int32) : sem PGM d yM_odds (22, [some (.ref 91), some (.int i1), some (.int i2), some (.int i3), none, u5], [.int k0], (hM Z M)) =
    bif !decide (k0 = 0) then sem PGM d yM_odds (33, [some (.ref 91), some (.int i1), some (.int i2), some (.int i3), some (.int 0), some (.int 1)], [], (hM Z M))
    else some (some (.int (-1)), (hM Z M)) := (ev_eq PGM d yM_odds [33, 76] 400 _).trans rfl
set_option maxRecDepth 100000 in
theorem eM_odds_33 (d : Nat) (Z : ZT) (M : MS) (i1 : Int32) (i2 : Int32) (i3 : Int32) (i4 : Int32) (i5 : Int32) : sem PGM d yM_odds (33, [some (.ref 91), some (.int i1), some (.int i2), some (.int i3), some (.int i4), some (.int i5)], [], (hM Z M)) =
    bif decide (16 < i5) then sem PGM d yM_odds (76, [some (.ref 91), some (.int i1), some (.int i2), some (.int i3), some (.int i4), some (.int 16)], [], (hM Z M))
    else aftK (sem PGM d yM_odds) 1 (52, [some (.ref 91), some (.int i1), some (.int i2), some (.int i3), some (.int i4), some (.int i5)], [.int i5, .int i2, .int i1, .ref 91, .int i4], (hM Z M)) (call PGM d yM_whereIs [.ref 91, .int i1] (hM Z M)) := (ev_eq PGM d yM_odds [33, 76] 400 _).trans rfl
set_option maxRecDepth 100000 in
theorem eM_odds_76 (d : Nat) (Z : ZT) (M : MS) (u0 : Option Value) (u1 : Option Value) (u2 : Option Value) (i3 : Int32) (i4 : Int32) (i5 : Int32) : sem PGM d yM_odds (76, [u0, u1, u2, some (.int i3), some (.int i4), some (.int i5)], [], (hM Z M)) =
    bif !decide ((i4 - i4 / 2 * 2) = 0) then bif !decide (i3 = 0) then some (some (.int i5), (hM Z M))
      else some (some (.int i4), (hM Z M))
    else bif decide (i5 ≤ 1) then bif !decide (i3 = 0) then some (some (.int i5), (hM Z M))
        else some (some (.int i4), (hM Z M))
      else sem PGM d yM_odds (76, [u0, u1, u2, some (.int i3), some (.int (i4 / 2)), some (.int (i5 / 2))], [], (hM Z M)) := (ev_eq PGM d yM_odds [33, 76] 400 _).trans rfl
set_option maxRecDepth 100000 in
theorem eM_odds_52 (d : Nat) (Z : ZT) (M : MS) (i1 : Int32) (i2 : Int32) (i3 : Int32) (i4 : Int32) (i5 : Int32) (k0 : Int32) (k2 : Int32) (k3 : Int32) (k4 : Int32) (k5 : Int32) : sem PGM d yM_odds (52, [some (.ref 91), some (.int i1), some (.int i2), some (.int i3), some (.int i4), some (.int i5)], [.int k5, .int k4, .int k3, .int k2, .ref 91, .int k0], (hM Z M)) =
    aftK (sem PGM d yM_odds) 1 (55, [some (.ref 91), some (.int i1), some (.int i2), some (.int i3), some (.int i4), some (.int i5)], [.int k0], (hM Z M)) (call PGM d yM_hurtsIn [.ref 91, .int k2, .int k3, .int k4, .int k5] (hM Z M)) := (ev_eq PGM d yM_odds [33, 76] 400 _).trans rfl
set_option maxRecDepth 100000 in
theorem eM_odds_55 (d : Nat) (Z : ZT) (M : MS) (i1 : Int32) (i2 : Int32) (i3 : Int32) (i4 : Int32) (i5 : Int32) (k0 : Int32) (k1 : Int32) : sem PGM d yM_odds (55, [some (.ref 91), some (.int i1), some (.int i2), some (.int i3), some (.int i4), some (.int i5)], [.int k1, .int k0], (hM Z M)) =
    bif decide (k1 ≤ 0) then sem PGM d yM_odds (33, [some (.ref 91), some (.int i1), some (.int i2), some (.int i3), some (.int (k0 + 0)), some (.int (i5 + 1))], [], (hM Z M))
    else sem PGM d yM_odds (33, [some (.ref 91), some (.int i1), some (.int i2), some (.int i3), some (.int (k0 + 1)), some (.int (i5 + 1))], [], (hM Z M)) := (ev_eq PGM d yM_odds [33, 76] 400 _).trans rfl
set_option maxRecDepth 100000 in
theorem eM_hurtsIn_0 (d : Nat) (Z : ZT) (M : MS) (i1 : Int32) (i2 : Int32) (i3 : Int32) (i4 : Int32) : sem PGM d yM_hurtsIn (0, [some (.ref 91), some (.int i1), some (.int i2), some (.int i3), some (.int i4), none, none, none], [], (hM Z M)) =
    aftK (sem PGM d yM_hurtsIn) 0 (4, [some (.ref 91), some (.int i1), some (.int i2), some (.int i3), some (.int i4), none, none, none], [], (hM Z M)) (call PGM d yM_puts [.ref 91] (hM Z M)) := (ev_eq PGM d yM_hurtsIn [9, 16, 31] 400 _).trans rfl
set_option maxRecDepth 100000 in
theorem eM_hurtsIn_4 (d : Nat) (Z : ZT) (M : MS) (i1 : Int32) (i2 : Int32) (i3 : Int32) (i4 : Int32) (u7 : Option Value) : sem PGM d yM_hurtsIn (4, [some (.ref 91), some (.int i1), some (.int i2), some (.int i3), some (.int i4), none, none, u7], [], (hM Z M)) =
    sem PGM d yM_hurtsIn (9, [some (.ref 91), some (.int i1), some (.int i2), some (.int i3), some (.int i4), none, none, u7], [], (hM Z (mV M 9 0))) := (ev_eq PGM d yM_hurtsIn [9, 16, 31] 400 _).trans rfl
set_option maxRecDepth 100000 in
theorem eM_hurtsIn_9 (d : Nat) (Z : ZT) (M : MS) (i1 : Int32) (i2 : Int32) (i3 : Int32) (i4 : Int32) (u7 : Option Value) : sem PGM d yM_hurtsIn (9, [some (.ref 91), some (.int i1), some (.int i2), some (.int i3), some (.int i4), none, none, u7], [], (hM Z M)) =
    sem PGM d yM_hurtsIn (16, [some (.ref 91), some (.int i1), some (.int i2), some (.int i3), some (.int i4), none, none, u7], [], (hM Z (mA M 0 (upd (M.1 0) 4 i3)))) := (ev_eq PGM d yM_hurtsIn [9, 16, 31] 400 _).trans rfl
set_option maxRecDepth 100000 in
theorem eM_hurtsIn_16 (d : Nat) (Z : ZT) (M : MS) (i1 : Int32) (i2 : Int32) (u3 : Option Value) (i4 : Int32) (u7 : Option Value) : sem PGM d yM_hurtsIn (16, [some (.ref 91), some (.int i1), some (.int i2), u3, some (.int i4), none, none, u7], [], (hM Z M)) =
    bif inb ((99 + (4 * i1)) + 1) 437 then sem PGM d yM_hurtsIn (31, [some (.ref 91), some (.int i1), some (.int i2), u3, some (.int i4), none, none, u7], [], (hM Z (mA M 0 (upd (M.1 0) (((99 + (4 * i1)) + 1)).toNatClampNeg i4))))
    else none := (ev_eq PGM d yM_hurtsIn [9, 16, 31] 400 _).trans rfl
set_option maxRecDepth 100000 in
theorem eM_hurtsIn_31 (d : Nat) (Z : ZT) (M : MS) (i1 : Int32) (i2 : Int32) (u3 : Option Value) (i4 : Int32) (u7 : Option Value) : sem PGM d yM_hurtsIn (31, [some (.ref 91), some (.int i1), some (.int i2), u3, some (.int i4), none, none, u7], [], (hM Z M)) =
    bif inb ((99 + (4 * i1)) + 3) 437 then aftK (sem PGM d yM_hurtsIn) 1 (51, [some (.ref 91), some (.int i1), some (.int i2), u3, some (.int i4), some (.int ((M.1 0) (((99 + (4 * i1)) + 3)).toNatClampNeg)), none, u7], [], (hM Z M)) (call PGM d yM_trial [.ref 91, .int i2] (hM Z M))
    else none := (ev_eq PGM d yM_hurtsIn [9, 16, 31] 400 _).trans rfl
set_option maxRecDepth 100000 in
theorem eM_hurtsIn_51 (d : Nat) (Z : ZT) (M : MS) (i1 : Int32) (u2 : Option Value) (u3 : Option Value) (i4 : Int32) (i5 : Int32) (u7 : Option Value) (k0 : Int32) : sem PGM d yM_hurtsIn (51, [some (.ref 91), some (.int i1), u2, u3, some (.int i4), some (.int i5), none, u7], [.int k0], (hM Z M)) =
    bif inb ((99 + (4 * i1)) + 3) 437 then aftK (sem PGM d yM_hurtsIn) 0 (75, [some (.ref 91), some (.int i1), u2, u3, some (.int i4), some (.int i5), some (.int k0), some (.int (((M.1 0) (((99 + (4 * i1)) + 3)).toNatClampNeg) - i5))], [], (hM Z M)) (call PGM d yM_putsBack [.ref 91] (hM Z M))
    else none := (ev_eq PGM d yM_hurtsIn [9, 16, 31] 400 _).trans rfl
set_option maxRecDepth 100000 in
theorem eM_hurtsIn_75 (d : Nat) (Z : ZT) (M : MS) (u0 : Option Value) (u1 : Option Value) (u2 : Option Value) (u3 : Option Value) (i4 : Int32) (i5 : Int32) (i6 : Int32) (i7 : Int32) : sem PGM d yM_hurtsIn (75, [u0, u1, u2, u3, some (.int i4), some (.int i5), some (.int i6), some (.int i7)], [], (hM Z M)) =
    some (some (.int i7), (hM Z M)) := (ev_eq PGM d yM_hurtsIn [9, 16, 31] 400 _).trans rfl
set_option maxRecDepth 100000 in
theorem eM_puts_0 (d : Nat) (Z : ZT) (M : MS)  : sem PGM d yM_puts (0, [some (.ref 91), none], [], (hM Z M)) =
    sem PGM d yM_puts (2, [some (.ref 91), some (.int 0)], [], (hM Z M)) := (ev_eq PGM d yM_puts [2, 21] 400 _).trans rfl
set_option maxRecDepth 100000 in
theorem eM_puts_2 (d : Nat) (Z : ZT) (M : MS) (i1 : Int32) : sem PGM d yM_puts (2, [some (.ref 91), some (.int i1)], [], (hM Z M)) =
    bif decide (437 ≤ i1) then some (none, (hM Z M))
    else bif inb i1 437 then bif inb i1 437 then sem PGM d yM_puts (21, [some (.ref 91), some (.int i1)], [], (hM Z (mA M 2 (upd (M.1 2) (i1).toNatClampNeg ((M.1 0) (i1).toNatClampNeg)))))
        else none
      else none := (ev_eq PGM d yM_puts [2, 21] 400 _).trans rfl
set_option maxRecDepth 100000 in
theorem eM_puts_21 (d : Nat) (Z : ZT) (M : MS) (i1 : Int32) : sem PGM d yM_puts (21, [some (.ref 91), some (.int i1)], [], (hM Z M)) =
    sem PGM d yM_puts (2, [some (.ref 91), some (.int (i1 + 1))], [], (hM Z M)) := (ev_eq PGM d yM_puts [2, 21] 400 _).trans rfl
set_option maxRecDepth 100000 in
theorem eM_putsBack_0 (d : Nat) (Z : ZT) (M : MS)  : sem PGM d yM_putsBack (0, [some (.ref 91), none], [], (hM Z M)) =
    sem PGM d yM_putsBack (2, [some (.ref 91), some (.int 0)], [], (hM Z M)) := (ev_eq PGM d yM_putsBack [2, 21] 400 _).trans rfl
set_option maxRecDepth 100000 in
theorem eM_putsBack_2 (d : Nat) (Z : ZT) (M : MS) (i1 : Int32) : sem PGM d yM_putsBack (2, [some (.ref 91), some (.int i1)], [], (hM Z M)) =
    bif decide (437 ≤ i1) then some (none, (hM Z M))
    else bif inb i1 437 then bif inb i1 437 then sem PGM d yM_putsBack (21, [some (.ref 91), some (.int i1)], [], (hM Z (mA M 0 (upd (M.1 0) (i1).toNatClampNeg ((M.1 2) (i1).toNatClampNeg)))))
        else none
      else none := (ev_eq PGM d yM_putsBack [2, 21] 400 _).trans rfl
set_option maxRecDepth 100000 in
theorem eM_putsBack_21 (d : Nat) (Z : ZT) (M : MS) (i1 : Int32) : sem PGM d yM_putsBack (21, [some (.ref 91), some (.int i1)], [], (hM Z M)) =
    sem PGM d yM_putsBack (2, [some (.ref 91), some (.int (i1 + 1))], [], (hM Z M)) := (ev_eq PGM d yM_putsBack [2, 21] 400 _).trans rfl
set_option maxRecDepth 100000 in
theorem eM_begin_0 (d : Nat) (Z : ZT) (M : MS) (i1 : Int32) (i2 : Int32) : sem PGM d yM_begin (0, [some (.ref 91), some (.int i1), some (.int i2), none, none, none, none], [], (hM Z M)) =
    aftK (sem PGM d yM_begin) 1 (5, [some (.ref 91), some (.int i1), some (.int i2), none, none, none, none], [], (hM Z M)) (call PGM d yM_isPerson [.ref 91, .int i1] (hM Z M)) := (ev_eq PGM d yM_begin [25] 400 _).trans rfl
set_option maxRecDepth 100000 in
theorem eM_begin_5 (d : Nat) (Z : ZT) (M : MS) (i1 : Int32) (i2 : Int32) (u6 : Option Value) (k0 : Int32) : sem PGM d yM_begin (5, [some (.ref 91), some (.int i1), some (.int i2), none, none, none, u6], [.int k0], (hM Z M)) =
    bif decide (k0 = 0) then some (some (.int (-1)), (hM Z M))
    else aftK (sem PGM d yM_begin) 1 (12, [some (.ref 91), some (.int i1), some (.int i2), none, none, none, u6], [], (hM Z M)) (call PGM d yM_isLong [.int i2] (hM Z M)) := (ev_eq PGM d yM_begin [25] 400 _).trans rfl
set_option maxRecDepth 100000 in
theorem eM_begin_12 (d : Nat) (Z : ZT) (M : MS) (i1 : Int32) (i2 : Int32) (u6 : Option Value) (k0 : Int32) : sem PGM d yM_begin (12, [some (.ref 91), some (.int i1), some (.int i2), none, none, none, u6], [.int k0], (hM Z M)) =
    bif !decide (k0 = 0) then sem PGM d yM_begin (25, [some (.ref 91), some (.int i1), some (.int i2), some (.int (-1)), some (.int 0), some (.int 0), u6], [], (hM Z M))
    else some (some (.int (-1)), (hM Z M)) := (ev_eq PGM d yM_begin [25] 400 _).trans rfl
set_option maxRecDepth 100000 in
theorem eM_begin_25 (d : Nat) (Z : ZT) (M : MS) (i1 : Int32) (i2 : Int32) (i3 : Int32) (i4 : Int32) (i5 : Int32) (u6 : Option Value) : sem PGM d yM_begin (25, [some (.ref 91), some (.int i1), some (.int i2), some (.int i3), some (.int i4), some (.int i5), u6], [], (hM Z M)) =
    bif decide (((M.1 0) 0) ≤ i5) then some (some (.int i3), (hM Z M))
    else aftK (sem PGM d yM_begin) 1 (50, [some (.ref 91), some (.int i1), some (.int i2), some (.int i3), some (.int i4), some (.int i5), u6], [], (hM Z M)) (call PGM d yM_hurtsIn [.ref 91, .int i1, .int i2, .int ((M.1 0) 4), .int i5] (hM Z M)) := (ev_eq PGM d yM_begin [25] 400 _).trans rfl
set_option maxRecDepth 100000 in
theorem eM_begin_50 (d : Nat) (Z : ZT) (M : MS) (i1 : Int32) (i2 : Int32) (i3 : Int32) (i4 : Int32) (i5 : Int32) (u6 : Option Value) (k0 : Int32) : sem PGM d yM_begin (50, [some (.ref 91), some (.int i1), some (.int i2), some (.int i3), some (.int i4), some (.int i5), u6], [.int k0], (hM Z M)) =
    bif decide (i3 < 0) then sem PGM d yM_begin (25, [some (.ref 91), some (.int i1), some (.int i2), some (.int i5), some (.int k0), some (.int (i5 + 1)), some (.int k0)], [], (hM Z M))
    else bif decide (i4 ≤ k0) then sem PGM d yM_begin (25, [some (.ref 91), some (.int i1), some (.int i2), some (.int i3), some (.int i4), some (.int (i5 + 1)), some (.int k0)], [], (hM Z M))
      else sem PGM d yM_begin (25, [some (.ref 91), some (.int i1), some (.int i2), some (.int i5), some (.int k0), some (.int (i5 + 1)), some (.int k0)], [], (hM Z M)) := (ev_eq PGM d yM_begin [25] 400 _).trans rfl
set_option maxRecDepth 100000 in
theorem eM_door_0 (d : Nat) (Z : ZT) (M : MS) (i1 : Int32) : sem PGM d yM_door (0, [some (.ref 91), some (.int i1), none, none, none, none, none], [], (hM Z M)) =
    aftK (sem PGM d yM_door) 1 (4, [some (.ref 91), some (.int i1), none, none, none, none, none], [], (hM Z M)) (call PGM d yM_isLong [.int i1] (hM Z M)) := (ev_eq PGM d yM_door [21, 76] 400 _).trans rfl
set_option maxRecDepth 100000 in
theorem eM_door_4 (d : Nat) (Z : ZT) (M : MS) (i1 : Int32) (u6 : Option Value) (k0 : Int32) : sem PGM d yM_door (4, [some (.ref 91), some (.int i1), none, none, none, none, u6], [.int k0], (hM Z M)) =
    bif !decide (k0 = 0) then aftK (sem PGM d yM_door) 1 (14, [some (.ref 91), some (.int i1), none, none, none, none, u6], [], (hM Z M)) (call PGM d yM_harmIn [.ref 91, .int i1] (hM Z M))
    else some (some (.int (-1)), (hM Z M)) := (ev_eq PGM d yM_door [21, 76] 400 _).trans rfl
set_option maxRecDepth 100000 in
theorem eM_door_14 (d : Nat) (Z : ZT) (M : MS) (i1 : Int32) (u6 : Option Value) (k0 : Int32) : sem PGM d yM_door (14, [some (.ref 91), some (.int i1), none, none, none, none, u6], [.int k0], (hM Z M)) =
    sem PGM d yM_door (21, [some (.ref 91), some (.int i1), some (.int k0), some (.int (-3)), some (.int 0), none, u6], [], (hM Z M)) := (ev_eq PGM d yM_door [21, 76] 400 _).trans rfl
set_option maxRecDepth 100000 in
theorem eM_door_21 (d : Nat) (Z : ZT) (M : MS) (i1 : Int32) (i2 : Int32) (i3 : Int32) (i4 : Int32) (u6 : Option Value) : sem PGM d yM_door (21, [some (.ref 91), some (.int i1), some (.int i2), some (.int i3), some (.int i4), none, u6], [], (hM Z M)) =
    bif decide (((M.1 0) 0) ≤ i4) then some (some (.int i3), (hM Z M))
    else bif inb ((9 + (3 * i4)) + 2) 437 then bif !decide (((M.1 0) (((9 + (3 * i4)) + 2)).toNatClampNeg) = 0) then sem PGM d yM_door (21, [some (.ref 91), some (.int i1), some (.int i2), some (.int i3), some (.int (i4 + 1)), some (.int ((9 + (3 * i4)) + 2)), u6], [], (hM Z M))
        else bif inb ((9 + (3 * i4)) + 2) 437 then aftK (sem PGM d yM_door) 1 (66, [some (.ref 91), some (.int i1), some (.int i2), some (.int i3), some (.int i4), some (.int ((9 + (3 * i4)) + 2)), u6], [], (hM Z (mA M 0 (upd (M.1 0) (((9 + (3 * i4)) + 2)).toNatClampNeg 1)))) (call PGM d yM_harmIn [.ref 91, .int i1] (hM Z (mA M 0 (upd (M.1 0) (((9 + (3 * i4)) + 2)).toNatClampNeg 1))))
          else none
      else none := (ev_eq PGM d yM_door [21, 76] 400 _).trans rfl
set_option maxRecDepth 100000 in
theorem eM_door_21x (d : Nat) (Z : ZT) (M : MS) (i1 : Int32) (i2 : Int32) (i3 : Int32) (i4 : Int32) (i5 : Int32) (u6 : Option Value) : sem PGM d yM_door (21, [some (.ref 91), some (.int i1), some (.int i2), some (.int i3), some (.int i4), some (.int i5), u6], [], (hM Z M)) =
    bif decide (((M.1 0) 0) ≤ i4) then some (some (.int i3), (hM Z M))
    else bif inb ((9 + (3 * i4)) + 2) 437 then bif !decide (((M.1 0) (((9 + (3 * i4)) + 2)).toNatClampNeg) = 0) then sem PGM d yM_door (21, [some (.ref 91), some (.int i1), some (.int i2), some (.int i3), some (.int (i4 + 1)), some (.int ((9 + (3 * i4)) + 2)), u6], [], (hM Z M))
        else bif inb ((9 + (3 * i4)) + 2) 437 then aftK (sem PGM d yM_door) 1 (66, [some (.ref 91), some (.int i1), some (.int i2), some (.int i3), some (.int i4), some (.int ((9 + (3 * i4)) + 2)), u6], [], (hM Z (mA M 0 (upd (M.1 0) (((9 + (3 * i4)) + 2)).toNatClampNeg 1)))) (call PGM d yM_harmIn [.ref 91, .int i1] (hM Z (mA M 0 (upd (M.1 0) (((9 + (3 * i4)) + 2)).toNatClampNeg 1))))
          else none
      else none := (ev_eq PGM d yM_door [21, 76] 400 _).trans rfl
set_option maxRecDepth 100000 in
theorem eM_door_66 (d : Nat) (Z : ZT) (M : MS) (i1 : Int32) (i2 : Int32) (i3 : Int32) (i4 : Int32) (i5 : Int32) (u6 : Option Value) (k0 : Int32) : sem PGM d yM_door (66, [some (.ref 91), some (.int i1), some (.int i2), some (.int i3), some (.int i4), some (.int i5), u6], [.int k0], (hM Z M)) =
    bif inb i5 437 then sem PGM d yM_door (76, [some (.ref 91), some (.int i1), some (.int i2), some (.int i3), some (.int i4), some (.int i5), some (.int k0)], [], (hM Z (mA M 0 (upd (M.1 0) (i5).toNatClampNeg 0))))
    else none := (ev_eq PGM d yM_door [21, 76] 400 _).trans rfl
set_option maxRecDepth 100000 in
theorem eM_door_76 (d : Nat) (Z : ZT) (M : MS) (i1 : Int32) (i2 : Int32) (i3 : Int32) (i4 : Int32) (i5 : Int32) (i6 : Int32) : sem PGM d yM_door (76, [some (.ref 91), some (.int i1), some (.int i2), some (.int i3), some (.int i4), some (.int i5), some (.int i6)], [], (hM Z M)) =
    bif decide (i2 ≤ i6) then sem PGM d yM_door (21, [some (.ref 91), some (.int i1), some (.int i2), some (.int i3), some (.int (i4 + 1)), some (.int i5), some (.int i6)], [], (hM Z M))
    else sem PGM d yM_door (21, [some (.ref 91), some (.int i1), some (.int i6), some (.int i4), some (.int (i4 + 1)), some (.int i5), some (.int i6)], [], (hM Z M)) := (ev_eq PGM d yM_door [21, 76] 400 _).trans rfl
set_option maxRecDepth 100000 in
theorem eM_harmIn_0 (d : Nat) (Z : ZT) (M : MS) (i1 : Int32) : sem PGM d yM_harmIn (0, [some (.ref 91), some (.int i1), none], [], (hM Z M)) =
    aftK (sem PGM d yM_harmIn) 0 (4, [some (.ref 91), some (.int i1), none], [], (hM Z M)) (call PGM d yM_puts [.ref 91] (hM Z M)) := (ev_eq PGM d yM_harmIn [] 400 _).trans rfl
set_option maxRecDepth 100000 in
theorem eM_harmIn_4 (d : Nat) (Z : ZT) (M : MS) (i1 : Int32) (u2 : Option Value) : sem PGM d yM_harmIn (4, [some (.ref 91), some (.int i1), u2], [], (hM Z M)) =
    aftK (sem PGM d yM_harmIn) 1 (14, [some (.ref 91), some (.int i1), u2], [], (hM Z (mV M 9 0))) (call PGM d yM_trial [.ref 91, .int i1] (hM Z (mV M 9 0))) := (ev_eq PGM d yM_harmIn [] 400 _).trans rfl
set_option maxRecDepth 100000 in
theorem eM_harmIn_14 (d : Nat) (Z : ZT) (M : MS) (i1 : Int32) (u2 : Option Value) (k0 : Int32) : sem PGM d yM_harmIn (14, [some (.ref 91), some (.int i1), u2], [.int k0], (hM Z M)) =
    aftK (sem PGM d yM_harmIn) 0 (19, [some (.ref 91), some (.int i1), some (.int k0)], [], (hM Z M)) (call PGM d yM_putsBack [.ref 91] (hM Z M)) := (ev_eq PGM d yM_harmIn [] 400 _).trans rfl
set_option maxRecDepth 100000 in
theorem eM_harmIn_19 (d : Nat) (Z : ZT) (M : MS) (u0 : Option Value) (i1 : Int32) (i2 : Int32) : sem PGM d yM_harmIn (19, [u0, some (.int i1), some (.int i2)], [], (hM Z M)) =
    some (some (.int i2), (hM Z M)) := (ev_eq PGM d yM_harmIn [] 400 _).trans rfl
set_option maxRecDepth 100000 in
theorem eM_limit_0 (d : Nat) (Z : ZT) (M : MS) (i1 : Int32) : sem PGM d yM_limit (0, [some (.ref 91), some (.int i1), none], [], (hM Z M)) =
    aftK (sem PGM d yM_limit) 1 (4, [some (.ref 91), some (.int i1), none], [], (hM Z M)) (call PGM d yM_isLong [.int i1] (hM Z M)) := (ev_eq PGM d yM_limit [16, 34] 400 _).trans rfl
set_option maxRecDepth 100000 in
theorem eM_limit_4 (d : Nat) (Z : ZT) (M : MS) (i1 : Int32) (u2 : Option Value) (k0 : Int32) : sem PGM d yM_limit (4, [some (.ref 91), some (.int i1), u2], [.int k0], (hM Z M)) =
    bif !decide (k0 = 0) then sem PGM d yM_limit (16, [some (.ref 91), some (.int i1), some (.int ((M.1 0) 1))], [], (hM Z M))
    else some (some (.int (-1)), (hM Z M)) := (ev_eq PGM d yM_limit [16, 34] 400 _).trans rfl
set_option maxRecDepth 100000 in
theorem eM_limit_16 (d : Nat) (Z : ZT) (M : MS) (i1 : Int32) (i2 : Int32) : sem PGM d yM_limit (16, [some (.ref 91), some (.int i1), some (.int i2)], [], (hM Z M)) =
    bif decide (i2 ≤ 0) then some (some (.int 0), (hM Z M))
    else aftK (sem PGM d yM_limit) 1 (26, [some (.ref 91), some (.int i1), some (.int i2)], [], (hM Z M)) (call PGM d yM_isHeapedBy [.ref 91, .int i2, .int i1] (hM Z M)) := (ev_eq PGM d yM_limit [16, 34] 400 _).trans rfl
set_option maxRecDepth 100000 in
theorem eM_limit_26 (d : Nat) (Z : ZT) (M : MS) (i1 : Int32) (i2 : Int32) (k0 : Int32) : sem PGM d yM_limit (26, [some (.ref 91), some (.int i1), some (.int i2)], [.int k0], (hM Z M)) =
    bif !decide (k0 = 0) then sem PGM d yM_limit (34, [some (.ref 91), some (.int i1), some (.int (i2 + (-1)))], [], (hM Z M))
    else some (some (.int i2), (hM Z M)) := (ev_eq PGM d yM_limit [16, 34] 400 _).trans rfl
set_option maxRecDepth 100000 in
theorem eM_limit_34 (d : Nat) (Z : ZT) (M : MS) (i1 : Int32) (i2 : Int32) : sem PGM d yM_limit (34, [some (.ref 91), some (.int i1), some (.int i2)], [], (hM Z M)) =
    sem PGM d yM_limit (16, [some (.ref 91), some (.int i1), some (.int i2)], [], (hM Z M)) := (ev_eq PGM d yM_limit [16, 34] 400 _).trans rfl
set_option maxRecDepth 100000 in
theorem eM_isHeapedBy_0 (d : Nat) (Z : ZT) (M : MS) (i1 : Int32) (i2 : Int32) : sem PGM d yM_isHeapedBy (0, [some (.ref 91), some (.int i1), some (.int i2), none, none, none], [], (hM Z M)) =
    aftK (sem PGM d yM_isHeapedBy) 0 (4, [some (.ref 91), some (.int i1), some (.int i2), none, none, none], [], (hM Z M)) (call PGM d yM_puts [.ref 91] (hM Z M)) := (ev_eq PGM d yM_isHeapedBy [9, 11, 36, 54] 400 _).trans rfl
set_option maxRecDepth 100000 in
theorem eM_isHeapedBy_4 (d : Nat) (Z : ZT) (M : MS) (i1 : Int32) (i2 : Int32) (u5 : Option Value) : sem PGM d yM_isHeapedBy (4, [some (.ref 91), some (.int i1), some (.int i2), none, none, u5], [], (hM Z M)) =
    sem PGM d yM_isHeapedBy (9, [some (.ref 91), some (.int i1), some (.int i2), none, none, u5], [], (hM Z (mV M 9 0))) := (ev_eq PGM d yM_isHeapedBy [9, 11, 36, 54] 400 _).trans rfl
set_option maxRecDepth 100000 in
theorem eM_isHeapedBy_9 (d : Nat) (Z : ZT) (M : MS) (i1 : Int32) (i2 : Int32) (u5 : Option Value) : sem PGM d yM_isHeapedBy (9, [some (.ref 91), some (.int i1), some (.int i2), none, none, u5], [], (hM Z M)) =
    sem PGM d yM_isHeapedBy (11, [some (.ref 91), some (.int i1), some (.int i2), some (.int i1), none, u5], [], (hM Z M)) := (ev_eq PGM d yM_isHeapedBy [9, 11, 36, 54] 400 _).trans rfl
set_option maxRecDepth 100000 in
theorem eM_isHeapedBy_11 (d : Nat) (Z : ZT) (M : MS) (u1 : Option Value) (i2 : Int32) (i3 : Int32) (u5 : Option Value) : sem PGM d yM_isHeapedBy (11, [some (.ref 91), u1, some (.int i2), some (.int i3), none, u5], [], (hM Z M)) =
    bif decide (((M.1 0) 1) ≤ i3) then aftK (sem PGM d yM_isHeapedBy) 1 (47, [some (.ref 91), u1, some (.int i2), some (.int i3), none, u5], [], (hM Z M)) (call PGM d yM_trial [.ref 91, .int i2] (hM Z M))
    else bif inb ((99 + (4 * i3)) + 1) 437 then sem PGM d yM_isHeapedBy (36, [some (.ref 91), u1, some (.int i2), some (.int i3), none, u5], [], (hM Z (mA M 0 (upd (M.1 0) (((99 + (4 * i3)) + 1)).toNatClampNeg (-9)))))
      else none := (ev_eq PGM d yM_isHeapedBy [9, 11, 36, 54] 400 _).trans rfl
set_option maxRecDepth 100000 in
theorem eM_isHeapedBy_47 (d : Nat) (Z : ZT) (M : MS) (u1 : Option Value) (i2 : Int32) (i3 : Int32) (u5 : Option Value) (k0 : Int32) : sem PGM d yM_isHeapedBy (47, [some (.ref 91), u1, some (.int i2), some (.int i3), none, u5], [.int k0], (hM Z M)) =
    sem PGM d yM_isHeapedBy (54, [some (.ref 91), u1, some (.int i2), some (.int k0), some (.int 0), some (.int 0)], [], (hM Z M)) := (ev_eq PGM d yM_isHeapedBy [9, 11, 36, 54] 400 _).trans rfl
set_option maxRecDepth 100000 in
theorem eM_isHeapedBy_36 (d : Nat) (Z : ZT) (M : MS) (u1 : Option Value) (i2 : Int32) (i3 : Int32) (u5 : Option Value) : sem PGM d yM_isHeapedBy (36, [some (.ref 91), u1, some (.int i2), some (.int i3), none, u5], [], (hM Z M)) =
    sem PGM d yM_isHeapedBy (11, [some (.ref 91), u1, some (.int i2), some (.int (i3 + 1)), none, u5], [], (hM Z M)) := (ev_eq PGM d yM_isHeapedBy [9, 11, 36, 54] 400 _).trans rfl
set_option maxRecDepth 100000 in
theorem eM_isHeapedBy_54 (d : Nat) (Z : ZT) (M : MS) (u1 : Option Value) (i2 : Int32) (i3 : Int32) (i4 : Int32) (i5 : Int32) : sem PGM d yM_isHeapedBy (54, [some (.ref 91), u1, some (.int i2), some (.int i3), some (.int i4), some (.int i5)], [], (hM Z M)) =
    bif decide (((M.1 0) 1) ≤ i5) then aftK (sem PGM d yM_isHeapedBy) 0 (107, [some (.ref 91), u1, some (.int i2), some (.int i3), some (.int i4), some (.int i5)], [], (hM Z M)) (call PGM d yM_putsBack [.ref 91] (hM Z M))
    else bif !decide (i4 = 0) then sem PGM d yM_isHeapedBy (54, [some (.ref 91), u1, some (.int i2), some (.int i3), some (.int 1), some (.int (i5 + 1))], [], (hM Z M))
      else aftK (sem PGM d yM_isHeapedBy) 1 (76, [some (.ref 91), u1, some (.int i2), some (.int i3), some (.int i4), some (.int i5)], [], (hM Z M)) (call PGM d yM_whereIs [.ref 91, .int i5] (hM Z M)) := (ev_eq PGM d yM_isHeapedBy [9, 11, 36, 54] 400 _).trans rfl
set_option maxRecDepth 100000 in
theorem eM_isHeapedBy_107 (d : Nat) (Z : ZT) (M : MS) (u0 : Option Value) (u1 : Option Value) (i2 : Int32) (i3 : Int32) (i4 : Int32) (u5 : Option Value) : sem PGM d yM_isHeapedBy (107, [u0, u1, some (.int i2), some (.int i3), some (.int i4), u5], [], (hM Z M)) =
    bif isB i4 then some (some (.int i4), (hM Z M)) else none := (ev_eq PGM d yM_isHeapedBy [9, 11, 36, 54] 400 _).trans rfl
set_option maxRecDepth 100000 in
theorem eM_isHeapedBy_76 (d : Nat) (Z : ZT) (M : MS) (u1 : Option Value) (i2 : Int32) (i3 : Int32) (i4 : Int32) (i5 : Int32) (k0 : Int32) : sem PGM d yM_isHeapedBy (76, [some (.ref 91), u1, some (.int i2), some (.int i3), some (.int i4), some (.int i5)], [.int k0], (hM Z M)) =
    bif decide (k0 < 0) then sem PGM d yM_isHeapedBy (54, [some (.ref 91), u1, some (.int i2), some (.int i3), some (.int 0), some (.int (i5 + 1))], [], (hM Z M))
    else aftK (sem PGM d yM_isHeapedBy) 1 (85, [some (.ref 91), u1, some (.int i2), some (.int i3), some (.int i4), some (.int i5)], [], (hM Z M)) (call PGM d yM_kindOf [.ref 91, .int i5] (hM Z M)) := (ev_eq PGM d yM_isHeapedBy [9, 11, 36, 54] 400 _).trans rfl
set_option maxRecDepth 100000 in
theorem eM_isHeapedBy_85 (d : Nat) (Z : ZT) (M : MS) (u1 : Option Value) (i2 : Int32) (i3 : Int32) (i4 : Int32) (i5 : Int32) (k0 : Int32) : sem PGM d yM_isHeapedBy (85, [some (.ref 91), u1, some (.int i2), some (.int i3), some (.int i4), some (.int i5)], [.int k0], (hM Z M)) =
    bif !decide (k0 = 6) then sem PGM d yM_isHeapedBy (54, [some (.ref 91), u1, some (.int i2), some (.int i3), some (.int 0), some (.int (i5 + 1))], [], (hM Z M))
    else sem PGM d yM_isHeapedBy (54, [some (.ref 91), u1, some (.int i2), some (.int i3), some (.int 1), some (.int (i5 + 1))], [], (hM Z M)) := (ev_eq PGM d yM_isHeapedBy [9, 11, 36, 54] 400 _).trans rfl
