/-! Equations of blocks, by wip/whole/gen/alleq.py. -/
set_option maxRecDepth 100000 in
theorem eM_paves_0 (d : Nat) (Z : ZT) (M : MS) (i1 : Int32) : sem PGM d yM_paves (0, [some (.ref 91), some (.int i1), none], [], (hM Z M)) =
    sem PGM d yM_paves (7, [some (.ref 91), some (.int i1), none], [], (hM Z (mA M 0 (upd (M.1 0) 0 i1)))) := (ev_eq PGM d yM_paves [7, 9, 27, 41, 55] 400 _).trans rfl
set_option maxRecDepth 100000 in
theorem eM_paves_7 (d : Nat) (Z : ZT) (M : MS) (i1 : Int32) (u2 : Option Value) : sem PGM d yM_paves (7, [some (.ref 91), some (.int i1), u2], [], (hM Z M)) =
    sem PGM d yM_paves (9, [some (.ref 91), some (.int i1), some (.int 0)], [], (hM Z M)) := (ev_eq PGM d yM_paves [7, 9, 27, 41, 55] 400 _).trans rfl
set_option maxRecDepth 100000 in
theorem eM_paves_9 (d : Nat) (Z : ZT) (M : MS) (i1 : Int32) (i2 : Int32) : sem PGM d yM_paves (9, [some (.ref 91), some (.int i1), some (.int i2)], [], (hM Z M)) =
    bif decide (30 ≤ i2) then some (none, (hM Z M))
    else bif inb (9 + (3 * i2)) 437 then sem PGM d yM_paves (27, [some (.ref 91), some (.int i1), some (.int i2)], [], (hM Z (mA M 0 (upd (M.1 0) ((9 + (3 * i2))).toNatClampNeg 3))))
      else none := (ev_eq PGM d yM_paves [7, 9, 27, 41, 55] 400 _).trans rfl
set_option maxRecDepth 100000 in
theorem eM_paves_27 (d : Nat) (Z : ZT) (M : MS) (i1 : Int32) (i2 : Int32) : sem PGM d yM_paves (27, [some (.ref 91), some (.int i1), some (.int i2)], [], (hM Z M)) =
    bif inb ((9 + (3 * i2)) + 1) 437 then sem PGM d yM_paves (41, [some (.ref 91), some (.int i1), some (.int i2)], [], (hM Z (mA M 0 (upd (M.1 0) (((9 + (3 * i2)) + 1)).toNatClampNeg 0))))
    else none := (ev_eq PGM d yM_paves [7, 9, 27, 41, 55] 400 _).trans rfl
set_option maxRecDepth 100000 in
theorem eM_paves_41 (d : Nat) (Z : ZT) (M : MS) (i1 : Int32) (i2 : Int32) : sem PGM d yM_paves (41, [some (.ref 91), some (.int i1), some (.int i2)], [], (hM Z M)) =
    bif inb ((9 + (3 * i2)) + 2) 437 then sem PGM d yM_paves (55, [some (.ref 91), some (.int i1), some (.int i2)], [], (hM Z (mA M 0 (upd (M.1 0) (((9 + (3 * i2)) + 2)).toNatClampNeg 0))))
    else none := (ev_eq PGM d yM_paves [7, 9, 27, 41, 55] 400 _).trans rfl
set_option maxRecDepth 100000 in
theorem eM_paves_55 (d : Nat) (Z : ZT) (M : MS) (i1 : Int32) (i2 : Int32) : sem PGM d yM_paves (55, [some (.ref 91), some (.int i1), some (.int i2)], [], (hM Z M)) =
    sem PGM d yM_paves (9, [some (.ref 91), some (.int i1), some (.int (i2 + 1))], [], (hM Z M)) := (ev_eq PGM d yM_paves [7, 9, 27, 41, 55] 400 _).trans rfl
set_option maxRecDepth 100000 in
theorem eM_street_0 (d : Nat) (Z : ZT) (M : MS) (i1 : Int32) : sem PGM d yM_street (0, [some (.ref 91), some (.int i1), none], [], (hM Z M)) =
    aftK (sem PGM d yM_street) 1 (11, [some (.ref 91), some (.int i1), none], [], (hM Z M)) (call PGM d yM_in [.long ((i1).toInt64), .long 2, .long 30] (hM Z M)) := (ev_eq PGM d yM_street [23, 65, 73, 114] 400 _).trans rfl
set_option maxRecDepth 100000 in
theorem eM_street_11 (d : Nat) (Z : ZT) (M : MS) (i1 : Int32) (u2 : Option Value) (k0 : Int32) : sem PGM d yM_street (11, [some (.ref 91), some (.int i1), u2], [.int k0], (hM Z M)) =
    bif !decide (k0 = 0) then aftK (sem PGM d yM_street) 0 (21, [some (.ref 91), some (.int i1), u2], [], (hM Z M)) (call PGM d yM_paves [.ref 91, .int i1] (hM Z M))
    else some (some (.int (-1)), (hM Z M)) := (ev_eq PGM d yM_street [23, 65, 73, 114] 400 _).trans rfl
set_option maxRecDepth 100000 in
theorem eM_street_21 (d : Nat) (Z : ZT) (M : MS) (i1 : Int32) (u2 : Option Value) : sem PGM d yM_street (21, [some (.ref 91), some (.int i1), u2], [], (hM Z M)) =
    sem PGM d yM_street (23, [some (.ref 91), some (.int i1), some (.int 0)], [], (hM Z M)) := (ev_eq PGM d yM_street [23, 65, 73, 114] 400 _).trans rfl
set_option maxRecDepth 100000 in
theorem eM_street_23 (d : Nat) (Z : ZT) (M : MS) (i1 : Int32) (i2 : Int32) : sem PGM d yM_street (23, [some (.ref 91), some (.int i1), some (.int i2)], [], (hM Z M)) =
    bif decide (((M.1 0) 1) ≤ i2) then sem PGM d yM_street (73, [some (.ref 91), some (.int i1), some (.int 0)], [], (hM Z M))
    else aftK (sem PGM d yM_street) 1 (50, [some (.ref 91), some (.int i1), some (.int i2)], [.int ((99 + (4 * i2)) + 1), .ref 92], (hM Z M)) (call PGM d yM_whereIs [.ref 91, .int i2] (hM Z M)) := (ev_eq PGM d yM_street [23, 65, 73, 114] 400 _).trans rfl
set_option maxRecDepth 100000 in
theorem eM_street_73 (d : Nat) (Z : ZT) (M : MS) (i1 : Int32) (i2 : Int32) : sem PGM d yM_street (73, [some (.ref 91), some (.int i1), some (.int i2)], [], (hM Z M)) =
    bif decide (((M.1 0) 2) ≤ i2) then some (some (.int i1), (hM Z M))
    else aftK (sem PGM d yM_street) 1 (99, [some (.ref 91), some (.int i1), some (.int i2)], [.int (179 + (3 * i2)), .ref 92], (hM Z M)) (call PGM d yM_whereBeast [.ref 91, .int i2] (hM Z M)) := (ev_eq PGM d yM_street [23, 65, 73, 114] 400 _).trans rfl
set_option maxRecDepth 100000 in
theorem eM_street_50 (d : Nat) (Z : ZT) (M : MS) (i1 : Int32) (i2 : Int32) (k1 : Int32) (k2 : Int32) : sem PGM d yM_street (50, [some (.ref 91), some (.int i1), some (.int i2)], [.int k2, .int k1, .ref 92], (hM Z M)) =
    bif decide (k2 < i1) then aftK (sem PGM d yM_street) 1 (64, [some (.ref 91), some (.int i1), some (.int i2)], [.int k1, .ref 92], (hM Z M)) (call PGM d yM_whereIs [.ref 91, .int i2] (hM Z M))
    else bif inb k1 437 then sem PGM d yM_street (65, [some (.ref 91), some (.int i1), some (.int i2)], [], (hM Z (mA M 0 (upd (M.1 0) (k1).toNatClampNeg (-9)))))
      else none := (ev_eq PGM d yM_street [23, 65, 73, 114] 400 _).trans rfl
set_option maxRecDepth 100000 in
theorem eM_street_99 (d : Nat) (Z : ZT) (M : MS) (i1 : Int32) (i2 : Int32) (k1 : Int32) (k2 : Int32) : sem PGM d yM_street (99, [some (.ref 91), some (.int i1), some (.int i2)], [.int k2, .int k1, .ref 92], (hM Z M)) =
    bif decide (k2 < i1) then aftK (sem PGM d yM_street) 1 (113, [some (.ref 91), some (.int i1), some (.int i2)], [.int k1, .ref 92], (hM Z M)) (call PGM d yM_whereBeast [.ref 91, .int i2] (hM Z M))
    else bif inb k1 437 then sem PGM d yM_street (114, [some (.ref 91), some (.int i1), some (.int i2)], [], (hM Z (mA M 0 (upd (M.1 0) (k1).toNatClampNeg (-9)))))
      else none := (ev_eq PGM d yM_street [23, 65, 73, 114] 400 _).trans rfl
set_option maxRecDepth 100000 in
theorem eM_street_64 (d : Nat) (Z : ZT) (M : MS) (i1 : Int32) (i2 : Int32) (k1 : Int32) (k2 : Int32) : sem PGM d yM_street (64, [some (.ref 91), some (.int i1), some (.int i2)], [.int k2, .int k1, .ref 92], (hM Z M)) =
    bif inb k1 437 then sem PGM d yM_street (65, [some (.ref 91), some (.int i1), some (.int i2)], [], (hM Z (mA M 0 (upd (M.1 0) (k1).toNatClampNeg k2))))
    else none := (ev_eq PGM d yM_street [23, 65, 73, 114] 400 _).trans rfl
set_option maxRecDepth 100000 in
theorem eM_street_65 (d : Nat) (Z : ZT) (M : MS) (i1 : Int32) (i2 : Int32) : sem PGM d yM_street (65, [some (.ref 91), some (.int i1), some (.int i2)], [], (hM Z M)) =
    sem PGM d yM_street (23, [some (.ref 91), some (.int i1), some (.int (i2 + 1))], [], (hM Z M)) := (ev_eq PGM d yM_street [23, 65, 73, 114] 400 _).trans rfl
set_option maxRecDepth 100000 in
theorem eM_street_113 (d : Nat) (Z : ZT) (M : MS) (i1 : Int32) (i2 : Int32) (k1 : Int32) (k2 : Int32) : sem PGM d yM_street (113, [some (.ref 91), some (.int i1), some (.int i2)], [.int k2, .int k1, .ref 92], (hM Z M)) =
    bif inb k1 437 then sem PGM d yM_street (114, [some (.ref 91), some (.int i1), some (.int i2)], [], (hM Z (mA M 0 (upd (M.1 0) (k1).toNatClampNeg k2))))
    else none := (ev_eq PGM d yM_street [23, 65, 73, 114] 400 _).trans rfl
set_option maxRecDepth 100000 in
theorem eM_street_114 (d : Nat) (Z : ZT) (M : MS) (i1 : Int32) (i2 : Int32) : sem PGM d yM_street (114, [some (.ref 91), some (.int i1), some (.int i2)], [], (hM Z M)) =
    sem PGM d yM_street (73, [some (.ref 91), some (.int i1), some (.int (i2 + 1))], [], (hM Z M)) := (ev_eq PGM d yM_street [23, 65, 73, 114] 400 _).trans rfl
set_option maxRecDepth 100000 in
theorem eM_in_0 (d : Nat) (h : AH) (l0 : Int64) (l2 : Int64) (l4 : Int64) : sem PGM d yM_in (0, [some (.long l0), none, some (.long l2), none, some (.long l4), none], [], h) =
    bif decide ((lg_cmp l0 l2) < 0) then some (some (.int 0), h)
    else bif decide (0 < (lg_cmp l0 l4)) then some (some (.int 0), h)
      else some (some (.int 1), h) := (ev_eq PGM d yM_in [] 400 _).trans rfl
set_option maxRecDepth 100000 in
theorem eM_whereIs_0 (d : Nat) (Z : ZT) (M : MS) (i1 : Int32) : sem PGM d yM_whereIs (0, [some (.ref 91), some (.int i1)], [], (hM Z M)) =
    bif inb ((99 + (4 * i1)) + 1) 437 then some (some (.int ((M.1 0) (((99 + (4 * i1)) + 1)).toNatClampNeg)), (hM Z M))
    else none := (ev_eq PGM d yM_whereIs [] 400 _).trans rfl
set_option maxRecDepth 100000 in
theorem eM_whereBeast_0 (d : Nat) (Z : ZT) (M : MS) (i1 : Int32) : sem PGM d yM_whereBeast (0, [some (.ref 91), some (.int i1)], [], (hM Z M)) =
    bif inb (179 + (3 * i1)) 437 then some (some (.int ((M.1 0) ((179 + (3 * i1))).toNatClampNeg)), (hM Z M))
    else none := (ev_eq PGM d yM_whereBeast [] 400 _).trans rfl
set_option maxRecDepth 100000 in
theorem eM_cell_0 (d : Nat) (Z : ZT) (M : MS) (i1 : Int32) (i2 : Int32) (i3 : Int32) : sem PGM d yM_cell (0, [some (.ref 91), some (.int i1), some (.int i2), some (.int i3), none], [], (hM Z M)) =
    aftK (sem PGM d yM_cell) 1 (5, [some (.ref 91), some (.int i1), some (.int i2), some (.int i3), none], [], (hM Z M)) (call PGM d yM_isCell [.ref 91, .int i1] (hM Z M)) := (ev_eq PGM d yM_cell [] 400 _).trans rfl
set_option maxRecDepth 100000 in
theorem eM_cell_5 (d : Nat) (Z : ZT) (M : MS) (i1 : Int32) (i2 : Int32) (i3 : Int32) (u4 : Option Value) (k0 : Int32) : sem PGM d yM_cell (5, [some (.ref 91), some (.int i1), some (.int i2), some (.int i3), u4], [.int k0], (hM Z M)) =
    bif decide (k0 = 0) then some (some (.int (-1)), (hM Z M))
    else aftK (sem PGM d yM_cell) 1 (17, [some (.ref 91), some (.int i1), some (.int i2), some (.int i3), u4], [], (hM Z M)) (call PGM d yM_in [.long ((i2).toInt64), .long 0, .long 2] (hM Z M)) := (ev_eq PGM d yM_cell [] 400 _).trans rfl
set_option maxRecDepth 100000 in
theorem eM_cell_17 (d : Nat) (Z : ZT) (M : MS) (i1 : Int32) (i2 : Int32) (i3 : Int32) (u4 : Option Value) (k0 : Int32) : sem PGM d yM_cell (17, [some (.ref 91), some (.int i1), some (.int i2), some (.int i3), u4], [.int k0], (hM Z M)) =
    bif decide (k0 = 0) then some (some (.int (-1)), (hM Z M))
    else bif !decide (i2 = 0) then bif !decide (i2 = 0) then bif !decide (i2 = 1) then aftK (sem PGM d yM_cell) 1 (56, [some (.ref 91), some (.int i1), some (.int i2), some (.int i3), u4], [], (hM Z M)) (call PGM d yM_in [.long ((i3).toInt64), .long 0, .long 1] (hM Z M))
          else aftK (sem PGM d yM_cell) 1 (56, [some (.ref 91), some (.int i1), some (.int i2), some (.int i3), u4], [], (hM Z M)) (call PGM d yM_in [.long ((i3).toInt64), .long 0, .long 4] (hM Z M))
        else aftK (sem PGM d yM_cell) 1 (56, [some (.ref 91), some (.int i1), some (.int i2), some (.int i3), u4], [], (hM Z M)) (call PGM d yM_in [.long ((i3).toInt64), .long 0, .long 9] (hM Z M))
      else bif !decide (i2 = 0) then bif !decide (i2 = 1) then aftK (sem PGM d yM_cell) 1 (56, [some (.ref 91), some (.int i1), some (.int i2), some (.int i3), u4], [], (hM Z M)) (call PGM d yM_in [.long ((i3).toInt64), .long 1, .long 1] (hM Z M))
          else aftK (sem PGM d yM_cell) 1 (56, [some (.ref 91), some (.int i1), some (.int i2), some (.int i3), u4], [], (hM Z M)) (call PGM d yM_in [.long ((i3).toInt64), .long 1, .long 4] (hM Z M))
        else aftK (sem PGM d yM_cell) 1 (56, [some (.ref 91), some (.int i1), some (.int i2), some (.int i3), u4], [], (hM Z M)) (call PGM d yM_in [.long ((i3).toInt64), .long 1, .long 9] (hM Z M)) := (ev_eq PGM d yM_cell [] 400 _).trans rfl
set_option maxRecDepth 100000 in
theorem eM_cell_56 (d : Nat) (Z : ZT) (M : MS) (i1 : Int32) (i2 : Int32) (i3 : Int32) (u4 : Option Value) (k0 : Int32) : sem PGM d yM_cell (56, [some (.ref 91), some (.int i1), some (.int i2), some (.int i3), u4], [.int k0], (hM Z M)) =
    bif !decide (k0 = 0) then bif inb ((9 + (3 * i1)) + i2) 437 then bif inb ((9 + (3 * i1)) + i2) 437 then some (some (.int ((M.1 0) (((9 + (3 * i1)) + i2)).toNatClampNeg)), (hM Z (mA M 0 (upd (M.1 0) (((9 + (3 * i1)) + i2)).toNatClampNeg i3))))
        else none
      else none
    else some (some (.int (-1)), (hM Z M)) := (ev_eq PGM d yM_cell [] 400 _).trans rfl
set_option maxRecDepth 100000 in
theorem eM_isCell_0 (d : Nat) (Z : ZT) (M : MS) (i1 : Int32) : sem PGM d yM_isCell (0, [some (.ref 91), some (.int i1)], [], (hM Z M)) =
    aftK (sem PGM d yM_isCell) 1 (15, [some (.ref 91), some (.int i1)], [], (hM Z M)) (call PGM d yM_in [.long ((i1).toInt64), .long 0, .long (((((M.1 0) 0) - 1)).toInt64)] (hM Z M)) := (ev_eq PGM d yM_isCell [] 400 _).trans rfl
set_option maxRecDepth 100000 in
theorem eM_isCell_15 (d : Nat) (Z : ZT) (M : MS) (u0 : Option Value) (u1 : Option Value) (k0 : Int32) : sem PGM d yM_isCell (15, [u0, u1], [.int k0], (hM Z M)) =
    bif isB k0 then some (some (.int k0), (hM Z M)) else none := (ev_eq PGM d yM_isCell [] 400 _).trans rfl
set_option maxRecDepth 100000 in
theorem eM_cellOf_0 (d : Nat) (Z : ZT) (M : MS) (i1 : Int32) (i2 : Int32) : sem PGM d yM_cellOf (0, [some (.ref 91), some (.int i1), some (.int i2)], [], (hM Z M)) =
    aftK (sem PGM d yM_cellOf) 1 (5, [some (.ref 91), some (.int i1), some (.int i2)], [], (hM Z M)) (call PGM d yM_isCell [.ref 91, .int i1] (hM Z M)) := (ev_eq PGM d yM_cellOf [] 400 _).trans rfl
set_option maxRecDepth 100000 in
theorem eM_cellOf_5 (d : Nat) (Z : ZT) (M : MS) (i1 : Int32) (i2 : Int32) (k0 : Int32) : sem PGM d yM_cellOf (5, [some (.ref 91), some (.int i1), some (.int i2)], [.int k0], (hM Z M)) =
    bif decide (k0 = 0) then some (some (.int (-1)), (hM Z M))
    else aftK (sem PGM d yM_cellOf) 1 (17, [some (.ref 91), some (.int i1), some (.int i2)], [], (hM Z M)) (call PGM d yM_in [.long ((i2).toInt64), .long 0, .long 5] (hM Z M)) := (ev_eq PGM d yM_cellOf [] 400 _).trans rfl
set_option maxRecDepth 100000 in
theorem eM_cellOf_17 (d : Nat) (Z : ZT) (M : MS) (i1 : Int32) (i2 : Int32) (k0 : Int32) : sem PGM d yM_cellOf (17, [some (.ref 91), some (.int i1), some (.int i2)], [.int k0], (hM Z M)) =
    bif !decide (k0 = 0) then bif decide (3 ≤ i2) then bif !decide (i2 = 3) then bif !decide (i2 = 4) then aftK (sem PGM d yM_cellOf) 1 (74, [some (.ref 91), some (.int i1), some (.int i2)], [], (hM Z M)) (call PGM d yM_beastsIn [.ref 91, .int i1] (hM Z M))
          else aftK (sem PGM d yM_cellOf) 1 (66, [some (.ref 91), some (.int i1), some (.int i2)], [], (hM Z M)) (call PGM d yM_fallenIn [.ref 91, .int i1] (hM Z M))
        else aftK (sem PGM d yM_cellOf) 1 (53, [some (.ref 91), some (.int i1), some (.int i2)], [], (hM Z M)) (call PGM d yM_crowd [.ref 91, .int i1] (hM Z M))
      else bif inb ((9 + (3 * i1)) + i2) 437 then some (some (.int ((M.1 0) (((9 + (3 * i1)) + i2)).toNatClampNeg)), (hM Z M))
        else none
    else some (some (.int (-1)), (hM Z M)) := (ev_eq PGM d yM_cellOf [] 400 _).trans rfl
set_option maxRecDepth 100000 in
theorem eM_cellOf_74 (d : Nat) (Z : ZT) (M : MS) (u0 : Option Value) (u1 : Option Value) (u2 : Option Value) (k0 : Int32) : sem PGM d yM_cellOf (74, [u0, u1, u2], [.int k0], (hM Z M)) =
    some (some (.int k0), (hM Z M)) := (ev_eq PGM d yM_cellOf [] 400 _).trans rfl
set_option maxRecDepth 100000 in
theorem eM_cellOf_66 (d : Nat) (Z : ZT) (M : MS) (u0 : Option Value) (u1 : Option Value) (u2 : Option Value) (k0 : Int32) : sem PGM d yM_cellOf (66, [u0, u1, u2], [.int k0], (hM Z M)) =
    some (some (.int k0), (hM Z M)) := (ev_eq PGM d yM_cellOf [] 400 _).trans rfl
set_option maxRecDepth 100000 in
theorem eM_cellOf_53 (d : Nat) (Z : ZT) (M : MS) (u0 : Option Value) (u1 : Option Value) (u2 : Option Value) (k0 : Int32) : sem PGM d yM_cellOf (53, [u0, u1, u2], [.int k0], (hM Z M)) =
    some (some (.int k0), (hM Z M)) := (ev_eq PGM d yM_cellOf [] 400 _).trans rfl
set_option maxRecDepth 100000 in
theorem eM_crowd_0 (d : Nat) (Z : ZT) (M : MS) (i1 : Int32) : sem PGM d yM_crowd (0, [some (.ref 91), some (.int i1), none, none], [], (hM Z M)) =
    sem PGM d yM_crowd (4, [some (.ref 91), some (.int i1), some (.int 0), some (.int 0)], [], (hM Z M)) := (ev_eq PGM d yM_crowd [4] 400 _).trans rfl
set_option maxRecDepth 100000 in
theorem eM_crowd_4 (d : Nat) (Z : ZT) (M : MS) (i1 : Int32) (i2 : Int32) (i3 : Int32) : sem PGM d yM_crowd (4, [some (.ref 91), some (.int i1), some (.int i2), some (.int i3)], [], (hM Z M)) =
    bif decide (((M.1 0) 1) ≤ i3) then some (some (.int i2), (hM Z M))
    else aftK (sem PGM d yM_crowd) 1 (20, [some (.ref 91), some (.int i1), some (.int i2), some (.int i3)], [.int i2], (hM Z M)) (call PGM d yM_whereIs [.ref 91, .int i3] (hM Z M)) := (ev_eq PGM d yM_crowd [4] 400 _).trans rfl
set_option maxRecDepth 100000 in
theorem eM_crowd_20 (d : Nat) (Z : ZT) (M : MS) (i1 : Int32) (i2 : Int32) (i3 : Int32) (k0 : Int32) (k1 : Int32) : sem PGM d yM_crowd (20, [some (.ref 91), some (.int i1), some (.int i2), some (.int i3)], [.int k1, .int k0], (hM Z M)) =
    bif !decide (k1 = i1) then sem PGM d yM_crowd (4, [some (.ref 91), some (.int i1), some (.int (k0 + 0)), some (.int (i3 + 1))], [], (hM Z M))
    else sem PGM d yM_crowd (4, [some (.ref 91), some (.int i1), some (.int (k0 + 1)), some (.int (i3 + 1))], [], (hM Z M)) := (ev_eq PGM d yM_crowd [4] 400 _).trans rfl
set_option maxRecDepth 100000 in
theorem eM_fallenIn_0 (d : Nat) (Z : ZT) (M : MS) (i1 : Int32) : sem PGM d yM_fallenIn (0, [some (.ref 91), some (.int i1), none, none], [], (hM Z M)) =
    sem PGM d yM_fallenIn (4, [some (.ref 91), some (.int i1), some (.int 0), some (.int 0)], [], (hM Z M)) := (ev_eq PGM d yM_fallenIn [4] 400 _).trans rfl
set_option maxRecDepth 100000 in
theorem eM_fallenIn_4 (d : Nat) (Z : ZT) (M : MS) (i1 : Int32) (i2 : Int32) (i3 : Int32) : sem PGM d yM_fallenIn (4, [some (.ref 91), some (.int i1), some (.int i2), some (.int i3)], [], (hM Z M)) =
    bif decide (((M.1 0) 1) ≤ i3) then some (some (.int i2), (hM Z M))
    else aftK (sem PGM d yM_fallenIn) 1 (20, [some (.ref 91), some (.int i1), some (.int i2), some (.int i3)], [.int i2], (hM Z M)) (call PGM d yM_whereIs [.ref 91, .int i3] (hM Z M)) := (ev_eq PGM d yM_fallenIn [4] 400 _).trans rfl
set_option maxRecDepth 100000 in
theorem eM_fallenIn_20 (d : Nat) (Z : ZT) (M : MS) (i1 : Int32) (i2 : Int32) (i3 : Int32) (k0 : Int32) (k1 : Int32) : sem PGM d yM_fallenIn (20, [some (.ref 91), some (.int i1), some (.int i2), some (.int i3)], [.int k1, .int k0], (hM Z M)) =
    bif !decide (k1 = i1) then sem PGM d yM_fallenIn (4, [some (.ref 91), some (.int i1), some (.int (k0 + 0)), some (.int (i3 + 1))], [], (hM Z M))
    else aftK (sem PGM d yM_fallenIn) 1 (29, [some (.ref 91), some (.int i1), some (.int i2), some (.int i3)], [.int k0], (hM Z M)) (call PGM d yM_kindOf [.ref 91, .int i3] (hM Z M)) := (ev_eq PGM d yM_fallenIn [4] 400 _).trans rfl
set_option maxRecDepth 100000 in
theorem eM_fallenIn_29 (d : Nat) (Z : ZT) (M : MS) (i1 : Int32) (i2 : Int32) (i3 : Int32) (k0 : Int32) (k1 : Int32) : sem PGM d yM_fallenIn (29, [some (.ref 91), some (.int i1), some (.int i2), some (.int i3)], [.int k1, .int k0], (hM Z M)) =
    aftK (sem PGM d yM_fallenIn) 1 (33, [some (.ref 91), some (.int i1), some (.int i2), some (.int i3)], [.int k0], (hM Z M)) (call PGM d yM_isUnder [.int k1, .int 3] (hM Z M)) := (ev_eq PGM d yM_fallenIn [4] 400 _).trans rfl
set_option maxRecDepth 100000 in
theorem eM_fallenIn_33 (d : Nat) (Z : ZT) (M : MS) (i1 : Int32) (i2 : Int32) (i3 : Int32) (k0 : Int32) (k1 : Int32) : sem PGM d yM_fallenIn (33, [some (.ref 91), some (.int i1), some (.int i2), some (.int i3)], [.int k1, .int k0], (hM Z M)) =
    bif decide (k1 = 0) then sem PGM d yM_fallenIn (4, [some (.ref 91), some (.int i1), some (.int (k0 + 0)), some (.int (i3 + 1))], [], (hM Z M))
    else sem PGM d yM_fallenIn (4, [some (.ref 91), some (.int i1), some (.int (k0 + 1)), some (.int (i3 + 1))], [], (hM Z M)) := (ev_eq PGM d yM_fallenIn [4] 400 _).trans rfl
set_option maxRecDepth 100000 in
theorem eM_kindOf_0 (d : Nat) (Z : ZT) (M : MS) (i1 : Int32) : sem PGM d yM_kindOf (0, [some (.ref 91), some (.int i1)], [], (hM Z M)) =
    bif inb (99 + (4 * i1)) 437 then some (some (.int ((M.1 0) ((99 + (4 * i1))).toNatClampNeg)), (hM Z M))
    else none := (ev_eq PGM d yM_kindOf [] 400 _).trans rfl
set_option maxRecDepth 100000 in
theorem eM_isUnder_0 (d : Nat) (h : AH) (i0 : Int32) (i1 : Int32) : sem PGM d yM_isUnder (0, [some (.int i0), some (.int i1)], [], h) =
    bif decide (i0 = i1) then some (some (.int 1), h)
    else bif !decide (i1 = 0) then bif !decide (i1 = 1) then bif !decide (i1 = 2) then bif !decide (i1 = 3) then some (some (.int 0), h)
            else bif !decide (i0 = 6) then some (some (.int 0), h)
              else some (some (.int 1), h)
          else bif decide (i0 = 7) then some (some (.int 1), h)
            else bif !decide (i1 = 3) then some (some (.int 0), h)
              else bif !decide (i0 = 6) then some (some (.int 0), h)
                else some (some (.int 1), h)
        else bif decide (i0 = 4) then some (some (.int 1), h)
          else bif decide (i0 = 5) then some (some (.int 1), h)
            else bif !decide (i1 = 2) then bif !decide (i1 = 3) then some (some (.int 0), h)
                else bif !decide (i0 = 6) then some (some (.int 0), h)
                  else some (some (.int 1), h)
              else bif decide (i0 = 7) then some (some (.int 1), h)
                else bif !decide (i1 = 3) then some (some (.int 0), h)
                  else bif !decide (i0 = 6) then some (some (.int 0), h)
                    else some (some (.int 1), h)
      else bif decide (i0 < 8) then some (some (.int 1), h)
        else bif !decide (i1 = 1) then bif !decide (i1 = 2) then bif !decide (i1 = 3) then some (some (.int 0), h)
              else bif !decide (i0 = 6) then some (some (.int 0), h)
                else some (some (.int 1), h)
            else bif decide (i0 = 7) then some (some (.int 1), h)
              else bif !decide (i1 = 3) then some (some (.int 0), h)
                else bif !decide (i0 = 6) then some (some (.int 0), h)
                  else some (some (.int 1), h)
          else bif decide (i0 = 4) then some (some (.int 1), h)
            else bif decide (i0 = 5) then some (some (.int 1), h)
              else bif !decide (i1 = 2) then bif !decide (i1 = 3) then some (some (.int 0), h)
                  else bif !decide (i0 = 6) then some (some (.int 0), h)
                    else some (some (.int 1), h)
                else bif decide (i0 = 7) then some (some (.int 1), h)
                  else bif !decide (i1 = 3) then some (some (.int 0), h)
                    else bif !decide (i0 = 6) then some (some (.int 0), h)
                      else some (some (.int 1), h) := (ev_eq PGM d yM_isUnder [] 400 _).trans rfl
set_option maxRecDepth 100000 in
theorem eM_beastsIn_0 (d : Nat) (Z : ZT) (M : MS) (i1 : Int32) : sem PGM d yM_beastsIn (0, [some (.ref 91), some (.int i1), none, none], [], (hM Z M)) =
    sem PGM d yM_beastsIn (4, [some (.ref 91), some (.int i1), some (.int 0), some (.int 0)], [], (hM Z M)) := (ev_eq PGM d yM_beastsIn [4] 400 _).trans rfl
set_option maxRecDepth 100000 in
theorem eM_beastsIn_4 (d : Nat) (Z : ZT) (M : MS) (i1 : Int32) (i2 : Int32) (i3 : Int32) : sem PGM d yM_beastsIn (4, [some (.ref 91), some (.int i1), some (.int i2), some (.int i3)], [], (hM Z M)) =
    bif decide (((M.1 0) 2) ≤ i3) then some (some (.int i2), (hM Z M))
    else aftK (sem PGM d yM_beastsIn) 1 (20, [some (.ref 91), some (.int i1), some (.int i2), some (.int i3)], [.int i2], (hM Z M)) (call PGM d yM_whereBeast [.ref 91, .int i3] (hM Z M)) := (ev_eq PGM d yM_beastsIn [4] 400 _).trans rfl
set_option maxRecDepth 100000 in
theorem eM_beastsIn_20 (d : Nat) (Z : ZT) (M : MS) (i1 : Int32) (i2 : Int32) (i3 : Int32) (k0 : Int32) (k1 : Int32) : sem PGM d yM_beastsIn (20, [some (.ref 91), some (.int i1), some (.int i2), some (.int i3)], [.int k1, .int k0], (hM Z M)) =
    bif !decide (k1 = i1) then sem PGM d yM_beastsIn (4, [some (.ref 91), some (.int i1), some (.int (k0 + 0)), some (.int (i3 + 1))], [], (hM Z M))
    else sem PGM d yM_beastsIn (4, [some (.ref 91), some (.int i1), some (.int (k0 + 1)), some (.int (i3 + 1))], [], (hM Z M)) := (ev_eq PGM d yM_beastsIn [4] 400 _).trans rfl
set_option maxRecDepth 100000 in
theorem eM_rule_0 (d : Nat) (Z : ZT) (M : MS) (i1 : Int32) (i2 : Int32) : sem PGM d yM_rule (0, [some (.ref 91), some (.int i1), some (.int i2), none], [], (hM Z M)) =
    bif !decide (i1 = 0) then bif !decide (i1 = 1) then bif !decide (i1 = 2) then some (some (.int (-1)), (hM Z M))
        else aftK (sem PGM d yM_rule) 1 (55, [some (.ref 91), some (.int i1), some (.int i2), none], [], (hM Z M)) (call PGM d yM_in [.long ((i2).toInt64), .long 2, .long 9] (hM Z M))
      else aftK (sem PGM d yM_rule) 1 (33, [some (.ref 91), some (.int i1), some (.int i2), none], [], (hM Z M)) (call PGM d yM_in [.long ((i2).toInt64), .long 0, .long 9] (hM Z M))
    else aftK (sem PGM d yM_rule) 1 (13, [some (.ref 91), some (.int i1), some (.int i2), none], [], (hM Z M)) (call PGM d yM_in [.long ((i2).toInt64), .long 1, .long 9] (hM Z M)) := (ev_eq PGM d yM_rule [] 400 _).trans rfl
set_option maxRecDepth 100000 in
theorem eM_rule_55 (d : Nat) (Z : ZT) (M : MS) (i1 : Int32) (i2 : Int32) (u3 : Option Value) (k0 : Int32) : sem PGM d yM_rule (55, [some (.ref 91), some (.int i1), some (.int i2), u3], [.int k0], (hM Z M)) =
    bif !decide (k0 = 0) then bif inb (5 + i1) 437 then bif inb (5 + i1) 437 then some (some (.int ((M.1 0) ((5 + i1)).toNatClampNeg)), (hM Z (mA M 0 (upd (M.1 0) ((5 + i1)).toNatClampNeg i2))))
        else none
      else none
    else some (some (.int (-1)), (hM Z M)) := (ev_eq PGM d yM_rule [] 400 _).trans rfl
set_option maxRecDepth 100000 in
theorem eM_rule_33 (d : Nat) (Z : ZT) (M : MS) (i1 : Int32) (i2 : Int32) (u3 : Option Value) (k0 : Int32) : sem PGM d yM_rule (33, [some (.ref 91), some (.int i1), some (.int i2), u3], [.int k0], (hM Z M)) =
    bif decide (k0 = 0) then some (some (.int (-1)), (hM Z M))
    else bif inb (5 + i1) 437 then bif inb (5 + i1) 437 then some (some (.int ((M.1 0) ((5 + i1)).toNatClampNeg)), (hM Z (mA M 0 (upd (M.1 0) ((5 + i1)).toNatClampNeg i2))))
        else none
      else none := (ev_eq PGM d yM_rule [] 400 _).trans rfl
set_option maxRecDepth 100000 in
theorem eM_rule_13 (d : Nat) (Z : ZT) (M : MS) (i1 : Int32) (i2 : Int32) (u3 : Option Value) (k0 : Int32) : sem PGM d yM_rule (13, [some (.ref 91), some (.int i1), some (.int i2), u3], [.int k0], (hM Z M)) =
    bif decide (k0 = 0) then some (some (.int (-1)), (hM Z M))
    else bif inb (5 + i1) 437 then bif inb (5 + i1) 437 then some (some (.int ((M.1 0) ((5 + i1)).toNatClampNeg)), (hM Z (mA M 0 (upd (M.1 0) ((5 + i1)).toNatClampNeg i2))))
        else none
      else none := (ev_eq PGM d yM_rule [] 400 _).trans rfl
set_option maxRecDepth 100000 in
theorem eM_seed_0 (d : Nat) (Z : ZT) (M : MS) (i1 : Int32) : sem PGM d yM_seed (0, [some (.ref 91), some (.int i1), none], [], (hM Z M)) =
    some (some (.int ((M.1 0) 4)), (hM Z (mA M 0 (upd (M.1 0) 4 i1)))) := (ev_eq PGM d yM_seed [] 400 _).trans rfl
set_option maxRecDepth 100000 in
theorem eM_person_0 (d : Nat) (Z : ZT) (M : MS) (i1 : Int32) (i2 : Int32) (i3 : Int32) : sem PGM d yM_person (0, [some (.ref 91), some (.int i1), some (.int i2), some (.int i3), none], [], (hM Z M)) =
    aftK (sem PGM d yM_person) 1 (9, [some (.ref 91), some (.int i1), some (.int i2), some (.int i3), none], [], (hM Z M)) (call PGM d yM_in [.long ((i1).toInt64), .long 1, .long 7] (hM Z M)) := (ev_eq PGM d yM_person [69, 79, 89, 99, 109] 400 _).trans rfl
set_option maxRecDepth 100000 in
theorem eM_person_9 (d : Nat) (Z : ZT) (M : MS) (i1 : Int32) (i2 : Int32) (i3 : Int32) (u4 : Option Value) (k0 : Int32) : sem PGM d yM_person (9, [some (.ref 91), some (.int i1), some (.int i2), some (.int i3), u4], [.int k0], (hM Z M)) =
    bif decide (k0 = 0) then some (some (.int (-1)), (hM Z M))
    else aftK (sem PGM d yM_person) 1 (17, [some (.ref 91), some (.int i1), some (.int i2), some (.int i3), u4], [], (hM Z M)) (call PGM d yM_isCell [.ref 91, .int i2] (hM Z M)) := (ev_eq PGM d yM_person [69, 79, 89, 99, 109] 400 _).trans rfl
set_option maxRecDepth 100000 in
theorem eM_person_17 (d : Nat) (Z : ZT) (M : MS) (i1 : Int32) (i2 : Int32) (i3 : Int32) (u4 : Option Value) (k0 : Int32) : sem PGM d yM_person (17, [some (.ref 91), some (.int i1), some (.int i2), some (.int i3), u4], [.int k0], (hM Z M)) =
    bif decide (k0 = 0) then some (some (.int (-1)), (hM Z M))
    else aftK (sem PGM d yM_person) 1 (29, [some (.ref 91), some (.int i1), some (.int i2), some (.int i3), u4], [], (hM Z M)) (call PGM d yM_in [.long ((i3).toInt64), .long 1, .long 3] (hM Z M)) := (ev_eq PGM d yM_person [69, 79, 89, 99, 109] 400 _).trans rfl
set_option maxRecDepth 100000 in
theorem eM_person_29 (d : Nat) (Z : ZT) (M : MS) (i1 : Int32) (i2 : Int32) (i3 : Int32) (u4 : Option Value) (k0 : Int32) : sem PGM d yM_person (29, [some (.ref 91), some (.int i1), some (.int i2), some (.int i3), u4], [.int k0], (hM Z M)) =
    bif !decide (k0 = 0) then bif !decide (((M.1 0) 1) = 20) then bif inb (99 + (4 * ((M.1 0) 1))) 437 then sem PGM d yM_person (69, [some (.ref 91), some (.int i1), some (.int i2), some (.int i3), some (.int (99 + (4 * ((M.1 0) 1))))], [], (hM Z (mA M 0 (upd (M.1 0) ((99 + (4 * ((M.1 0) 1)))).toNatClampNeg i1))))
        else none
      else some (some (.int (-2)), (hM Z M))
    else some (some (.int (-1)), (hM Z M)) := (ev_eq PGM d yM_person [69, 79, 89, 99, 109] 400 _).trans rfl
set_option maxRecDepth 100000 in
theorem eM_person_69 (d : Nat) (Z : ZT) (M : MS) (u1 : Option Value) (i2 : Int32) (i3 : Int32) (i4 : Int32) : sem PGM d yM_person (69, [some (.ref 91), u1, some (.int i2), some (.int i3), some (.int i4)], [], (hM Z M)) =
    bif inb (i4 + 1) 437 then sem PGM d yM_person (79, [some (.ref 91), u1, some (.int i2), some (.int i3), some (.int i4)], [], (hM Z (mA M 0 (upd (M.1 0) ((i4 + 1)).toNatClampNeg i2))))
    else none := (ev_eq PGM d yM_person [69, 79, 89, 99, 109] 400 _).trans rfl
set_option maxRecDepth 100000 in
theorem eM_person_79 (d : Nat) (Z : ZT) (M : MS) (u1 : Option Value) (u2 : Option Value) (i3 : Int32) (i4 : Int32) : sem PGM d yM_person (79, [some (.ref 91), u1, u2, some (.int i3), some (.int i4)], [], (hM Z M)) =
    bif inb (i4 + 2) 437 then sem PGM d yM_person (89, [some (.ref 91), u1, u2, some (.int i3), some (.int i4)], [], (hM Z (mA M 0 (upd (M.1 0) ((i4 + 2)).toNatClampNeg i3))))
    else none := (ev_eq PGM d yM_person [69, 79, 89, 99, 109] 400 _).trans rfl
set_option maxRecDepth 100000 in
theorem eM_person_89 (d : Nat) (Z : ZT) (M : MS) (u1 : Option Value) (u2 : Option Value) (i3 : Int32) (i4 : Int32) : sem PGM d yM_person (89, [some (.ref 91), u1, u2, some (.int i3), some (.int i4)], [], (hM Z M)) =
    bif inb (i4 + 3) 437 then sem PGM d yM_person (99, [some (.ref 91), u1, u2, some (.int i3), some (.int i4)], [], (hM Z (mA M 0 (upd (M.1 0) ((i4 + 3)).toNatClampNeg 0))))
    else none := (ev_eq PGM d yM_person [69, 79, 89, 99, 109] 400 _).trans rfl
set_option maxRecDepth 100000 in
theorem eM_person_99 (d : Nat) (Z : ZT) (M : MS) (u1 : Option Value) (u2 : Option Value) (i3 : Int32) (u4 : Option Value) : sem PGM d yM_person (99, [some (.ref 91), u1, u2, some (.int i3), u4], [], (hM Z M)) =
    sem PGM d yM_person (109, [some (.ref 91), u1, u2, some (.int i3), u4], [], (hM Z (mA M 0 (upd (M.1 0) 1 (((M.1 0) 1) + 1))))) := (ev_eq PGM d yM_person [69, 79, 89, 99, 109] 400 _).trans rfl
set_option maxRecDepth 100000 in
theorem eM_person_109 (d : Nat) (Z : ZT) (M : MS) (u1 : Option Value) (u2 : Option Value) (i3 : Int32) (u4 : Option Value) : sem PGM d yM_person (109, [some (.ref 91), u1, u2, some (.int i3), u4], [], (hM Z M)) =
    some (some (.int (((M.1 0) 1) - 1)), (hM Z M)) := (ev_eq PGM d yM_person [69, 79, 89, 99, 109] 400 _).trans rfl
set_option maxRecDepth 100000 in
theorem eM_personOf_0 (d : Nat) (Z : ZT) (M : MS) (i1 : Int32) (i2 : Int32) : sem PGM d yM_personOf (0, [some (.ref 91), some (.int i1), some (.int i2)], [], (hM Z M)) =
    aftK (sem PGM d yM_personOf) 1 (5, [some (.ref 91), some (.int i1), some (.int i2)], [], (hM Z M)) (call PGM d yM_isPerson [.ref 91, .int i1] (hM Z M)) := (ev_eq PGM d yM_personOf [] 400 _).trans rfl
set_option maxRecDepth 100000 in
theorem eM_personOf_5 (d : Nat) (Z : ZT) (M : MS) (i1 : Int32) (i2 : Int32) (k0 : Int32) : sem PGM d yM_personOf (5, [some (.ref 91), some (.int i1), some (.int i2)], [.int k0], (hM Z M)) =
    bif decide (k0 = 0) then some (some (.int (-1)), (hM Z M))
    else aftK (sem PGM d yM_personOf) 1 (17, [some (.ref 91), some (.int i1), some (.int i2)], [], (hM Z M)) (call PGM d yM_in [.long ((i2).toInt64), .long 0, .long 4] (hM Z M)) := (ev_eq PGM d yM_personOf [] 400 _).trans rfl
set_option maxRecDepth 100000 in
theorem eM_personOf_17 (d : Nat) (Z : ZT) (M : MS) (i1 : Int32) (i2 : Int32) (k0 : Int32) : sem PGM d yM_personOf (17, [some (.ref 91), some (.int i1), some (.int i2)], [.int k0], (hM Z M)) =
    bif !decide (k0 = 0) then bif decide (4 ≤ i2) then aftK (sem PGM d yM_personOf) 1 (48, [some (.ref 91), some (.int i1), some (.int i2)], [], (hM Z M)) (call PGM d yM_whereIs [.ref 91, .int i1] (hM Z M))
      else bif inb ((99 + (4 * i1)) + i2) 437 then some (some (.int ((M.1 0) (((99 + (4 * i1)) + i2)).toNatClampNeg)), (hM Z M))
        else none
    else some (some (.int (-1)), (hM Z M)) := (ev_eq PGM d yM_personOf [] 400 _).trans rfl
set_option maxRecDepth 100000 in
theorem eM_personOf_48 (d : Nat) (Z : ZT) (M : MS) (i1 : Int32) (u2 : Option Value) (k0 : Int32) : sem PGM d yM_personOf (48, [some (.ref 91), some (.int i1), u2], [.int k0], (hM Z M)) =
    bif decide (0 ≤ k0) then aftK (sem PGM d yM_personOf) 1 (62, [some (.ref 91), some (.int i1), u2], [.ref 91], (hM Z M)) (call PGM d yM_whereIs [.ref 91, .int i1] (hM Z M))
    else some (some (.int (-9)), (hM Z M)) := (ev_eq PGM d yM_personOf [] 400 _).trans rfl
set_option maxRecDepth 100000 in
theorem eM_personOf_62 (d : Nat) (Z : ZT) (M : MS) (u0 : Option Value) (u1 : Option Value) (u2 : Option Value) (k1 : Int32) : sem PGM d yM_personOf (62, [u0, u1, u2], [.int k1, .ref 91], (hM Z M)) =
    aftK (sem PGM d yM_personOf) 1 (65, [u0, u1, u2], [], (hM Z M)) (call PGM d yM_nearTo [.ref 91, .int k1] (hM Z M)) := (ev_eq PGM d yM_personOf [] 400 _).trans rfl
set_option maxRecDepth 100000 in
theorem eM_personOf_65 (d : Nat) (Z : ZT) (M : MS) (u0 : Option Value) (u1 : Option Value) (u2 : Option Value) (k0 : Int32) : sem PGM d yM_personOf (65, [u0, u1, u2], [.int k0], (hM Z M)) =
    some (some (.int k0), (hM Z M)) := (ev_eq PGM d yM_personOf [] 400 _).trans rfl
