/-! Equations of blocks, by wip/whole/gen/alleq.py. -/
set_option maxRecDepth 100000 in
theorem eM_shelf_0 (d : Nat) (Z : ZT) (M : MS) (i1 : Int32) (i2 : Int32) (i3 : Int32) : sem PGM d yM_shelf (0, [some (.ref 91), some (.int i1), some (.int i2), some (.int i3), none], [], (hM Z M)) =
    aftK (sem PGM d yM_shelf) 1 (4, [some (.ref 91), some (.int i1), some (.int i2), some (.int i3), none], [], (hM Z M)) (call PGM d yM_isOne [.int i1] (hM Z M)) := (ev_eq PGM d yM_shelf [100, 121] 400 _).trans rfl
set_option maxRecDepth 100000 in
theorem eM_shelf_4 (d : Nat) (Z : ZT) (M : MS) (i1 : Int32) (i2 : Int32) (i3 : Int32) (u4 : Option Value) (k0 : Int32) : sem PGM d yM_shelf (4, [some (.ref 91), some (.int i1), some (.int i2), some (.int i3), u4], [.int k0], (hM Z M)) =
    bif decide (k0 = 0) then some (some (.int (-1)), (hM Z M))
    else aftK (sem PGM d yM_shelf) 1 (16, [some (.ref 91), some (.int i1), some (.int i2), some (.int i3), u4], [], (hM Z M)) (call PGM d yM_in [.long ((i2).toInt64), .long 0, .long 3] (hM Z M)) := (ev_eq PGM d yM_shelf [100, 121] 400 _).trans rfl
set_option maxRecDepth 100000 in
theorem eM_shelf_16 (d : Nat) (Z : ZT) (M : MS) (i1 : Int32) (i2 : Int32) (i3 : Int32) (u4 : Option Value) (k0 : Int32) : sem PGM d yM_shelf (16, [some (.ref 91), some (.int i1), some (.int i2), some (.int i3), u4], [.int k0], (hM Z M)) =
    bif decide (k0 = 0) then some (some (.int (-1)), (hM Z M))
    else bif !decide (i2 = 0) then bif !decide (i2 = 1) then bif !decide (i2 = 2) then bif !decide (i2 = 2) then bif !decide (i2 = 2) then bif inb i1 4 then sem PGM d yM_shelf (100, [some (.ref 91), some (.int i1), some (.int i2), some (.int i3), some (.int 0)], [], (hM Z (mA M 12 (upd (M.1 12) (i1).toNatClampNeg i2))))
                else none
              else bif inb i1 4 then sem PGM d yM_shelf (100, [some (.ref 91), some (.int i1), some (.int i2), some (.int i3), some (.int 0)], [], (hM Z (mA M 12 (upd (M.1 12) (i1).toNatClampNeg 3))))
                else none
            else bif inb i3 4 then bif decide (((M.1 9) (i3).toNatClampNeg) < 0) then bif !decide (i2 = 2) then bif inb i1 4 then sem PGM d yM_shelf (100, [some (.ref 91), some (.int i1), some (.int i2), some (.int i3), some (.int 0)], [], (hM Z (mA M 12 (upd (M.1 12) (i1).toNatClampNeg i2))))
                    else none
                  else bif inb i1 4 then sem PGM d yM_shelf (100, [some (.ref 91), some (.int i1), some (.int i2), some (.int i3), some (.int 0)], [], (hM Z (mA M 12 (upd (M.1 12) (i1).toNatClampNeg 3))))
                    else none
                else bif !decide (i2 = 2) then bif inb i1 4 then sem PGM d yM_shelf (100, [some (.ref 91), some (.int i1), some (.int i2), some (.int i3), some (.int 1)], [], (hM Z (mA M 12 (upd (M.1 12) (i1).toNatClampNeg i2))))
                    else none
                  else bif inb i1 4 then sem PGM d yM_shelf (100, [some (.ref 91), some (.int i1), some (.int i2), some (.int i3), some (.int 1)], [], (hM Z (mA M 12 (upd (M.1 12) (i1).toNatClampNeg i2))))
                    else none
              else none
          else aftK (sem PGM d yM_shelf) 1 (53, [some (.ref 91), some (.int i1), some (.int i2), some (.int i3), u4], [], (hM Z M)) (call PGM d yM_isOne [.int i3] (hM Z M))
        else aftK (sem PGM d yM_shelf) 1 (41, [some (.ref 91), some (.int i1), some (.int i2), some (.int i3), u4], [], (hM Z M)) (call PGM d yM_isBeast [.ref 91, .int i3] (hM Z M))
      else aftK (sem PGM d yM_shelf) 1 (28, [some (.ref 91), some (.int i1), some (.int i2), some (.int i3), u4], [], (hM Z M)) (call PGM d yM_isPerson [.ref 91, .int i3] (hM Z M)) := (ev_eq PGM d yM_shelf [100, 121] 400 _).trans rfl
set_option maxRecDepth 100000 in
theorem eM_shelf_100 (d : Nat) (Z : ZT) (M : MS) (i1 : Int32) (u2 : Option Value) (i3 : Int32) (i4 : Int32) : sem PGM d yM_shelf (100, [some (.ref 91), some (.int i1), u2, some (.int i3), some (.int i4)], [], (hM Z M)) =
    bif decide (i4 = 0) then bif inb i1 4 then sem PGM d yM_shelf (121, [some (.ref 91), some (.int i1), u2, some (.int i3), some (.int i4)], [], (hM Z (mA M 13 (upd (M.1 13) (i1).toNatClampNeg i3))))
      else none
    else bif inb i3 4 then bif inb i1 4 then sem PGM d yM_shelf (121, [some (.ref 91), some (.int i1), u2, some (.int i3), some (.int i4)], [], (hM Z (mA M 13 (upd (M.1 13) (i1).toNatClampNeg ((M.1 9) (i3).toNatClampNeg)))))
        else none
      else none := (ev_eq PGM d yM_shelf [100, 121] 400 _).trans rfl
set_option maxRecDepth 100000 in
theorem eM_shelf_53 (d : Nat) (Z : ZT) (M : MS) (i1 : Int32) (i2 : Int32) (i3 : Int32) (u4 : Option Value) (k0 : Int32) : sem PGM d yM_shelf (53, [some (.ref 91), some (.int i1), some (.int i2), some (.int i3), u4], [.int k0], (hM Z M)) =
    bif !decide (k0 = 0) then bif !decide (i2 = 2) then bif !decide (i2 = 2) then bif inb i1 4 then sem PGM d yM_shelf (100, [some (.ref 91), some (.int i1), some (.int i2), some (.int i3), some (.int 0)], [], (hM Z (mA M 12 (upd (M.1 12) (i1).toNatClampNeg i2))))
          else none
        else bif inb i1 4 then sem PGM d yM_shelf (100, [some (.ref 91), some (.int i1), some (.int i2), some (.int i3), some (.int 0)], [], (hM Z (mA M 12 (upd (M.1 12) (i1).toNatClampNeg 3))))
          else none
      else bif inb i3 4 then bif decide (((M.1 9) (i3).toNatClampNeg) < 0) then bif !decide (i2 = 2) then bif inb i1 4 then sem PGM d yM_shelf (100, [some (.ref 91), some (.int i1), some (.int i2), some (.int i3), some (.int 0)], [], (hM Z (mA M 12 (upd (M.1 12) (i1).toNatClampNeg i2))))
              else none
            else bif inb i1 4 then sem PGM d yM_shelf (100, [some (.ref 91), some (.int i1), some (.int i2), some (.int i3), some (.int 0)], [], (hM Z (mA M 12 (upd (M.1 12) (i1).toNatClampNeg 3))))
              else none
          else bif !decide (i2 = 2) then bif inb i1 4 then sem PGM d yM_shelf (100, [some (.ref 91), some (.int i1), some (.int i2), some (.int i3), some (.int 1)], [], (hM Z (mA M 12 (upd (M.1 12) (i1).toNatClampNeg i2))))
              else none
            else bif inb i1 4 then sem PGM d yM_shelf (100, [some (.ref 91), some (.int i1), some (.int i2), some (.int i3), some (.int 1)], [], (hM Z (mA M 12 (upd (M.1 12) (i1).toNatClampNeg i2))))
              else none
        else none
    else some (some (.int (-1)), (hM Z M)) := (ev_eq PGM d yM_shelf [100, 121] 400 _).trans rfl
set_option maxRecDepth 100000 in
theorem eM_shelf_41 (d : Nat) (Z : ZT) (M : MS) (i1 : Int32) (i2 : Int32) (i3 : Int32) (u4 : Option Value) (k0 : Int32) : sem PGM d yM_shelf (41, [some (.ref 91), some (.int i1), some (.int i2), some (.int i3), u4], [.int k0], (hM Z M)) =
    bif decide (k0 = 0) then some (some (.int (-1)), (hM Z M))
    else bif !decide (i2 = 2) then bif !decide (i2 = 2) then bif !decide (i2 = 2) then bif inb i1 4 then sem PGM d yM_shelf (100, [some (.ref 91), some (.int i1), some (.int i2), some (.int i3), some (.int 0)], [], (hM Z (mA M 12 (upd (M.1 12) (i1).toNatClampNeg i2))))
            else none
          else bif inb i1 4 then sem PGM d yM_shelf (100, [some (.ref 91), some (.int i1), some (.int i2), some (.int i3), some (.int 0)], [], (hM Z (mA M 12 (upd (M.1 12) (i1).toNatClampNeg 3))))
            else none
        else bif inb i3 4 then bif decide (((M.1 9) (i3).toNatClampNeg) < 0) then bif !decide (i2 = 2) then bif inb i1 4 then sem PGM d yM_shelf (100, [some (.ref 91), some (.int i1), some (.int i2), some (.int i3), some (.int 0)], [], (hM Z (mA M 12 (upd (M.1 12) (i1).toNatClampNeg i2))))
                else none
              else bif inb i1 4 then sem PGM d yM_shelf (100, [some (.ref 91), some (.int i1), some (.int i2), some (.int i3), some (.int 0)], [], (hM Z (mA M 12 (upd (M.1 12) (i1).toNatClampNeg 3))))
                else none
            else bif !decide (i2 = 2) then bif inb i1 4 then sem PGM d yM_shelf (100, [some (.ref 91), some (.int i1), some (.int i2), some (.int i3), some (.int 1)], [], (hM Z (mA M 12 (upd (M.1 12) (i1).toNatClampNeg i2))))
                else none
              else bif inb i1 4 then sem PGM d yM_shelf (100, [some (.ref 91), some (.int i1), some (.int i2), some (.int i3), some (.int 1)], [], (hM Z (mA M 12 (upd (M.1 12) (i1).toNatClampNeg i2))))
                else none
          else none
      else aftK (sem PGM d yM_shelf) 1 (53, [some (.ref 91), some (.int i1), some (.int i2), some (.int i3), u4], [], (hM Z M)) (call PGM d yM_isOne [.int i3] (hM Z M)) := (ev_eq PGM d yM_shelf [100, 121] 400 _).trans rfl
set_option maxRecDepth 100000 in
theorem eM_shelf_28 (d : Nat) (Z : ZT) (M : MS) (i1 : Int32) (i2 : Int32) (i3 : Int32) (u4 : Option Value) (k0 : Int32) : sem PGM d yM_shelf (28, [some (.ref 91), some (.int i1), some (.int i2), some (.int i3), u4], [.int k0], (hM Z M)) =
    bif decide (k0 = 0) then some (some (.int (-1)), (hM Z M))
    else bif !decide (i2 = 1) then bif !decide (i2 = 2) then bif !decide (i2 = 2) then bif !decide (i2 = 2) then bif inb i1 4 then sem PGM d yM_shelf (100, [some (.ref 91), some (.int i1), some (.int i2), some (.int i3), some (.int 0)], [], (hM Z (mA M 12 (upd (M.1 12) (i1).toNatClampNeg i2))))
              else none
            else bif inb i1 4 then sem PGM d yM_shelf (100, [some (.ref 91), some (.int i1), some (.int i2), some (.int i3), some (.int 0)], [], (hM Z (mA M 12 (upd (M.1 12) (i1).toNatClampNeg 3))))
              else none
          else bif inb i3 4 then bif decide (((M.1 9) (i3).toNatClampNeg) < 0) then bif !decide (i2 = 2) then bif inb i1 4 then sem PGM d yM_shelf (100, [some (.ref 91), some (.int i1), some (.int i2), some (.int i3), some (.int 0)], [], (hM Z (mA M 12 (upd (M.1 12) (i1).toNatClampNeg i2))))
                  else none
                else bif inb i1 4 then sem PGM d yM_shelf (100, [some (.ref 91), some (.int i1), some (.int i2), some (.int i3), some (.int 0)], [], (hM Z (mA M 12 (upd (M.1 12) (i1).toNatClampNeg 3))))
                  else none
              else bif !decide (i2 = 2) then bif inb i1 4 then sem PGM d yM_shelf (100, [some (.ref 91), some (.int i1), some (.int i2), some (.int i3), some (.int 1)], [], (hM Z (mA M 12 (upd (M.1 12) (i1).toNatClampNeg i2))))
                  else none
                else bif inb i1 4 then sem PGM d yM_shelf (100, [some (.ref 91), some (.int i1), some (.int i2), some (.int i3), some (.int 1)], [], (hM Z (mA M 12 (upd (M.1 12) (i1).toNatClampNeg i2))))
                  else none
            else none
        else aftK (sem PGM d yM_shelf) 1 (53, [some (.ref 91), some (.int i1), some (.int i2), some (.int i3), u4], [], (hM Z M)) (call PGM d yM_isOne [.int i3] (hM Z M))
      else aftK (sem PGM d yM_shelf) 1 (41, [some (.ref 91), some (.int i1), some (.int i2), some (.int i3), u4], [], (hM Z M)) (call PGM d yM_isBeast [.ref 91, .int i3] (hM Z M)) := (ev_eq PGM d yM_shelf [100, 121] 400 _).trans rfl
set_option maxRecDepth 100000 in
theorem eM_shelf_121 (d : Nat) (Z : ZT) (M : MS) (i1 : Int32) (u2 : Option Value) (i3 : Int32) (i4 : Int32) : sem PGM d yM_shelf (121, [some (.ref 91), some (.int i1), u2, some (.int i3), some (.int i4)], [], (hM Z M)) =
    bif decide (i4 = 0) then bif inb i1 4 then some (some (.int 1), (hM Z (mA M 14 (upd (M.1 14) (i1).toNatClampNeg 0))))
      else none
    else bif inb i3 4 then bif inb i1 4 then some (some (.int 1), (hM Z (mA M 14 (upd (M.1 14) (i1).toNatClampNeg ((M.1 10) (i3).toNatClampNeg)))))
        else none
      else none := (ev_eq PGM d yM_shelf [100, 121] 400 _).trans rfl
set_option maxRecDepth 100000 in
theorem eM_taken_0 (d : Nat) (Z : ZT) (M : MS) (i1 : Int32) (i2 : Int32) : sem PGM d yM_taken (0, [some (.ref 91), some (.int i1), some (.int i2), none], [], (hM Z M)) =
    aftK (sem PGM d yM_taken) 1 (4, [some (.ref 91), some (.int i1), some (.int i2), none], [], (hM Z M)) (call PGM d yM_isOne [.int i1] (hM Z M)) := (ev_eq PGM d yM_taken [] 400 _).trans rfl
set_option maxRecDepth 100000 in
theorem eM_taken_4 (d : Nat) (Z : ZT) (M : MS) (i1 : Int32) (i2 : Int32) (u3 : Option Value) (k0 : Int32) : sem PGM d yM_taken (4, [some (.ref 91), some (.int i1), some (.int i2), u3], [.int k0], (hM Z M)) =
    bif decide (k0 = 0) then some (some (.int (-1)), (hM Z M))
    else aftK (sem PGM d yM_taken) 1 (16, [some (.ref 91), some (.int i1), some (.int i2), u3], [], (hM Z M)) (call PGM d yM_in [.long ((i2).toInt64), .long 0, .long 8] (hM Z M)) := (ev_eq PGM d yM_taken [] 400 _).trans rfl
set_option maxRecDepth 100000 in
theorem eM_taken_16 (d : Nat) (Z : ZT) (M : MS) (i1 : Int32) (i2 : Int32) (u3 : Option Value) (k0 : Int32) : sem PGM d yM_taken (16, [some (.ref 91), some (.int i1), some (.int i2), u3], [.int k0], (hM Z M)) =
    bif !decide (k0 = 0) then aftK (sem PGM d yM_taken) 0 (40, [some (.ref 91), some (.int i1), some (.int i2), u3], [], (hM Z M)) (call PGM d yM_takes [.ref 91, .int i1] (hM Z M))
    else aftK (sem PGM d yM_taken) 1 (30, [some (.ref 91), some (.int i1), some (.int i2), u3], [], (hM Z M)) (call PGM d yM_in [.long ((i2).toInt64), .long 10, .long 14] (hM Z M)) := (ev_eq PGM d yM_taken [] 400 _).trans rfl
set_option maxRecDepth 100000 in
theorem eM_taken_40 (d : Nat) (Z : ZT) (M : MS) (i1 : Int32) (i2 : Int32) (u3 : Option Value) : sem PGM d yM_taken (40, [some (.ref 91), some (.int i1), some (.int i2), u3], [], (hM Z M)) =
    bif inb i1 4 then bif !decide (((M.1 12) (i1).toNatClampNeg) = 2) then bif decide (0 ≤ (M.2 15)) then bif decide (i2 < 10) then aftK (sem PGM d yM_taken) 1 (117, [some (.ref 91), some (.int i1), some (.int i2), some (.int 0)], [], (hM Z M)) (call PGM d yM_isUnder [.int (M.2 15), .int i2] (hM Z M))
          else some (some (.int (-13)), (hM Z M))
        else some (some (.int (-11)), (hM Z M))
      else bif decide (i2 < 10) then some (some (.int (-13)), (hM Z M))
        else bif inb i1 4 then bif !decide (((M.1 13) (i1).toNatClampNeg) = (i2 - 10)) then some (some (.int (-13)), (hM Z M))
            else bif inb i1 4 then some (some (.int ((M.1 14) (i1).toNatClampNeg)), (hM Z M))
              else none
          else none
    else none := (ev_eq PGM d yM_taken [] 400 _).trans rfl
set_option maxRecDepth 100000 in
theorem eM_taken_30 (d : Nat) (Z : ZT) (M : MS) (i1 : Int32) (i2 : Int32) (u3 : Option Value) (k0 : Int32) : sem PGM d yM_taken (30, [some (.ref 91), some (.int i1), some (.int i2), u3], [.int k0], (hM Z M)) =
    bif !decide (k0 = 0) then aftK (sem PGM d yM_taken) 0 (40, [some (.ref 91), some (.int i1), some (.int i2), u3], [], (hM Z M)) (call PGM d yM_takes [.ref 91, .int i1] (hM Z M))
    else some (some (.int (-1)), (hM Z M)) := (ev_eq PGM d yM_taken [] 400 _).trans rfl
set_option maxRecDepth 100000 in
theorem eM_taken_117 (d : Nat) (Z : ZT) (M : MS) (u1 : Option Value) (i2 : Int32) (u3 : Option Value) (k0 : Int32) : sem PGM d yM_taken (117, [some (.ref 91), u1, some (.int i2), u3], [.int k0], (hM Z M)) =
    bif decide (k0 = 0) then some (some (.int (-13)), (hM Z M))
    else some (some (.int (M.2 16)), (hM Z M)) := (ev_eq PGM d yM_taken [] 400 _).trans rfl
set_option maxRecDepth 100000 in
theorem eM_takes_0 (d : Nat) (Z : ZT) (M : MS) (i1 : Int32) : sem PGM d yM_takes (0, [some (.ref 91), some (.int i1), none], [], (hM Z M)) =
    bif inb i1 4 then sem PGM d yM_takes (12, [some (.ref 91), some (.int i1), some (.int ((M.1 13) (i1).toNatClampNeg))], [], (hM Z (mV M 15 (-1))))
    else none := (ev_eq PGM d yM_takes [12, 17, 43, 87] 400 _).trans rfl
set_option maxRecDepth 100000 in
theorem eM_takes_12 (d : Nat) (Z : ZT) (M : MS) (i1 : Int32) (i2 : Int32) : sem PGM d yM_takes (12, [some (.ref 91), some (.int i1), some (.int i2)], [], (hM Z M)) =
    sem PGM d yM_takes (17, [some (.ref 91), some (.int i1), some (.int i2)], [], (hM Z (mV M 16 i2))) := (ev_eq PGM d yM_takes [12, 17, 43, 87] 400 _).trans rfl
set_option maxRecDepth 100000 in
theorem eM_takes_17 (d : Nat) (Z : ZT) (M : MS) (i1 : Int32) (i2 : Int32) : sem PGM d yM_takes (17, [some (.ref 91), some (.int i1), some (.int i2)], [], (hM Z M)) =
    bif inb i1 4 then bif !decide (((M.1 12) (i1).toNatClampNeg) = 0) then bif inb i1 4 then bif !decide (((M.1 12) (i1).toNatClampNeg) = 1) then some (none, (hM Z M))
          else aftK (sem PGM d yM_takes) 1 (78, [some (.ref 91), some (.int i1), some (.int i2)], [], (hM Z M)) (call PGM d yM_isBeast [.ref 91, .int i2] (hM Z M))
        else none
      else aftK (sem PGM d yM_takes) 1 (31, [some (.ref 91), some (.int i1), some (.int i2)], [], (hM Z M)) (call PGM d yM_isPerson [.ref 91, .int i2] (hM Z M))
    else none := (ev_eq PGM d yM_takes [12, 17, 43, 87] 400 _).trans rfl
set_option maxRecDepth 100000 in
theorem eM_takes_78 (d : Nat) (Z : ZT) (M : MS) (i1 : Int32) (i2 : Int32) (k0 : Int32) : sem PGM d yM_takes (78, [some (.ref 91), some (.int i1), some (.int i2)], [.int k0], (hM Z M)) =
    bif decide (k0 = 0) then some (none, (hM Z M))
    else sem PGM d yM_takes (87, [some (.ref 91), some (.int i1), some (.int i2)], [], (hM Z (mV M 15 8))) := (ev_eq PGM d yM_takes [12, 17, 43, 87] 400 _).trans rfl
set_option maxRecDepth 100000 in
theorem eM_takes_31 (d : Nat) (Z : ZT) (M : MS) (i1 : Int32) (i2 : Int32) (k0 : Int32) : sem PGM d yM_takes (31, [some (.ref 91), some (.int i1), some (.int i2)], [.int k0], (hM Z M)) =
    bif decide (k0 = 0) then bif inb i1 4 then bif !decide (((M.1 12) (i1).toNatClampNeg) = 1) then some (none, (hM Z M))
        else aftK (sem PGM d yM_takes) 1 (78, [some (.ref 91), some (.int i1), some (.int i2)], [], (hM Z M)) (call PGM d yM_isBeast [.ref 91, .int i2] (hM Z M))
      else none
    else aftK (sem PGM d yM_takes) 1 (40, [some (.ref 91), some (.int i1), some (.int i2)], [.ref 91], (hM Z M)) (call PGM d yM_kindOf [.ref 91, .int i2] (hM Z M)) := (ev_eq PGM d yM_takes [12, 17, 43, 87] 400 _).trans rfl
set_option maxRecDepth 100000 in
theorem eM_takes_87 (d : Nat) (Z : ZT) (M : MS) (i1 : Int32) (i2 : Int32) : sem PGM d yM_takes (87, [some (.ref 91), some (.int i1), some (.int i2)], [], (hM Z M)) =
    bif inb ((179 + (3 * i2)) + 1) 437 then some (none, (hM Z (mV M 17 ((M.1 0) (((179 + (3 * i2)) + 1)).toNatClampNeg))))
    else none := (ev_eq PGM d yM_takes [12, 17, 43, 87] 400 _).trans rfl
set_option maxRecDepth 100000 in
theorem eM_takes_40 (d : Nat) (Z : ZT) (M : MS) (i1 : Int32) (i2 : Int32) (k1 : Int32) : sem PGM d yM_takes (40, [some (.ref 91), some (.int i1), some (.int i2)], [.int k1, .ref 91], (hM Z M)) =
    sem PGM d yM_takes (43, [some (.ref 91), some (.int i1), some (.int i2)], [], (hM Z (mV M 15 k1))) := (ev_eq PGM d yM_takes [12, 17, 43, 87] 400 _).trans rfl
set_option maxRecDepth 100000 in
theorem eM_takes_43 (d : Nat) (Z : ZT) (M : MS) (i1 : Int32) (i2 : Int32) : sem PGM d yM_takes (43, [some (.ref 91), some (.int i1), some (.int i2)], [], (hM Z M)) =
    bif inb ((99 + (4 * i2)) + 2) 437 then some (none, (hM Z (mV M 17 ((M.1 0) (((99 + (4 * i2)) + 2)).toNatClampNeg))))
    else none := (ev_eq PGM d yM_takes [12, 17, 43, 87] 400 _).trans rfl
set_option maxRecDepth 100000 in
theorem eM_act_0 (d : Nat) (Z : ZT) (M : MS) (i1 : Int32) (i2 : Int32) (i3 : Int32) : sem PGM d yM_act (0, [some (.ref 91), some (.int i1), some (.int i2), some (.int i3), none], [], (hM Z M)) =
    aftK (sem PGM d yM_act) 1 (9, [some (.ref 91), some (.int i1), some (.int i2), some (.int i3), none], [], (hM Z (mV M 18 0))) (call PGM d yM_isOne [.int i1] (hM Z (mV M 18 0))) := (ev_eq PGM d yM_act [45] 400 _).trans rfl
set_option maxRecDepth 100000 in
theorem eM_act_9 (d : Nat) (Z : ZT) (M : MS) (i1 : Int32) (i2 : Int32) (i3 : Int32) (u4 : Option Value) (k0 : Int32) : sem PGM d yM_act (9, [some (.ref 91), some (.int i1), some (.int i2), some (.int i3), u4], [.int k0], (hM Z M)) =
    bif decide (k0 = 0) then some (some (.int 0), (hM Z M))
    else aftK (sem PGM d yM_act) 1 (21, [some (.ref 91), some (.int i1), some (.int i2), some (.int i3), u4], [], (hM Z M)) (call PGM d yM_in [.long ((i2).toInt64), .long 0, .long 3] (hM Z M)) := (ev_eq PGM d yM_act [45] 400 _).trans rfl
set_option maxRecDepth 100000 in
theorem eM_act_21 (d : Nat) (Z : ZT) (M : MS) (i1 : Int32) (i2 : Int32) (i3 : Int32) (u4 : Option Value) (k0 : Int32) : sem PGM d yM_act (21, [some (.ref 91), some (.int i1), some (.int i2), some (.int i3), u4], [.int k0], (hM Z M)) =
    bif !decide (k0 = 0) then aftK (sem PGM d yM_act) 0 (31, [some (.ref 91), some (.int i1), some (.int i2), some (.int i3), u4], [], (hM Z M)) (call PGM d yM_takes [.ref 91, .int i1] (hM Z M))
    else some (some (.int 0), (hM Z M)) := (ev_eq PGM d yM_act [45] 400 _).trans rfl
set_option maxRecDepth 100000 in
theorem eM_act_31 (d : Nat) (Z : ZT) (M : MS) (u1 : Option Value) (i2 : Int32) (i3 : Int32) (u4 : Option Value) : sem PGM d yM_act (31, [some (.ref 91), u1, some (.int i2), some (.int i3), u4], [], (hM Z M)) =
    bif decide (0 ≤ (M.2 15)) then sem PGM d yM_act (45, [some (.ref 91), u1, some (.int i2), some (.int i3), u4], [], (hM Z (mV M 19 0)))
    else some (some (.int 0), (hM Z M)) := (ev_eq PGM d yM_act [45] 400 _).trans rfl
set_option maxRecDepth 100000 in
theorem eM_act_45 (d : Nat) (Z : ZT) (M : MS) (u1 : Option Value) (i2 : Int32) (i3 : Int32) (u4 : Option Value) : sem PGM d yM_act (45, [some (.ref 91), u1, some (.int i2), some (.int i3), u4], [], (hM Z M)) =
    bif !decide (i2 = 0) then bif !decide (i2 = 1) then bif !decide (i2 = 2) then aftK (sem PGM d yM_act) 1 (88, [some (.ref 91), u1, some (.int i2), some (.int i3), u4], [], (hM Z M)) (call PGM d yM_harmsOf [.ref 91, .int i3] (hM Z M))
        else aftK (sem PGM d yM_act) 1 (80, [some (.ref 91), u1, some (.int i2), some (.int i3), u4], [], (hM Z M)) (call PGM d yM_fallsOf [.ref 91, .int i3] (hM Z M))
      else aftK (sem PGM d yM_act) 1 (67, [some (.ref 91), u1, some (.int i2), some (.int i3), u4], [], (hM Z M)) (call PGM d yM_seesOf [.ref 91, .int i3] (hM Z M))
    else aftK (sem PGM d yM_act) 1 (54, [some (.ref 91), u1, some (.int i2), some (.int i3), u4], [], (hM Z M)) (call PGM d yM_runsOf [.ref 91, .int i3] (hM Z M)) := (ev_eq PGM d yM_act [45] 400 _).trans rfl
set_option maxRecDepth 100000 in
theorem eM_act_88 (d : Nat) (Z : ZT) (M : MS) (u1 : Option Value) (u2 : Option Value) (i3 : Int32) (u4 : Option Value) (k0 : Int32) : sem PGM d yM_act (88, [some (.ref 91), u1, u2, some (.int i3), u4], [.int k0], (hM Z M)) =
    bif decide ((M.2 19) = 0) then some (some (.int k0), (hM Z M))
    else some (some (.int (-15)), (hM Z M)) := (ev_eq PGM d yM_act [45] 400 _).trans rfl
set_option maxRecDepth 100000 in
theorem eM_act_80 (d : Nat) (Z : ZT) (M : MS) (u1 : Option Value) (u2 : Option Value) (i3 : Int32) (u4 : Option Value) (k0 : Int32) : sem PGM d yM_act (80, [some (.ref 91), u1, u2, some (.int i3), u4], [.int k0], (hM Z M)) =
    bif decide ((M.2 19) = 0) then some (some (.int k0), (hM Z M))
    else some (some (.int (-15)), (hM Z M)) := (ev_eq PGM d yM_act [45] 400 _).trans rfl
set_option maxRecDepth 100000 in
theorem eM_act_67 (d : Nat) (Z : ZT) (M : MS) (u1 : Option Value) (u2 : Option Value) (i3 : Int32) (u4 : Option Value) (k0 : Int32) : sem PGM d yM_act (67, [some (.ref 91), u1, u2, some (.int i3), u4], [.int k0], (hM Z M)) =
    bif decide ((M.2 19) = 0) then some (some (.int k0), (hM Z M))
    else some (some (.int (-15)), (hM Z M)) := (ev_eq PGM d yM_act [45] 400 _).trans rfl
set_option maxRecDepth 100000 in
theorem eM_act_54 (d : Nat) (Z : ZT) (M : MS) (u1 : Option Value) (u2 : Option Value) (i3 : Int32) (u4 : Option Value) (k0 : Int32) : sem PGM d yM_act (54, [some (.ref 91), u1, u2, some (.int i3), u4], [.int k0], (hM Z M)) =
    bif decide ((M.2 19) = 0) then some (some (.int k0), (hM Z M))
    else some (some (.int (-15)), (hM Z M)) := (ev_eq PGM d yM_act [45] 400 _).trans rfl
set_option maxRecDepth 100000 in
theorem eM_runsOf_0 (d : Nat) (Z : ZT) (M : MS) (i1 : Int32) : sem PGM d yM_runsOf (0, [some (.ref 91), some (.int i1)], [], (hM Z M)) =
    bif decide ((M.2 15) = Int32.ofInt 1) then aftK (sem PGM d yM_runsOf) 1 (57, [some (.ref 91), some (.int i1)], [], (hM Z M)) (call PGM d yM_runningRuns [.ref 91, .int i1] (hM Z M))
    else bif decide ((M.2 15) = Int32.ofInt 2) then aftK (sem PGM d yM_runsOf) 1 (107, [some (.ref 91), some (.int i1)], [], (hM Z M)) (call PGM d yM_anyRuns [.ref 91, .int i1] (hM Z M))
    else bif decide ((M.2 15) = Int32.ofInt 3) then aftK (sem PGM d yM_runsOf) 1 (107, [some (.ref 91), some (.int i1)], [], (hM Z M)) (call PGM d yM_anyRuns [.ref 91, .int i1] (hM Z M))
    else bif decide ((M.2 15) = Int32.ofInt 4) then aftK (sem PGM d yM_runsOf) 0 (64, [some (.ref 91), some (.int i1)], [], (hM Z M)) (call PGM d yM_ran [.ref 91, .int 50] (hM Z M))
    else bif decide ((M.2 15) = Int32.ofInt 5) then aftK (sem PGM d yM_runsOf) 1 (57, [some (.ref 91), some (.int i1)], [], (hM Z M)) (call PGM d yM_runningRuns [.ref 91, .int i1] (hM Z M))
    else bif decide ((M.2 15) = Int32.ofInt 6) then aftK (sem PGM d yM_runsOf) 0 (81, [some (.ref 91), some (.int i1)], [], (hM Z M)) (call PGM d yM_ran [.ref 91, .int 71] (hM Z M))
    else bif decide ((M.2 15) = Int32.ofInt 7) then aftK (sem PGM d yM_runsOf) 1 (107, [some (.ref 91), some (.int i1)], [], (hM Z M)) (call PGM d yM_anyRuns [.ref 91, .int i1] (hM Z M))
    else bif decide ((M.2 15) = Int32.ofInt 8) then aftK (sem PGM d yM_runsOf) 0 (95, [some (.ref 91), some (.int i1)], [], (hM Z M)) (call PGM d yM_ran [.ref 91, .int 90] (hM Z M))
    else aftK (sem PGM d yM_runsOf) 1 (107, [some (.ref 91), some (.int i1)], [], (hM Z M)) (call PGM d yM_anyRuns [.ref 91, .int i1] (hM Z M)) := (ev_eq PGM d yM_runsOf [] 400 _).trans rfl
set_option maxRecDepth 100000 in
theorem eM_runsOf_57 (d : Nat) (Z : ZT) (M : MS) (u0 : Option Value) (u1 : Option Value) (k0 : Int32) : sem PGM d yM_runsOf (57, [u0, u1], [.int k0], (hM Z M)) =
    some (some (.int k0), (hM Z M)) := (ev_eq PGM d yM_runsOf [] 400 _).trans rfl
set_option maxRecDepth 100000 in
theorem eM_runsOf_107 (d : Nat) (Z : ZT) (M : MS) (u0 : Option Value) (u1 : Option Value) (k0 : Int32) : sem PGM d yM_runsOf (107, [u0, u1], [.int k0], (hM Z M)) =
    some (some (.int k0), (hM Z M)) := (ev_eq PGM d yM_runsOf [] 400 _).trans rfl
set_option maxRecDepth 100000 in
theorem eM_runsOf_64 (d : Nat) (Z : ZT) (M : MS) (i1 : Int32) : sem PGM d yM_runsOf (64, [some (.ref 91), some (.int i1)], [], (hM Z M)) =
    aftK (sem PGM d yM_runsOf) 1 (69, [some (.ref 91), some (.int i1)], [], (hM Z M)) (call PGM d yM_runningRuns [.ref 91, .int i1] (hM Z M)) := (ev_eq PGM d yM_runsOf [] 400 _).trans rfl
set_option maxRecDepth 100000 in
theorem eM_runsOf_81 (d : Nat) (Z : ZT) (M : MS) (i1 : Int32) : sem PGM d yM_runsOf (81, [some (.ref 91), some (.int i1)], [], (hM Z M)) =
    aftK (sem PGM d yM_runsOf) 1 (86, [some (.ref 91), some (.int i1)], [], (hM Z M)) (call PGM d yM_anyRuns [.ref 91, .int i1] (hM Z M)) := (ev_eq PGM d yM_runsOf [] 400 _).trans rfl
set_option maxRecDepth 100000 in
theorem eM_runsOf_95 (d : Nat) (Z : ZT) (M : MS) (i1 : Int32) : sem PGM d yM_runsOf (95, [some (.ref 91), some (.int i1)], [], (hM Z M)) =
    some (some (.int ((M.2 17) - i1)), (hM Z M)) := (ev_eq PGM d yM_runsOf [] 400 _).trans rfl
set_option maxRecDepth 100000 in
theorem eM_runsOf_69 (d : Nat) (Z : ZT) (M : MS) (u1 : Option Value) (k0 : Int32) : sem PGM d yM_runsOf (69, [some (.ref 91), u1], [.int k0], (hM Z M)) =
    some (some (.int (k0 ^^^ (M.2 16))), (hM Z M)) := (ev_eq PGM d yM_runsOf [] 400 _).trans rfl
set_option maxRecDepth 100000 in
theorem eM_runsOf_86 (d : Nat) (Z : ZT) (M : MS) (u0 : Option Value) (u1 : Option Value) (k0 : Int32) : sem PGM d yM_runsOf (86, [u0, u1], [.int k0], (hM Z M)) =
    some (some (.int (k0 - 5)), (hM Z M)) := (ev_eq PGM d yM_runsOf [] 400 _).trans rfl
set_option maxRecDepth 100000 in
theorem eM_runningRuns_0 (d : Nat) (Z : ZT) (M : MS) (i1 : Int32) : sem PGM d yM_runningRuns (0, [some (.ref 91), some (.int i1)], [], (hM Z M)) =
    aftK (sem PGM d yM_runningRuns) 0 (6, [some (.ref 91), some (.int i1)], [], (hM Z M)) (call PGM d yM_ran [.ref 91, .int 20] (hM Z M)) := (ev_eq PGM d yM_runningRuns [] 400 _).trans rfl
set_option maxRecDepth 100000 in
theorem eM_runningRuns_6 (d : Nat) (Z : ZT) (M : MS) (i1 : Int32) : sem PGM d yM_runningRuns (6, [some (.ref 91), some (.int i1)], [], (hM Z M)) =
    aftK (sem PGM d yM_runningRuns) 1 (11, [some (.ref 91), some (.int i1)], [], (hM Z M)) (call PGM d yM_anyRuns [.ref 91, .int i1] (hM Z M)) := (ev_eq PGM d yM_runningRuns [] 400 _).trans rfl
set_option maxRecDepth 100000 in
theorem eM_runningRuns_11 (d : Nat) (Z : ZT) (M : MS) (u0 : Option Value) (u1 : Option Value) (k0 : Int32) : sem PGM d yM_runningRuns (11, [u0, u1], [.int k0], (hM Z M)) =
    some (some (.int (k0 * 3)), (hM Z M)) := (ev_eq PGM d yM_runningRuns [] 400 _).trans rfl
set_option maxRecDepth 100000 in
theorem eM_ran_0 (d : Nat) (Z : ZT) (M : MS) (i1 : Int32) : sem PGM d yM_ran (0, [some (.ref 91), some (.int i1)], [], (hM Z M)) =
    bif decide (30 ≤ (M.2 18)) then some (none, (hM Z M))
    else bif inb (M.2 18) 30 then sem PGM d yM_ran (19, [some (.ref 91), some (.int i1)], [], (hM Z (mA M 15 (upd (M.1 15) ((M.2 18)).toNatClampNeg i1))))
      else none := (ev_eq PGM d yM_ran [19] 400 _).trans rfl
set_option maxRecDepth 100000 in
theorem eM_ran_19 (d : Nat) (Z : ZT) (M : MS) (u1 : Option Value) : sem PGM d yM_ran (19, [some (.ref 91), u1], [], (hM Z M)) =
    some (none, (hM Z (mV M 18 ((M.2 18) + 1)))) := (ev_eq PGM d yM_ran [19] 400 _).trans rfl
set_option maxRecDepth 100000 in
theorem eM_anyRuns_0 (d : Nat) (Z : ZT) (M : MS) (i1 : Int32) : sem PGM d yM_anyRuns (0, [some (.ref 91), some (.int i1)], [], (hM Z M)) =
    aftK (sem PGM d yM_anyRuns) 0 (6, [some (.ref 91), some (.int i1)], [], (hM Z M)) (call PGM d yM_ran [.ref 91, .int 10] (hM Z M)) := (ev_eq PGM d yM_anyRuns [] 400 _).trans rfl
set_option maxRecDepth 100000 in
theorem eM_anyRuns_6 (d : Nat) (Z : ZT) (M : MS) (i1 : Int32) : sem PGM d yM_anyRuns (6, [some (.ref 91), some (.int i1)], [], (hM Z M)) =
    some (some (.int (i1 + (M.2 17))), (hM Z M)) := (ev_eq PGM d yM_anyRuns [] 400 _).trans rfl
set_option maxRecDepth 100000 in
theorem eM_seesOf_0 (d : Nat) (Z : ZT) (M : MS) (i1 : Int32) : sem PGM d yM_seesOf (0, [some (.ref 91), some (.int i1), none], [], (hM Z M)) =
    bif decide ((M.2 15) = Int32.ofInt 2) then aftK (sem PGM d yM_seesOf) 1 (53, [some (.ref 91), some (.int i1), none], [], (hM Z M)) (call PGM d yM_standingSees [.ref 91, .int i1] (hM Z M))
    else bif decide ((M.2 15) = Int32.ofInt 3) then aftK (sem PGM d yM_seesOf) 1 (113, [some (.ref 91), some (.int i1), none], [], (hM Z M)) (call PGM d yM_anySees [.ref 91, .int i1] (hM Z M))
    else bif decide ((M.2 15) = Int32.ofInt 4) then aftK (sem PGM d yM_seesOf) 1 (113, [some (.ref 91), some (.int i1), none], [], (hM Z M)) (call PGM d yM_anySees [.ref 91, .int i1] (hM Z M))
    else bif decide ((M.2 15) = Int32.ofInt 5) then aftK (sem PGM d yM_seesOf) 0 (60, [some (.ref 91), some (.int i1), none], [], (hM Z M)) (call PGM d yM_ran [.ref 91, .int 60] (hM Z M))
    else bif decide ((M.2 15) = Int32.ofInt 6) then aftK (sem PGM d yM_seesOf) 1 (113, [some (.ref 91), some (.int i1), none], [], (hM Z M)) (call PGM d yM_anySees [.ref 91, .int i1] (hM Z M))
    else bif decide ((M.2 15) = Int32.ofInt 7) then aftK (sem PGM d yM_seesOf) 0 (74, [some (.ref 91), some (.int i1), none], [], (hM Z M)) (call PGM d yM_ran [.ref 91, .int 81] (hM Z M))
    else bif decide ((M.2 15) = Int32.ofInt 8) then aftK (sem PGM d yM_seesOf) 0 (97, [some (.ref 91), some (.int i1), none], [], (hM Z M)) (call PGM d yM_ran [.ref 91, .int 91] (hM Z M))
    else aftK (sem PGM d yM_seesOf) 1 (113, [some (.ref 91), some (.int i1), none], [], (hM Z M)) (call PGM d yM_anySees [.ref 91, .int i1] (hM Z M)) := (ev_eq PGM d yM_seesOf [] 400 _).trans rfl
set_option maxRecDepth 100000 in
theorem eM_seesOf_53 (d : Nat) (Z : ZT) (M : MS) (u0 : Option Value) (i1 : Int32) (u2 : Option Value) (k0 : Int32) : sem PGM d yM_seesOf (53, [u0, some (.int i1), u2], [.int k0], (hM Z M)) =
    some (some (.int k0), (hM Z M)) := (ev_eq PGM d yM_seesOf [] 400 _).trans rfl
set_option maxRecDepth 100000 in
theorem eM_seesOf_113 (d : Nat) (Z : ZT) (M : MS) (u0 : Option Value) (i1 : Int32) (u2 : Option Value) (k0 : Int32) : sem PGM d yM_seesOf (113, [u0, some (.int i1), u2], [.int k0], (hM Z M)) =
    some (some (.int k0), (hM Z M)) := (ev_eq PGM d yM_seesOf [] 400 _).trans rfl
set_option maxRecDepth 100000 in
theorem eM_seesOf_60 (d : Nat) (Z : ZT) (M : MS) (i1 : Int32) (u2 : Option Value) : sem PGM d yM_seesOf (60, [some (.ref 91), some (.int i1), u2], [], (hM Z M)) =
    aftK (sem PGM d yM_seesOf) 1 (66, [some (.ref 91), some (.int i1), u2], [.int 0], (hM Z M)) (call PGM d yM_anySees [.ref 91, .int i1] (hM Z M)) := (ev_eq PGM d yM_seesOf [] 400 _).trans rfl
set_option maxRecDepth 100000 in
theorem eM_seesOf_74 (d : Nat) (Z : ZT) (M : MS) (i1 : Int32) (u2 : Option Value) : sem PGM d yM_seesOf (74, [some (.ref 91), some (.int i1), u2], [], (hM Z M)) =
    aftK (sem PGM d yM_seesOf) 1 (79, [some (.ref 91), some (.int i1), u2], [], (hM Z M)) (call PGM d yM_standingSees [.ref 91, .int i1] (hM Z M)) := (ev_eq PGM d yM_seesOf [] 400 _).trans rfl
set_option maxRecDepth 100000 in
theorem eM_seesOf_97 (d : Nat) (Z : ZT) (M : MS) (i1 : Int32) (u2 : Option Value) : sem PGM d yM_seesOf (97, [some (.ref 91), some (.int i1), u2], [], (hM Z M)) =
    aftK (sem PGM d yM_seesOf) 1 (102, [some (.ref 91), some (.int i1), u2], [], (hM Z M)) (call PGM d yM_runsOf [.ref 91, .int i1] (hM Z M)) := (ev_eq PGM d yM_seesOf [] 400 _).trans rfl
set_option maxRecDepth 100000 in
theorem eM_seesOf_66 (d : Nat) (Z : ZT) (M : MS) (u0 : Option Value) (i1 : Int32) (u2 : Option Value) (k0 : Int32) (k1 : Int32) : sem PGM d yM_seesOf (66, [u0, some (.int i1), u2], [.int k1, .int k0], (hM Z M)) =
    some (some (.int (k0 - k1)), (hM Z M)) := (ev_eq PGM d yM_seesOf [] 400 _).trans rfl
set_option maxRecDepth 100000 in
theorem eM_seesOf_79 (d : Nat) (Z : ZT) (M : MS) (i1 : Int32) (u2 : Option Value) (k0 : Int32) : sem PGM d yM_seesOf (79, [some (.ref 91), some (.int i1), u2], [.int k0], (hM Z M)) =
    aftK (sem PGM d yM_seesOf) 1 (89, [some (.ref 91), some (.int i1), some (.int k0)], [.int k0], (hM Z M)) (call PGM d yM_runsOf [.ref 91, .int (M.2 16)] (hM Z M)) := (ev_eq PGM d yM_seesOf [] 400 _).trans rfl
set_option maxRecDepth 100000 in
theorem eM_seesOf_102 (d : Nat) (Z : ZT) (M : MS) (i1 : Int32) (u2 : Option Value) (k0 : Int32) : sem PGM d yM_seesOf (102, [some (.ref 91), some (.int i1), u2], [.int k0], (hM Z M)) =
    some (some (.int (k0 * (M.2 16))), (hM Z M)) := (ev_eq PGM d yM_seesOf [] 400 _).trans rfl
set_option maxRecDepth 100000 in
theorem eM_seesOf_89 (d : Nat) (Z : ZT) (M : MS) (u0 : Option Value) (i1 : Int32) (u2 : Option Value) (k0 : Int32) (k1 : Int32) : sem PGM d yM_seesOf (89, [u0, some (.int i1), u2], [.int k1, .int k0], (hM Z M)) =
    some (some (.int (k0 + k1)), (hM Z M)) := (ev_eq PGM d yM_seesOf [] 400 _).trans rfl
set_option maxRecDepth 100000 in
theorem eM_standingSees_0 (d : Nat) (Z : ZT) (M : MS) (i1 : Int32) : sem PGM d yM_standingSees (0, [some (.ref 91), some (.int i1)], [], (hM Z M)) =
    aftK (sem PGM d yM_standingSees) 0 (6, [some (.ref 91), some (.int i1)], [], (hM Z M)) (call PGM d yM_ran [.ref 91, .int 30] (hM Z M)) := (ev_eq PGM d yM_standingSees [] 400 _).trans rfl
set_option maxRecDepth 100000 in
theorem eM_standingSees_6 (d : Nat) (Z : ZT) (M : MS) (i1 : Int32) : sem PGM d yM_standingSees (6, [some (.ref 91), some (.int i1)], [], (hM Z M)) =
    aftK (sem PGM d yM_standingSees) 1 (11, [some (.ref 91), some (.int i1)], [], (hM Z M)) (call PGM d yM_anySees [.ref 91, .int i1] (hM Z M)) := (ev_eq PGM d yM_standingSees [] 400 _).trans rfl
set_option maxRecDepth 100000 in
theorem eM_standingSees_11 (d : Nat) (Z : ZT) (M : MS) (u1 : Option Value) (k0 : Int32) : sem PGM d yM_standingSees (11, [some (.ref 91), u1], [.int k0], (hM Z M)) =
    some (some (.int (k0 - (M.2 17))), (hM Z M)) := (ev_eq PGM d yM_standingSees [] 400 _).trans rfl
set_option maxRecDepth 100000 in
theorem eM_anySees_0 (d : Nat) (Z : ZT) (M : MS) (i1 : Int32) : sem PGM d yM_anySees (0, [some (.ref 91), some (.int i1)], [], (hM Z M)) =
    aftK (sem PGM d yM_anySees) 0 (6, [some (.ref 91), some (.int i1)], [], (hM Z M)) (call PGM d yM_ran [.ref 91, .int 11] (hM Z M)) := (ev_eq PGM d yM_anySees [] 400 _).trans rfl
set_option maxRecDepth 100000 in
theorem eM_anySees_6 (d : Nat) (Z : ZT) (M : MS) (i1 : Int32) : sem PGM d yM_anySees (6, [some (.ref 91), some (.int i1)], [], (hM Z M)) =
    aftK (sem PGM d yM_anySees) 1 (11, [some (.ref 91), some (.int i1)], [], (hM Z M)) (call PGM d yM_runsOf [.ref 91, .int i1] (hM Z M)) := (ev_eq PGM d yM_anySees [] 400 _).trans rfl
set_option maxRecDepth 100000 in
theorem eM_anySees_11 (d : Nat) (Z : ZT) (M : MS) (u0 : Option Value) (u1 : Option Value) (k0 : Int32) : sem PGM d yM_anySees (11, [u0, u1], [.int k0], (hM Z M)) =
    some (some (.int (k0 * 2)), (hM Z M)) := (ev_eq PGM d yM_anySees [] 400 _).trans rfl
