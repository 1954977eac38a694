/-! Equations of blocks, by wip/whole/gen/alleq.py. -/
set_option maxRecDepth 100000 in
theorem eM_goes_0 (d : Nat) (Z : ZT) (M : MS)  : sem PGM d yM_goes (0, [some (.ref 91), none], [], (hM Z M)) =
    sem PGM d yM_goes (10, [some (.ref 91), none], [], (hM Z (mA M 0 (upd (M.1 0) 3 (((M.1 0) 3) + 1))))) := (ev_eq PGM d yM_goes [10, 12, 59] 400 _).trans rfl
set_option maxRecDepth 100000 in
theorem eM_goes_10 (d : Nat) (Z : ZT) (M : MS) (u1 : Option Value) : sem PGM d yM_goes (10, [some (.ref 91), u1], [], (hM Z M)) =
    sem PGM d yM_goes (12, [some (.ref 91), some (.int 0)], [], (hM Z M)) := (ev_eq PGM d yM_goes [10, 12, 59] 400 _).trans rfl
set_option maxRecDepth 100000 in
theorem eM_goes_12 (d : Nat) (Z : ZT) (M : MS) (i1 : Int32) : sem PGM d yM_goes (12, [some (.ref 91), some (.int i1)], [], (hM Z M)) =
    bif decide (((M.1 0) 2) ≤ i1) then sem PGM d yM_goes (59, [some (.ref 91), some (.int 0)], [], (hM Z M))
    else aftK (sem PGM d yM_goes) 1 (27, [some (.ref 91), some (.int i1)], [], (hM Z M)) (call PGM d yM_whereBeast [.ref 91, .int i1] (hM Z M)) := (ev_eq PGM d yM_goes [10, 12, 59] 400 _).trans rfl
set_option maxRecDepth 100000 in
theorem eM_goes_59 (d : Nat) (Z : ZT) (M : MS) (i1 : Int32) : sem PGM d yM_goes (59, [some (.ref 91), some (.int i1)], [], (hM Z M)) =
    bif decide (((M.1 0) 1) ≤ i1) then aftK (sem PGM d yM_goes) 1 (92, [some (.ref 91), some (.int i1)], [], (hM Z M)) (call PGM d yM_harms [.ref 91] (hM Z M))
    else aftK (sem PGM d yM_goes) 1 (74, [some (.ref 91), some (.int i1)], [], (hM Z M)) (call PGM d yM_whereIs [.ref 91, .int i1] (hM Z M)) := (ev_eq PGM d yM_goes [10, 12, 59] 400 _).trans rfl
set_option maxRecDepth 100000 in
theorem eM_goes_27 (d : Nat) (Z : ZT) (M : MS) (i1 : Int32) (k0 : Int32) : sem PGM d yM_goes (27, [some (.ref 91), some (.int i1)], [.int k0], (hM Z M)) =
    bif decide (k0 < 0) then sem PGM d yM_goes (12, [some (.ref 91), some (.int (i1 + 1))], [], (hM Z M))
    else aftK (sem PGM d yM_goes) 1 (35, [some (.ref 91), some (.int i1)], [], (hM Z M)) (call PGM d yM_isAlone [.ref 91, .int i1] (hM Z M)) := (ev_eq PGM d yM_goes [10, 12, 59] 400 _).trans rfl
set_option maxRecDepth 100000 in
theorem eM_goes_92 (d : Nat) (Z : ZT) (M : MS) (u1 : Option Value) (k0 : Int32) : sem PGM d yM_goes (92, [some (.ref 91), u1], [.int k0], (hM Z M)) =
    aftK (sem PGM d yM_goes) 0 (97, [some (.ref 91), some (.int k0)], [], (hM Z M)) (call PGM d yM_heaps [.ref 91] (hM Z M)) := (ev_eq PGM d yM_goes [10, 12, 59] 400 _).trans rfl
set_option maxRecDepth 100000 in
theorem eM_goes_74 (d : Nat) (Z : ZT) (M : MS) (i1 : Int32) (k0 : Int32) : sem PGM d yM_goes (74, [some (.ref 91), some (.int i1)], [.int k0], (hM Z M)) =
    bif decide (k0 < 0) then sem PGM d yM_goes (59, [some (.ref 91), some (.int (i1 + 1))], [], (hM Z M))
    else aftK (sem PGM d yM_goes) 0 (82, [some (.ref 91), some (.int i1)], [], (hM Z M)) (call PGM d yM_does [.ref 91, .int i1] (hM Z M)) := (ev_eq PGM d yM_goes [10, 12, 59] 400 _).trans rfl
set_option maxRecDepth 100000 in
theorem eM_goes_35 (d : Nat) (Z : ZT) (M : MS) (i1 : Int32) (k0 : Int32) : sem PGM d yM_goes (35, [some (.ref 91), some (.int i1)], [.int k0], (hM Z M)) =
    bif decide (k0 = 0) then aftK (sem PGM d yM_goes) 0 (51, [some (.ref 91), some (.int i1)], [], (hM Z M)) (call PGM d yM_herds [.ref 91, .int i1] (hM Z M))
    else aftK (sem PGM d yM_goes) 0 (43, [some (.ref 91), some (.int i1)], [], (hM Z M)) (call PGM d yM_stalks [.ref 91, .int i1] (hM Z M)) := (ev_eq PGM d yM_goes [10, 12, 59] 400 _).trans rfl
set_option maxRecDepth 100000 in
theorem eM_goes_97 (d : Nat) (Z : ZT) (M : MS) (i1 : Int32) : sem PGM d yM_goes (97, [some (.ref 91), some (.int i1)], [], (hM Z M)) =
    some (some (.int i1), (hM Z M)) := (ev_eq PGM d yM_goes [10, 12, 59] 400 _).trans rfl
set_option maxRecDepth 100000 in
theorem eM_goes_82 (d : Nat) (Z : ZT) (M : MS) (i1 : Int32) : sem PGM d yM_goes (82, [some (.ref 91), some (.int i1)], [], (hM Z M)) =
    sem PGM d yM_goes (59, [some (.ref 91), some (.int (i1 + 1))], [], (hM Z M)) := (ev_eq PGM d yM_goes [10, 12, 59] 400 _).trans rfl
set_option maxRecDepth 100000 in
theorem eM_goes_51 (d : Nat) (Z : ZT) (M : MS) (i1 : Int32) : sem PGM d yM_goes (51, [some (.ref 91), some (.int i1)], [], (hM Z M)) =
    sem PGM d yM_goes (12, [some (.ref 91), some (.int (i1 + 1))], [], (hM Z M)) := (ev_eq PGM d yM_goes [10, 12, 59] 400 _).trans rfl
set_option maxRecDepth 100000 in
theorem eM_goes_43 (d : Nat) (Z : ZT) (M : MS) (i1 : Int32) : sem PGM d yM_goes (43, [some (.ref 91), some (.int i1)], [], (hM Z M)) =
    sem PGM d yM_goes (12, [some (.ref 91), some (.int (i1 + 1))], [], (hM Z M)) := (ev_eq PGM d yM_goes [10, 12, 59] 400 _).trans rfl
set_option maxRecDepth 100000 in
theorem eM_stalks_0 (d : Nat) (Z : ZT) (M : MS) (i1 : Int32) : sem PGM d yM_stalks (0, [some (.ref 91), some (.int i1), none, none, none, none, none, none], [], (hM Z M)) =
    sem PGM d yM_stalks (14, [some (.ref 91), some (.int i1), some (.int (179 + (3 * i1))), some (.int 99), some (.int 0), none, none, none], [], (hM Z M)) := (ev_eq PGM d yM_stalks [14] 400 _).trans rfl
set_option maxRecDepth 100000 in
theorem eM_stalks_14 (d : Nat) (Z : ZT) (M : MS) (i1 : Int32) (i2 : Int32) (i3 : Int32) (i4 : Int32) (u7 : Option Value) : sem PGM d yM_stalks (14, [some (.ref 91), some (.int i1), some (.int i2), some (.int i3), some (.int i4), none, none, u7], [], (hM Z M)) =
    bif decide (((M.1 0) 1) ≤ i4) then bif inb i2 437 then bif decide (i3 = 99) then bif inb i2 437 then some (none, (hM Z (mA M 0 (upd (M.1 0) (i2).toNatClampNeg (((M.1 0) (i2).toNatClampNeg) + 0)))))
          else none
        else bif !decide (i3 = 0) then bif decide (i3 ≤ 0) then bif inb i2 437 then some (none, (hM Z (mA M 0 (upd (M.1 0) (i2).toNatClampNeg (((M.1 0) (i2).toNatClampNeg) + (-1))))))
              else none
            else bif inb i2 437 then some (none, (hM Z (mA M 0 (upd (M.1 0) (i2).toNatClampNeg (((M.1 0) (i2).toNatClampNeg) + 1)))))
              else none
          else bif inb i2 437 then some (none, (hM Z (mA M 0 (upd (M.1 0) (i2).toNatClampNeg (((M.1 0) (i2).toNatClampNeg) + 0)))))
            else none
      else none
    else aftK (sem PGM d yM_stalks) 1 (31, [some (.ref 91), some (.int i1), some (.int i2), some (.int i3), some (.int i4), none, none, u7], [], (hM Z M)) (call PGM d yM_whereIs [.ref 91, .int i4] (hM Z M)) := (ev_eq PGM d yM_stalks [14] 400 _).trans rfl
set_option maxRecDepth 100000 in
theorem eM_stalks_31 (d : Nat) (Z : ZT) (M : MS) (i1 : Int32) (i2 : Int32) (i3 : Int32) (i4 : Int32) (u7 : Option Value) (k0 : Int32) : sem PGM d yM_stalks (31, [some (.ref 91), some (.int i1), some (.int i2), some (.int i3), some (.int i4), none, none, u7], [.int k0], (hM Z M)) =
    bif inb i2 437 then bif decide (0 ≤ (k0 - ((M.1 0) (i2).toNatClampNeg))) then bif decide (0 ≤ i3) then aftK (sem PGM d yM_stalks) 1 (75, [some (.ref 91), some (.int i1), some (.int i2), some (.int i3), some (.int i4), some (.int (k0 - ((M.1 0) (i2).toNatClampNeg))), some (.int (k0 - ((M.1 0) (i2).toNatClampNeg))), some (.int i3)], [], (hM Z M)) (call PGM d yM_whereIs [.ref 91, .int i4] (hM Z M))
        else aftK (sem PGM d yM_stalks) 1 (75, [some (.ref 91), some (.int i1), some (.int i2), some (.int i3), some (.int i4), some (.int (k0 - ((M.1 0) (i2).toNatClampNeg))), some (.int (k0 - ((M.1 0) (i2).toNatClampNeg))), some (.int (0 - i3))], [], (hM Z M)) (call PGM d yM_whereIs [.ref 91, .int i4] (hM Z M))
      else bif decide (0 ≤ i3) then aftK (sem PGM d yM_stalks) 1 (75, [some (.ref 91), some (.int i1), some (.int i2), some (.int i3), some (.int i4), some (.int (k0 - ((M.1 0) (i2).toNatClampNeg))), some (.int (0 - (k0 - ((M.1 0) (i2).toNatClampNeg)))), some (.int i3)], [], (hM Z M)) (call PGM d yM_whereIs [.ref 91, .int i4] (hM Z M))
        else aftK (sem PGM d yM_stalks) 1 (75, [some (.ref 91), some (.int i1), some (.int i2), some (.int i3), some (.int i4), some (.int (k0 - ((M.1 0) (i2).toNatClampNeg))), some (.int (0 - (k0 - ((M.1 0) (i2).toNatClampNeg)))), some (.int (0 - i3))], [], (hM Z M)) (call PGM d yM_whereIs [.ref 91, .int i4] (hM Z M))
    else none := (ev_eq PGM d yM_stalks [14] 400 _).trans rfl
set_option maxRecDepth 100000 in
theorem eM_stalks_75 (d : Nat) (Z : ZT) (M : MS) (i1 : Int32) (i2 : Int32) (i3 : Int32) (i4 : Int32) (i5 : Int32) (i6 : Int32) (i7 : Int32) (k0 : Int32) : sem PGM d yM_stalks (75, [some (.ref 91), some (.int i1), some (.int i2), some (.int i3), some (.int i4), some (.int i5), some (.int i6), some (.int i7)], [.int k0], (hM Z M)) =
    bif decide (k0 < 0) then sem PGM d yM_stalks (14, [some (.ref 91), some (.int i1), some (.int i2), some (.int i3), some (.int (i4 + 1)), some (.int i5), some (.int i6), some (.int i7)], [], (hM Z M))
    else bif decide (((M.1 0) 5) < i6) then sem PGM d yM_stalks (14, [some (.ref 91), some (.int i1), some (.int i2), some (.int i3), some (.int (i4 + 1)), some (.int i5), some (.int i6), some (.int i7)], [], (hM Z M))
      else bif decide (i6 < i7) then sem PGM d yM_stalks (14, [some (.ref 91), some (.int i1), some (.int i2), some (.int i5), some (.int (i4 + 1)), some (.int i5), some (.int i6), some (.int i7)], [], (hM Z M))
        else bif !decide (i6 = i7) then sem PGM d yM_stalks (14, [some (.ref 91), some (.int i1), some (.int i2), some (.int i3), some (.int (i4 + 1)), some (.int i5), some (.int i6), some (.int i7)], [], (hM Z M))
          else bif decide (i5 ≤ i3) then sem PGM d yM_stalks (14, [some (.ref 91), some (.int i1), some (.int i2), some (.int i3), some (.int (i4 + 1)), some (.int i5), some (.int i6), some (.int i7)], [], (hM Z M))
            else sem PGM d yM_stalks (14, [some (.ref 91), some (.int i1), some (.int i2), some (.int i5), some (.int (i4 + 1)), some (.int i5), some (.int i6), some (.int i7)], [], (hM Z M)) := (ev_eq PGM d yM_stalks [14] 400 _).trans rfl
set_option maxRecDepth 100000 in
theorem eM_stalks_14x (d : Nat) (Z : ZT) (M : MS) (i1 : Int32) (i2 : Int32) (i3 : Int32) (i4 : Int32) (i5 : Int32) (i6 : Int32) (u7 : Option Value) : sem PGM d yM_stalks (14, [some (.ref 91), some (.int i1), some (.int i2), some (.int i3), some (.int i4), some (.int i5), some (.int i6), u7], [], (hM Z M)) =
    bif decide (((M.1 0) 1) ≤ i4) then bif inb i2 437 then bif decide (i3 = 99) then bif inb i2 437 then some (none, (hM Z (mA M 0 (upd (M.1 0) (i2).toNatClampNeg (((M.1 0) (i2).toNatClampNeg) + 0)))))
          else none
        else bif !decide (i3 = 0) then bif decide (i3 ≤ 0) then bif inb i2 437 then some (none, (hM Z (mA M 0 (upd (M.1 0) (i2).toNatClampNeg (((M.1 0) (i2).toNatClampNeg) + (-1))))))
              else none
            else bif inb i2 437 then some (none, (hM Z (mA M 0 (upd (M.1 0) (i2).toNatClampNeg (((M.1 0) (i2).toNatClampNeg) + 1)))))
              else none
          else bif inb i2 437 then some (none, (hM Z (mA M 0 (upd (M.1 0) (i2).toNatClampNeg (((M.1 0) (i2).toNatClampNeg) + 0)))))
            else none
      else none
    else aftK (sem PGM d yM_stalks) 1 (31, [some (.ref 91), some (.int i1), some (.int i2), some (.int i3), some (.int i4), some (.int i5), some (.int i6), u7], [], (hM Z M)) (call PGM d yM_whereIs [.ref 91, .int i4] (hM Z M)) := (ev_eq PGM d yM_stalks [14] 400 _).trans rfl
set_option maxRecDepth 100000 in
theorem eM_stalks_31x (d : Nat) (Z : ZT) (M : MS) (i1 : Int32) (i2 : Int32) (i3 : Int32) (i4 : Int32) (i5 : Int32) (i6 : Int32) (u7 : Option Value) (k0 : Int32) : sem PGM d yM_stalks (31, [some (.ref 91), some (.int i1), some (.int i2), some (.int i3), some (.int i4), some (.int i5), some (.int i6), u7], [.int k0], (hM Z M)) =
    bif inb i2 437 then bif decide (0 ≤ (k0 - ((M.1 0) (i2).toNatClampNeg))) then bif decide (0 ≤ i3) then aftK (sem PGM d yM_stalks) 1 (75, [some (.ref 91), some (.int i1), some (.int i2), some (.int i3), some (.int i4), some (.int (k0 - ((M.1 0) (i2).toNatClampNeg))), some (.int (k0 - ((M.1 0) (i2).toNatClampNeg))), some (.int i3)], [], (hM Z M)) (call PGM d yM_whereIs [.ref 91, .int i4] (hM Z M))
        else aftK (sem PGM d yM_stalks) 1 (75, [some (.ref 91), some (.int i1), some (.int i2), some (.int i3), some (.int i4), some (.int (k0 - ((M.1 0) (i2).toNatClampNeg))), some (.int (k0 - ((M.1 0) (i2).toNatClampNeg))), some (.int (0 - i3))], [], (hM Z M)) (call PGM d yM_whereIs [.ref 91, .int i4] (hM Z M))
      else bif decide (0 ≤ i3) then aftK (sem PGM d yM_stalks) 1 (75, [some (.ref 91), some (.int i1), some (.int i2), some (.int i3), some (.int i4), some (.int (k0 - ((M.1 0) (i2).toNatClampNeg))), some (.int (0 - (k0 - ((M.1 0) (i2).toNatClampNeg)))), some (.int i3)], [], (hM Z M)) (call PGM d yM_whereIs [.ref 91, .int i4] (hM Z M))
        else aftK (sem PGM d yM_stalks) 1 (75, [some (.ref 91), some (.int i1), some (.int i2), some (.int i3), some (.int i4), some (.int (k0 - ((M.1 0) (i2).toNatClampNeg))), some (.int (0 - (k0 - ((M.1 0) (i2).toNatClampNeg)))), some (.int (0 - i3))], [], (hM Z M)) (call PGM d yM_whereIs [.ref 91, .int i4] (hM Z M))
    else none := (ev_eq PGM d yM_stalks [14] 400 _).trans rfl
set_option maxRecDepth 100000 in
theorem eM_herds_0 (d : Nat) (Z : ZT) (M : MS) (i1 : Int32) : sem PGM d yM_herds (0, [some (.ref 91), some (.int i1), none, none], [], (hM Z M)) =
    sem PGM d yM_herds (10, [some (.ref 91), some (.int i1), some (.int (179 + (3 * i1))), some (.int 0)], [], (hM Z M)) := (ev_eq PGM d yM_herds [10, 52, 75, 118, 164] 400 _).trans rfl
set_option maxRecDepth 100000 in
theorem eM_herds_10 (d : Nat) (Z : ZT) (M : MS) (i1 : Int32) (i2 : Int32) (i3 : Int32) : sem PGM d yM_herds (10, [some (.ref 91), some (.int i1), some (.int i2), some (.int i3)], [], (hM Z M)) =
    bif inb (i2 + 1) 437 then bif decide (((M.1 0) ((i2 + 1)).toNatClampNeg) ≤ i3) then some (none, (hM Z M))
      else bif inb i2 437 then bif decide (((M.1 0) (i2).toNatClampNeg) < 0) then some (none, (hM Z M))
          else bif inb (i2 + 2) 437 then bif !decide (((M.1 0) ((i2 + 2)).toNatClampNeg) = 0) then some (none, (hM Z M))
              else bif inb i2 437 then bif inb i2 437 then sem PGM d yM_herds (52, [some (.ref 91), some (.int i1), some (.int i2), some (.int i3)], [], (hM Z (mA M 0 (upd (M.1 0) (i2).toNatClampNeg (((M.1 0) (i2).toNatClampNeg) + 1)))))
                  else none
                else none
            else none
        else none
    else none := (ev_eq PGM d yM_herds [10, 52, 75, 118, 164] 400 _).trans rfl
set_option maxRecDepth 100000 in
theorem eM_herds_52 (d : Nat) (Z : ZT) (M : MS) (i1 : Int32) (i2 : Int32) (i3 : Int32) : sem PGM d yM_herds (52, [some (.ref 91), some (.int i1), some (.int i2), some (.int i3)], [], (hM Z M)) =
    bif inb i2 437 then bif decide (((M.1 0) (i2).toNatClampNeg) < ((M.1 0) 0)) then bif inb i2 437 then bif inb ((9 + (3 * ((M.1 0) (i2).toNatClampNeg))) + 1) 437 then bif decide (((M.1 0) (((9 + (3 * ((M.1 0) (i2).toNatClampNeg))) + 1)).toNatClampNeg) ≤ 0) then sem PGM d yM_herds (164, [some (.ref 91), some (.int i1), some (.int i2), some (.int i3)], [], (hM Z M))
            else sem PGM d yM_herds (118, [some (.ref 91), some (.int i1), some (.int i2), some (.int i3)], [], (hM Z (mA M 0 (upd (M.1 0) 4 ((((M.1 0) 4) * 1103515245) + 12345)))))
          else none
        else none
      else bif inb i2 437 then sem PGM d yM_herds (75, [some (.ref 91), some (.int i1), some (.int i2), some (.int i3)], [], (hM Z (mA M 0 (upd (M.1 0) (i2).toNatClampNeg (-9)))))
        else none
    else none := (ev_eq PGM d yM_herds [10, 52, 75, 118, 164] 400 _).trans rfl
set_option maxRecDepth 100000 in
theorem eM_herds_164 (d : Nat) (Z : ZT) (M : MS) (i1 : Int32) (i2 : Int32) (i3 : Int32) : sem PGM d yM_herds (164, [some (.ref 91), some (.int i1), some (.int i2), some (.int i3)], [], (hM Z M)) =
    sem PGM d yM_herds (10, [some (.ref 91), some (.int i1), some (.int i2), some (.int (i3 + 1))], [], (hM Z M)) := (ev_eq PGM d yM_herds [10, 52, 75, 118, 164] 400 _).trans rfl
set_option maxRecDepth 100000 in
theorem eM_herds_118 (d : Nat) (Z : ZT) (M : MS) (i1 : Int32) (i2 : Int32) (i3 : Int32) : sem PGM d yM_herds (118, [some (.ref 91), some (.int i1), some (.int i2), some (.int i3)], [], (hM Z M)) =
    bif inb i2 437 then bif inb ((9 + (3 * ((M.1 0) (i2).toNatClampNeg))) + 1) 437 then bif decide (((M.1 0) (((9 + (3 * ((M.1 0) (i2).toNatClampNeg))) + 1)).toNatClampNeg) ≤ ((((((M.1 0) 4)).toUInt32 >>> (((16 : Int32)).toUInt32 &&& Int32.toUInt32 31)).toInt32) - (((((M.1 0) 4)).toUInt32 >>> (((16 : Int32)).toUInt32 &&& Int32.toUInt32 31)).toInt32) / 8 * 8)) then bif inb (i2 + 2) 437 then sem PGM d yM_herds (164, [some (.ref 91), some (.int i1), some (.int i2), some (.int i3)], [], (hM Z (mA M 0 (upd (M.1 0) ((i2 + 2)).toNatClampNeg 0))))
          else none
        else bif inb (i2 + 2) 437 then sem PGM d yM_herds (164, [some (.ref 91), some (.int i1), some (.int i2), some (.int i3)], [], (hM Z (mA M 0 (upd (M.1 0) ((i2 + 2)).toNatClampNeg 1))))
          else none
      else none
    else none := (ev_eq PGM d yM_herds [10, 52, 75, 118, 164] 400 _).trans rfl
set_option maxRecDepth 100000 in
theorem eM_herds_75 (d : Nat) (Z : ZT) (M : MS) (i1 : Int32) (i2 : Int32) (i3 : Int32) : sem PGM d yM_herds (75, [some (.ref 91), some (.int i1), some (.int i2), some (.int i3)], [], (hM Z M)) =
    sem PGM d yM_herds (164, [some (.ref 91), some (.int i1), some (.int i2), some (.int i3)], [], (hM Z M)) := (ev_eq PGM d yM_herds [10, 52, 75, 118, 164] 400 _).trans rfl
set_option maxRecDepth 100000 in
theorem eM_does_0 (d : Nat) (Z : ZT) (M : MS) (i1 : Int32) : sem PGM d yM_does (0, [some (.ref 91), some (.int i1), none, none, none], [], (hM Z M)) =
    aftK (sem PGM d yM_does) 1 (12, [some (.ref 91), some (.int i1), some (.int (99 + (4 * i1))), none, none], [], (hM Z M)) (call PGM d yM_clauseOf [.ref 91, .int i1] (hM Z M)) := (ev_eq PGM d yM_does [] 400 _).trans rfl
set_option maxRecDepth 100000 in
theorem eM_does_12 (d : Nat) (Z : ZT) (M : MS) (i1 : Int32) (i2 : Int32) (u4 : Option Value) (k0 : Int32) : sem PGM d yM_does (12, [some (.ref 91), some (.int i1), some (.int i2), none, u4], [.int k0], (hM Z M)) =
    bif decide (k0 < 0) then bif inb i2 437 then aftK (sem PGM d yM_does) 1 (44, [some (.ref 91), some (.int i1), some (.int i2), some (.int k0), u4], [], (hM Z M)) (call PGM d yM_isUnder [.int ((M.1 0) (i2).toNatClampNeg), .int 1] (hM Z M))
      else none
    else bif inb ((197 + (5 * k0)) + 1) 437 then bif !decide (((M.1 0) (((197 + (5 * k0)) + 1)).toNatClampNeg) = 2) then bif decide (((M.1 0) (((197 + (5 * k0)) + 1)).toNatClampNeg) = 0) then aftK (sem PGM d yM_does) 0 (113, [some (.ref 91), some (.int i1), some (.int i2), some (.int k0), some (.int ((M.1 0) (((197 + (5 * k0)) + 1)).toNatClampNeg))], [], (hM Z M)) (call PGM d yM_runs [.ref 91, .int i1] (hM Z M))
          else bif !decide (((M.1 0) (((197 + (5 * k0)) + 1)).toNatClampNeg) = 2) then bif !decide (((M.1 0) (((197 + (5 * k0)) + 1)).toNatClampNeg) = 3) then some (none, (hM Z M))
              else bif inb i2 437 then aftK (sem PGM d yM_does) 1 (132, [some (.ref 91), some (.int i1), some (.int i2), some (.int k0), some (.int ((M.1 0) (((197 + (5 * k0)) + 1)).toNatClampNeg))], [], (hM Z M)) (call PGM d yM_isUnder [.int ((M.1 0) (i2).toNatClampNeg), .int 3] (hM Z M))
                else none
            else aftK (sem PGM d yM_does) 0 (113, [some (.ref 91), some (.int i1), some (.int i2), some (.int k0), some (.int ((M.1 0) (((197 + (5 * k0)) + 1)).toNatClampNeg))], [], (hM Z M)) (call PGM d yM_runs [.ref 91, .int i1] (hM Z M))
        else bif inb (i2 + 1) 437 then bif inb ((9 + (3 * ((M.1 0) ((i2 + 1)).toNatClampNeg))) + 2) 437 then bif !decide (((M.1 0) (((9 + (3 * ((M.1 0) ((i2 + 1)).toNatClampNeg))) + 2)).toNatClampNeg) = 1) then bif decide (((M.1 0) (((197 + (5 * k0)) + 1)).toNatClampNeg) = 0) then aftK (sem PGM d yM_does) 0 (113, [some (.ref 91), some (.int i1), some (.int i2), some (.int k0), some (.int ((M.1 0) (((197 + (5 * k0)) + 1)).toNatClampNeg))], [], (hM Z M)) (call PGM d yM_runs [.ref 91, .int i1] (hM Z M))
                else bif !decide (((M.1 0) (((197 + (5 * k0)) + 1)).toNatClampNeg) = 2) then bif !decide (((M.1 0) (((197 + (5 * k0)) + 1)).toNatClampNeg) = 3) then some (none, (hM Z M))
                    else bif inb i2 437 then aftK (sem PGM d yM_does) 1 (132, [some (.ref 91), some (.int i1), some (.int i2), some (.int k0), some (.int ((M.1 0) (((197 + (5 * k0)) + 1)).toNatClampNeg))], [], (hM Z M)) (call PGM d yM_isUnder [.int ((M.1 0) (i2).toNatClampNeg), .int 3] (hM Z M))
                      else none
                  else aftK (sem PGM d yM_does) 0 (113, [some (.ref 91), some (.int i1), some (.int i2), some (.int k0), some (.int ((M.1 0) (((197 + (5 * k0)) + 1)).toNatClampNeg))], [], (hM Z M)) (call PGM d yM_runs [.ref 91, .int i1] (hM Z M))
              else bif inb (i2 + 1) 437 then some (none, (hM Z (mA M 0 (upd (M.1 0) ((i2 + 1)).toNatClampNeg (-9)))))
                else none
            else none
          else none
      else none := (ev_eq PGM d yM_does [] 400 _).trans rfl
set_option maxRecDepth 100000 in
theorem eM_does_44 (d : Nat) (Z : ZT) (M : MS) (i1 : Int32) (i2 : Int32) (i3 : Int32) (u4 : Option Value) (k0 : Int32) : sem PGM d yM_does (44, [some (.ref 91), some (.int i1), some (.int i2), some (.int i3), u4], [.int k0], (hM Z M)) =
    bif decide (k0 = 0) then some (none, (hM Z M))
    else aftK (sem PGM d yM_does) 0 (113, [some (.ref 91), some (.int i1), some (.int i2), some (.int i3), some (.int 0)], [], (hM Z M)) (call PGM d yM_runs [.ref 91, .int i1] (hM Z M)) := (ev_eq PGM d yM_does [] 400 _).trans rfl
set_option maxRecDepth 100000 in
theorem eM_does_113 (d : Nat) (Z : ZT) (M : MS) (u0 : Option Value) (i1 : Int32) (i2 : Int32) (i3 : Int32) (u4 : Option Value) : sem PGM d yM_does (113, [u0, some (.int i1), some (.int i2), some (.int i3), u4], [], (hM Z M)) =
    some (none, (hM Z M)) := (ev_eq PGM d yM_does [] 400 _).trans rfl
set_option maxRecDepth 100000 in
theorem eM_does_132 (d : Nat) (Z : ZT) (M : MS) (i1 : Int32) (i2 : Int32) (i3 : Int32) (u4 : Option Value) (k0 : Int32) : sem PGM d yM_does (132, [some (.ref 91), some (.int i1), some (.int i2), some (.int i3), u4], [.int k0], (hM Z M)) =
    bif !decide (k0 = 0) then some (none, (hM Z M))
    else bif inb i2 437 then some (none, (hM Z (mA M 0 (upd (M.1 0) (i2).toNatClampNeg 3))))
      else none := (ev_eq PGM d yM_does [] 400 _).trans rfl
set_option maxRecDepth 100000 in
theorem eM_runs_0 (d : Nat) (Z : ZT) (M : MS) (i1 : Int32) : sem PGM d yM_runs (0, [some (.ref 91), some (.int i1), none, none, none, none, none], [], (hM Z M)) =
    bif inb (99 + (4 * i1)) 437 then aftK (sem PGM d yM_runs) 1 (17, [some (.ref 91), some (.int i1), some (.int (99 + (4 * i1))), none, none, none, none], [], (hM Z M)) (call PGM d yM_isUnder [.int ((M.1 0) ((99 + (4 * i1))).toNatClampNeg), .int 3] (hM Z M))
    else none := (ev_eq PGM d yM_runs [158, 202, 227] 400 _).trans rfl
set_option maxRecDepth 100000 in
theorem eM_runs_17 (d : Nat) (Z : ZT) (M : MS) (i1 : Int32) (i2 : Int32) (u6 : Option Value) (k0 : Int32) : sem PGM d yM_runs (17, [some (.ref 91), some (.int i1), some (.int i2), none, none, none, u6], [.int k0], (hM Z M)) =
    bif decide (k0 = 0) then bif inb (i2 + 2) 437 then bif inb i2 437 then bif !decide (((M.1 0) (i2).toNatClampNeg) = 4) then bif inb i2 437 then bif !decide (((M.1 0) (i2).toNatClampNeg) = 5) then sem PGM d yM_runs (158, [some (.ref 91), some (.int i1), some (.int i2), some (.int (((M.1 0) ((i2 + 2)).toNatClampNeg) + 0)), some (.int 1), some (.int 0), u6], [], (hM Z M))
              else bif inb (i2 + 2) 437 then bif decide (((M.1 0) ((i2 + 2)).toNatClampNeg) ≤ 1) then sem PGM d yM_runs (158, [some (.ref 91), some (.int i1), some (.int i2), some (.int (((M.1 0) ((i2 + 2)).toNatClampNeg) + 0)), some (.int 1), some (.int 0), u6], [], (hM Z M))
                  else sem PGM d yM_runs (158, [some (.ref 91), some (.int i1), some (.int i2), some (.int (((M.1 0) ((i2 + 2)).toNatClampNeg) + (-1))), some (.int 1), some (.int 0), u6], [], (hM Z M))
                else none
            else none
          else sem PGM d yM_runs (158, [some (.ref 91), some (.int i1), some (.int i2), some (.int (((M.1 0) ((i2 + 2)).toNatClampNeg) + 1)), some (.int 1), some (.int 0), u6], [], (hM Z M))
        else none
      else none
    else bif inb (i2 + 1) 437 then aftK (sem PGM d yM_runs) 1 (32, [some (.ref 91), some (.int i1), some (.int i2), none, none, none, u6], [], (hM Z M)) (call PGM d yM_nearTo [.ref 91, .int ((M.1 0) ((i2 + 1)).toNatClampNeg)] (hM Z M))
      else none := (ev_eq PGM d yM_runs [158, 202, 227] 400 _).trans rfl
set_option maxRecDepth 100000 in
theorem eM_runs_158 (d : Nat) (Z : ZT) (M : MS) (i1 : Int32) (i2 : Int32) (i3 : Int32) (i4 : Int32) (i5 : Int32) (u6 : Option Value) : sem PGM d yM_runs (158, [some (.ref 91), some (.int i1), some (.int i2), some (.int i3), some (.int i4), some (.int i5), u6], [], (hM Z M)) =
    bif decide (i3 ≤ i5) then some (none, (hM Z M))
    else bif decide (i4 = 0) then some (none, (hM Z M))
      else bif inb (i2 + 1) 437 then bif !decide ((((M.1 0) ((i2 + 1)).toNatClampNeg) + 1) = ((M.1 0) 0)) then aftK (sem PGM d yM_runs) 1 (214, [some (.ref 91), some (.int i1), some (.int i2), some (.int i3), some (.int i4), some (.int i5), some (.int (((M.1 0) ((i2 + 1)).toNatClampNeg) + 1))], [], (hM Z M)) (call PGM d yM_isFree [.ref 91, .int (((M.1 0) ((i2 + 1)).toNatClampNeg) + 1)] (hM Z M))
          else bif inb (i2 + 1) 437 then sem PGM d yM_runs (202, [some (.ref 91), some (.int i1), some (.int i2), some (.int i3), some (.int i4), some (.int i5), some (.int (((M.1 0) ((i2 + 1)).toNatClampNeg) + 1))], [], (hM Z (mA M 0 (upd (M.1 0) ((i2 + 1)).toNatClampNeg (-9)))))
            else none
        else none := (ev_eq PGM d yM_runs [158, 202, 227] 400 _).trans rfl
set_option maxRecDepth 100000 in
theorem eM_runs_32 (d : Nat) (Z : ZT) (M : MS) (i1 : Int32) (i2 : Int32) (u6 : Option Value) (k0 : Int32) : sem PGM d yM_runs (32, [some (.ref 91), some (.int i1), some (.int i2), none, none, none, u6], [.int k0], (hM Z M)) =
    bif decide (k0 ≤ ((M.1 0) 6)) then bif inb i2 437 then bif inb i2 437 then some (none, (hM Z (mA M 0 (upd (M.1 0) (i2).toNatClampNeg ((M.1 0) (i2).toNatClampNeg)))))
        else none
      else none
    else bif inb i2 437 then bif decide (((M.1 0) (i2).toNatClampNeg) = 3) then bif inb i2 437 then some (none, (hM Z (mA M 0 (upd (M.1 0) (i2).toNatClampNeg 1))))
          else none
        else bif inb (i2 + 1) 437 then aftK (sem PGM d yM_runs) 1 (64, [some (.ref 91), some (.int i1), some (.int i2), none, none, none, u6], [], (hM Z M)) (call PGM d yM_fallenIn [.ref 91, .int ((M.1 0) ((i2 + 1)).toNatClampNeg)] (hM Z M))
          else none
      else none := (ev_eq PGM d yM_runs [158, 202, 227] 400 _).trans rfl
set_option maxRecDepth 100000 in
theorem eM_runs_214 (d : Nat) (Z : ZT) (M : MS) (i1 : Int32) (i2 : Int32) (i3 : Int32) (i4 : Int32) (i5 : Int32) (i6 : Int32) (k0 : Int32) : sem PGM d yM_runs (214, [some (.ref 91), some (.int i1), some (.int i2), some (.int i3), some (.int i4), some (.int i5), some (.int i6)], [.int k0], (hM Z M)) =
    bif decide (k0 = 0) then sem PGM d yM_runs (158, [some (.ref 91), some (.int i1), some (.int i2), some (.int i3), some (.int 0), some (.int (i5 + 1)), some (.int i6)], [], (hM Z M))
    else bif inb (i2 + 1) 437 then sem PGM d yM_runs (227, [some (.ref 91), some (.int i1), some (.int i2), some (.int i3), some (.int i4), some (.int i5), some (.int i6)], [], (hM Z (mA M 0 (upd (M.1 0) ((i2 + 1)).toNatClampNeg i6))))
      else none := (ev_eq PGM d yM_runs [158, 202, 227] 400 _).trans rfl
set_option maxRecDepth 100000 in
theorem eM_runs_202 (d : Nat) (Z : ZT) (M : MS) (i1 : Int32) (i2 : Int32) (i3 : Int32) (i4 : Int32) (i5 : Int32) (u6 : Option Value) : sem PGM d yM_runs (202, [some (.ref 91), some (.int i1), some (.int i2), some (.int i3), some (.int i4), some (.int i5), u6], [], (hM Z M)) =
    sem PGM d yM_runs (158, [some (.ref 91), some (.int i1), some (.int i2), some (.int i3), some (.int 0), some (.int (i5 + 1)), u6], [], (hM Z M)) := (ev_eq PGM d yM_runs [158, 202, 227] 400 _).trans rfl
set_option maxRecDepth 100000 in
theorem eM_runs_64 (d : Nat) (Z : ZT) (M : MS) (i1 : Int32) (i2 : Int32) (u6 : Option Value) (k0 : Int32) : sem PGM d yM_runs (64, [some (.ref 91), some (.int i1), some (.int i2), none, none, none, u6], [.int k0], (hM Z M)) =
    bif decide (((M.1 0) 7) ≤ k0) then bif inb i2 437 then bif inb i2 437 then some (none, (hM Z (mA M 0 (upd (M.1 0) (i2).toNatClampNeg ((M.1 0) (i2).toNatClampNeg)))))
        else none
      else none
    else bif inb i2 437 then some (none, (hM Z (mA M 0 (upd (M.1 0) (i2).toNatClampNeg 1))))
      else none := (ev_eq PGM d yM_runs [158, 202, 227] 400 _).trans rfl
set_option maxRecDepth 100000 in
theorem eM_runs_227 (d : Nat) (Z : ZT) (M : MS) (i1 : Int32) (i2 : Int32) (i3 : Int32) (i4 : Int32) (i5 : Int32) (u6 : Option Value) : sem PGM d yM_runs (227, [some (.ref 91), some (.int i1), some (.int i2), some (.int i3), some (.int i4), some (.int i5), u6], [], (hM Z M)) =
    sem PGM d yM_runs (158, [some (.ref 91), some (.int i1), some (.int i2), some (.int i3), some (.int i4), some (.int (i5 + 1)), u6], [], (hM Z M)) := (ev_eq PGM d yM_runs [158, 202, 227] 400 _).trans rfl
set_option maxRecDepth 100000 in
theorem eM_isFree_0 (d : Nat) (Z : ZT) (M : MS) (i1 : Int32) : sem PGM d yM_isFree (0, [some (.ref 91), some (.int i1)], [], (hM Z M)) =
    aftK (sem PGM d yM_isFree) 1 (5, [some (.ref 91), some (.int i1)], [], (hM Z M)) (call PGM d yM_crowd [.ref 91, .int i1] (hM Z M)) := (ev_eq PGM d yM_isFree [] 400 _).trans rfl
set_option maxRecDepth 100000 in
theorem eM_isFree_5 (d : Nat) (Z : ZT) (M : MS) (i1 : Int32) (k0 : Int32) : sem PGM d yM_isFree (5, [some (.ref 91), some (.int i1)], [.int k0], (hM Z M)) =
    bif inb (9 + (3 * i1)) 437 then bif decide (((M.1 0) ((9 + (3 * i1))).toNatClampNeg) ≤ k0) then some (some (.int 0), (hM Z M))
      else aftK (sem PGM d yM_isFree) 1 (24, [some (.ref 91), some (.int i1)], [], (hM Z M)) (call PGM d yM_fallenIn [.ref 91, .int i1] (hM Z M))
    else none := (ev_eq PGM d yM_isFree [] 400 _).trans rfl
set_option maxRecDepth 100000 in
theorem eM_isFree_24 (d : Nat) (Z : ZT) (M : MS) (u1 : Option Value) (k0 : Int32) : sem PGM d yM_isFree (24, [some (.ref 91), u1], [.int k0], (hM Z M)) =
    bif decide (((M.1 0) 7) ≤ k0) then some (some (.int 0), (hM Z M))
    else some (some (.int 1), (hM Z M)) := (ev_eq PGM d yM_isFree [] 400 _).trans rfl
set_option maxRecDepth 100000 in
theorem eM_harms_0 (d : Nat) (Z : ZT) (M : MS)  : sem PGM d yM_harms (0, [some (.ref 91), none, none, none], [], (hM Z M)) =
    sem PGM d yM_harms (4, [some (.ref 91), some (.int 0), some (.int 0), none], [], (hM Z M)) := (ev_eq PGM d yM_harms [4, 58, 90] 400 _).trans rfl
set_option maxRecDepth 100000 in
theorem eM_harms_4 (d : Nat) (Z : ZT) (M : MS) (i1 : Int32) (i2 : Int32) (u3 : Option Value) : sem PGM d yM_harms (4, [some (.ref 91), some (.int i1), some (.int i2), u3], [], (hM Z M)) =
    bif decide (((M.1 0) 1) ≤ i2) then some (some (.int i1), (hM Z M))
    else aftK (sem PGM d yM_harms) 1 (19, [some (.ref 91), some (.int i1), some (.int i2), u3], [], (hM Z M)) (call PGM d yM_whereIs [.ref 91, .int i2] (hM Z M)) := (ev_eq PGM d yM_harms [4, 58, 90] 400 _).trans rfl
set_option maxRecDepth 100000 in
theorem eM_harms_19 (d : Nat) (Z : ZT) (M : MS) (i1 : Int32) (i2 : Int32) (u3 : Option Value) (k0 : Int32) : sem PGM d yM_harms (19, [some (.ref 91), some (.int i1), some (.int i2), u3], [.int k0], (hM Z M)) =
    bif decide (0 ≤ k0) then aftK (sem PGM d yM_harms) 1 (31, [some (.ref 91), some (.int i1), some (.int i2), u3], [], (hM Z M)) (call PGM d yM_harmTo [.ref 91, .int i2] (hM Z M))
    else sem PGM d yM_harms (4, [some (.ref 91), some (.int i1), some (.int (i2 + 1)), some (.int 0)], [], (hM Z M)) := (ev_eq PGM d yM_harms [4, 58, 90] 400 _).trans rfl
set_option maxRecDepth 100000 in
theorem eM_harms_31 (d : Nat) (Z : ZT) (M : MS) (i1 : Int32) (i2 : Int32) (u3 : Option Value) (k0 : Int32) : sem PGM d yM_harms (31, [some (.ref 91), some (.int i1), some (.int i2), u3], [.int k0], (hM Z M)) =
    bif decide (k0 ≤ 0) then sem PGM d yM_harms (4, [some (.ref 91), some (.int i1), some (.int (i2 + 1)), some (.int k0)], [], (hM Z M))
    else aftK (sem PGM d yM_harms) 0 (41, [some (.ref 91), some (.int i1), some (.int i2), some (.int k0)], [], (hM Z M)) (call PGM d yM_sees [.ref 91, .int i2] (hM Z M)) := (ev_eq PGM d yM_harms [4, 58, 90] 400 _).trans rfl
set_option maxRecDepth 100000 in
theorem eM_harms_41 (d : Nat) (Z : ZT) (M : MS) (i1 : Int32) (i2 : Int32) (i3 : Int32) : sem PGM d yM_harms (41, [some (.ref 91), some (.int i1), some (.int i2), some (.int i3)], [], (hM Z M)) =
    bif inb ((99 + (4 * i2)) + 3) 437 then bif inb ((99 + (4 * i2)) + 3) 437 then sem PGM d yM_harms (58, [some (.ref 91), some (.int i1), some (.int i2), some (.int i3)], [], (hM Z (mA M 0 (upd (M.1 0) (((99 + (4 * i2)) + 3)).toNatClampNeg (((M.1 0) (((99 + (4 * i2)) + 3)).toNatClampNeg) + i3)))))
      else none
    else none := (ev_eq PGM d yM_harms [4, 58, 90] 400 _).trans rfl
set_option maxRecDepth 100000 in
theorem eM_harms_58 (d : Nat) (Z : ZT) (M : MS) (i1 : Int32) (i2 : Int32) (i3 : Int32) : sem PGM d yM_harms (58, [some (.ref 91), some (.int i1), some (.int i2), some (.int i3)], [], (hM Z M)) =
    aftK (sem PGM d yM_harms) 1 (73, [some (.ref 91), some (.int i1), some (.int i2), some (.int i3)], [.int (99 + (4 * i2)), .ref 92], (hM Z M)) (call PGM d yM_kindOf [.ref 91, .int i2] (hM Z M)) := (ev_eq PGM d yM_harms [4, 58, 90] 400 _).trans rfl
set_option maxRecDepth 100000 in
theorem eM_harms_73 (d : Nat) (Z : ZT) (M : MS) (i1 : Int32) (i2 : Int32) (i3 : Int32) (k1 : Int32) (k2 : Int32) : sem PGM d yM_harms (73, [some (.ref 91), some (.int i1), some (.int i2), some (.int i3)], [.int k2, .int k1, .ref 92], (hM Z M)) =
    aftK (sem PGM d yM_harms) 1 (77, [some (.ref 91), some (.int i1), some (.int i2), some (.int i3)], [.int k1, .ref 92], (hM Z M)) (call PGM d yM_isUnder [.int k2, .int 1] (hM Z M)) := (ev_eq PGM d yM_harms [4, 58, 90] 400 _).trans rfl
set_option maxRecDepth 100000 in
theorem eM_harms_77 (d : Nat) (Z : ZT) (M : MS) (i1 : Int32) (i2 : Int32) (i3 : Int32) (k1 : Int32) (k2 : Int32) : sem PGM d yM_harms (77, [some (.ref 91), some (.int i1), some (.int i2), some (.int i3)], [.int k2, .int k1, .ref 92], (hM Z M)) =
    bif decide (k2 = 0) then aftK (sem PGM d yM_harms) 1 (89, [some (.ref 91), some (.int i1), some (.int i2), some (.int i3)], [.int k1, .ref 92], (hM Z M)) (call PGM d yM_kindOf [.ref 91, .int i2] (hM Z M))
    else bif inb k1 437 then sem PGM d yM_harms (90, [some (.ref 91), some (.int i1), some (.int i2), some (.int i3)], [], (hM Z (mA M 0 (upd (M.1 0) (k1).toNatClampNeg 3))))
      else none := (ev_eq PGM d yM_harms [4, 58, 90] 400 _).trans rfl
set_option maxRecDepth 100000 in
theorem eM_harms_89 (d : Nat) (Z : ZT) (M : MS) (i1 : Int32) (i2 : Int32) (i3 : Int32) (k1 : Int32) (k2 : Int32) : sem PGM d yM_harms (89, [some (.ref 91), some (.int i1), some (.int i2), some (.int i3)], [.int k2, .int k1, .ref 92], (hM Z M)) =
    bif inb k1 437 then sem PGM d yM_harms (90, [some (.ref 91), some (.int i1), some (.int i2), some (.int i3)], [], (hM Z (mA M 0 (upd (M.1 0) (k1).toNatClampNeg k2))))
    else none := (ev_eq PGM d yM_harms [4, 58, 90] 400 _).trans rfl
set_option maxRecDepth 100000 in
theorem eM_harms_90 (d : Nat) (Z : ZT) (M : MS) (i1 : Int32) (i2 : Int32) (i3 : Int32) : sem PGM d yM_harms (90, [some (.ref 91), some (.int i1), some (.int i2), some (.int i3)], [], (hM Z M)) =
    sem PGM d yM_harms (4, [some (.ref 91), some (.int (i1 + i3)), some (.int (i2 + 1)), some (.int i3)], [], (hM Z M)) := (ev_eq PGM d yM_harms [4, 58, 90] 400 _).trans rfl
set_option maxRecDepth 100000 in
theorem eM_harmTo_0 (d : Nat) (Z : ZT) (M : MS) (i1 : Int32) : sem PGM d yM_harmTo (0, [some (.ref 91), some (.int i1), none, none, none, none], [], (hM Z M)) =
    sem PGM d yM_harmTo (7, [some (.ref 91), some (.int i1), some (.int 0), some (.int 0), some (.int 0), none], [], (hM Z M)) := (ev_eq PGM d yM_harmTo [7] 400 _).trans rfl
set_option maxRecDepth 100000 in
theorem eM_harmTo_7 (d : Nat) (Z : ZT) (M : MS) (i1 : Int32) (i2 : Int32) (i3 : Int32) (i4 : Int32) (u5 : Option Value) : sem PGM d yM_harmTo (7, [some (.ref 91), some (.int i1), some (.int i2), some (.int i3), some (.int i4), u5], [], (hM Z M)) =
    bif decide (((M.1 0) 2) ≤ i4) then bif !decide (i2 = 0) then aftK (sem PGM d yM_harmTo) 1 (104, [some (.ref 91), some (.int i1), some (.int i2), some (.int i3), some (.int i4), u5], [], (hM Z M)) (call PGM d yM_kindOf [.ref 91, .int i1] (hM Z M))
      else some (some (.int 0), (hM Z M))
    else aftK (sem PGM d yM_harmTo) 1 (24, [some (.ref 91), some (.int i1), some (.int i2), some (.int i3), some (.int i4), u5], [], (hM Z M)) (call PGM d yM_whereBeast [.ref 91, .int i4] (hM Z M)) := (ev_eq PGM d yM_harmTo [7] 400 _).trans rfl
set_option maxRecDepth 100000 in
theorem eM_harmTo_104 (d : Nat) (Z : ZT) (M : MS) (u0 : Option Value) (i1 : Int32) (i2 : Int32) (i3 : Int32) (i4 : Int32) (u5 : Option Value) (k0 : Int32) : sem PGM d yM_harmTo (104, [u0, some (.int i1), some (.int i2), some (.int i3), some (.int i4), u5], [.int k0], (hM Z M)) =
    bif decide (k0 = 1) then bif decide (i3 = 0) then some (some (.int ((1 : Int32) + 0)), (hM Z M))
      else some (some (.int ((1 : Int32) + 1)), (hM Z M))
    else bif !decide (k0 = 6) then bif decide (k0 = 4) then bif decide (i3 = 0) then some (some (.int ((2 : Int32) + 0)), (hM Z M))
          else some (some (.int ((2 : Int32) + 1)), (hM Z M))
        else bif !decide (k0 = 5) then bif decide (i3 = 0) then some (some (.int ((0 : Int32) + 0)), (hM Z M))
            else some (some (.int ((0 : Int32) + 1)), (hM Z M))
          else bif decide (i3 = 0) then some (some (.int ((2 : Int32) + 0)), (hM Z M))
            else some (some (.int ((2 : Int32) + 1)), (hM Z M))
      else bif decide (i3 = 0) then some (some (.int ((1 : Int32) + 0)), (hM Z M))
        else some (some (.int ((1 : Int32) + 1)), (hM Z M)) := (ev_eq PGM d yM_harmTo [7] 400 _).trans rfl
set_option maxRecDepth 100000 in
theorem eM_harmTo_24 (d : Nat) (Z : ZT) (M : MS) (i1 : Int32) (i2 : Int32) (i3 : Int32) (i4 : Int32) (u5 : Option Value) (k0 : Int32) : sem PGM d yM_harmTo (24, [some (.ref 91), some (.int i1), some (.int i2), some (.int i3), some (.int i4), u5], [.int k0], (hM Z M)) =
    bif decide (k0 < 0) then bif !decide (i2 = 0) then bif !decide (i3 = 0) then sem PGM d yM_harmTo (7, [some (.ref 91), some (.int i1), some (.int 1), some (.int 1), some (.int (i4 + 1)), some (.int 0)], [], (hM Z M))
        else sem PGM d yM_harmTo (7, [some (.ref 91), some (.int i1), some (.int 1), some (.int 0), some (.int (i4 + 1)), some (.int 0)], [], (hM Z M))
      else bif !decide (i3 = 0) then sem PGM d yM_harmTo (7, [some (.ref 91), some (.int i1), some (.int 0), some (.int 1), some (.int (i4 + 1)), some (.int 0)], [], (hM Z M))
        else sem PGM d yM_harmTo (7, [some (.ref 91), some (.int i1), some (.int 0), some (.int 0), some (.int (i4 + 1)), some (.int 0)], [], (hM Z M))
    else aftK (sem PGM d yM_harmTo) 1 (33, [some (.ref 91), some (.int i1), some (.int i2), some (.int i3), some (.int i4), u5], [], (hM Z M)) (call PGM d yM_whereBeast [.ref 91, .int i4] (hM Z M)) := (ev_eq PGM d yM_harmTo [7] 400 _).trans rfl
set_option maxRecDepth 100000 in
theorem eM_harmTo_33 (d : Nat) (Z : ZT) (M : MS) (i1 : Int32) (i2 : Int32) (i3 : Int32) (i4 : Int32) (u5 : Option Value) (k0 : Int32) : sem PGM d yM_harmTo (33, [some (.ref 91), some (.int i1), some (.int i2), some (.int i3), some (.int i4), u5], [.int k0], (hM Z M)) =
    aftK (sem PGM d yM_harmTo) 1 (38, [some (.ref 91), some (.int i1), some (.int i2), some (.int i3), some (.int i4), u5], [.int k0], (hM Z M)) (call PGM d yM_whereIs [.ref 91, .int i1] (hM Z M)) := (ev_eq PGM d yM_harmTo [7] 400 _).trans rfl
set_option maxRecDepth 100000 in
theorem eM_harmTo_38 (d : Nat) (Z : ZT) (M : MS) (i1 : Int32) (i2 : Int32) (i3 : Int32) (i4 : Int32) (u5 : Option Value) (k0 : Int32) (k1 : Int32) : sem PGM d yM_harmTo (38, [some (.ref 91), some (.int i1), some (.int i2), some (.int i3), some (.int i4), u5], [.int k1, .int k0], (hM Z M)) =
    bif !decide (k0 = k1) then bif !decide (i2 = 0) then bif !decide (i3 = 0) then sem PGM d yM_harmTo (7, [some (.ref 91), some (.int i1), some (.int 1), some (.int 1), some (.int (i4 + 1)), some (.int 0)], [], (hM Z M))
        else sem PGM d yM_harmTo (7, [some (.ref 91), some (.int i1), some (.int 1), some (.int 0), some (.int (i4 + 1)), some (.int 0)], [], (hM Z M))
      else bif !decide (i3 = 0) then sem PGM d yM_harmTo (7, [some (.ref 91), some (.int i1), some (.int 0), some (.int 1), some (.int (i4 + 1)), some (.int 0)], [], (hM Z M))
        else sem PGM d yM_harmTo (7, [some (.ref 91), some (.int i1), some (.int 0), some (.int 0), some (.int (i4 + 1)), some (.int 0)], [], (hM Z M))
    else bif !decide (i2 = 0) then bif !decide (i3 = 0) then sem PGM d yM_harmTo (7, [some (.ref 91), some (.int i1), some (.int 1), some (.int 1), some (.int (i4 + 1)), some (.int 1)], [], (hM Z M))
        else aftK (sem PGM d yM_harmTo) 1 (78, [some (.ref 91), some (.int i1), some (.int 1), some (.int i3), some (.int i4), some (.int 1)], [], (hM Z M)) (call PGM d yM_isAlone [.ref 91, .int i4] (hM Z M))
      else bif !decide (i3 = 0) then sem PGM d yM_harmTo (7, [some (.ref 91), some (.int i1), some (.int 1), some (.int 1), some (.int (i4 + 1)), some (.int 1)], [], (hM Z M))
        else aftK (sem PGM d yM_harmTo) 1 (78, [some (.ref 91), some (.int i1), some (.int 1), some (.int i3), some (.int i4), some (.int 1)], [], (hM Z M)) (call PGM d yM_isAlone [.ref 91, .int i4] (hM Z M)) := (ev_eq PGM d yM_harmTo [7] 400 _).trans rfl
set_option maxRecDepth 100000 in
theorem eM_harmTo_78 (d : Nat) (Z : ZT) (M : MS) (i1 : Int32) (i2 : Int32) (i3 : Int32) (i4 : Int32) (u5 : Option Value) (k0 : Int32) : sem PGM d yM_harmTo (78, [some (.ref 91), some (.int i1), some (.int i2), some (.int i3), some (.int i4), u5], [.int k0], (hM Z M)) =
    bif decide (k0 = 0) then sem PGM d yM_harmTo (7, [some (.ref 91), some (.int i1), some (.int i2), some (.int 0), some (.int (i4 + 1)), u5], [], (hM Z M))
    else sem PGM d yM_harmTo (7, [some (.ref 91), some (.int i1), some (.int i2), some (.int 1), some (.int (i4 + 1)), u5], [], (hM Z M)) := (ev_eq PGM d yM_harmTo [7] 400 _).trans rfl
set_option maxRecDepth 100000 in
theorem eM_sees_0 (d : Nat) (Z : ZT) (M : MS) (i1 : Int32) : sem PGM d yM_sees (0, [some (.ref 91), some (.int i1), none], [], (hM Z M)) =
    bif decide ((M.2 12) = 0) then sem PGM d yM_sees (105, [some (.ref 91), some (.int i1), none], [], (hM Z M))
    else bif !decide ((M.2 13) = 0) then sem PGM d yM_sees (105, [some (.ref 91), some (.int i1), none], [], (hM Z M))
      else bif decide ((M.2 14) ≤ (M.2 10)) then sem PGM d yM_sees (105, [some (.ref 91), some (.int i1), none], [], (hM Z M))
        else bif inb (3 * (M.2 10)) 72 then bif !decide (((M.1 8) ((3 * (M.2 10))).toNatClampNeg) = (M.2 11)) then sem PGM d yM_sees (105, [some (.ref 91), some (.int i1), some (.int 0)], [], (hM Z (mV M 13 ((M.2 10) + 1))))
            else bif inb ((3 * (M.2 10)) + 1) 72 then bif !decide (((M.1 8) (((3 * (M.2 10)) + 1)).toNatClampNeg) = i1) then sem PGM d yM_sees (105, [some (.ref 91), some (.int i1), some (.int 0)], [], (hM Z (mV M 13 ((M.2 10) + 1))))
                else bif inb ((3 * (M.2 10)) + 2) 72 then aftK (sem PGM d yM_sees) 1 (78, [some (.ref 91), some (.int i1), none], [.int ((M.1 8) (((3 * (M.2 10)) + 2)).toNatClampNeg)], (hM Z M)) (call PGM d yM_whereIs [.ref 91, .int i1] (hM Z M))
                  else none
              else none
          else none := (ev_eq PGM d yM_sees [105, 131, 145, 163] 400 _).trans rfl
set_option maxRecDepth 100000 in
theorem eM_sees_105 (d : Nat) (Z : ZT) (M : MS) (i1 : Int32) (u2 : Option Value) : sem PGM d yM_sees (105, [some (.ref 91), some (.int i1), u2], [], (hM Z M)) =
    bif decide ((M.2 9) ≤ (M.2 10)) then sem PGM d yM_sees (163, [some (.ref 91), some (.int i1), u2], [], (hM Z M))
    else bif inb (3 * (M.2 10)) 72 then sem PGM d yM_sees (131, [some (.ref 91), some (.int i1), u2], [], (hM Z (mA M 7 (upd (M.1 7) ((3 * (M.2 10))).toNatClampNeg (M.2 11)))))
      else none := (ev_eq PGM d yM_sees [105, 131, 145, 163] 400 _).trans rfl
set_option maxRecDepth 100000 in
theorem eM_sees_78 (d : Nat) (Z : ZT) (M : MS) (i1 : Int32) (u2 : Option Value) (k0 : Int32) (k1 : Int32) : sem PGM d yM_sees (78, [some (.ref 91), some (.int i1), u2], [.int k1, .int k0], (hM Z M)) =
    bif !decide (k0 = k1) then sem PGM d yM_sees (105, [some (.ref 91), some (.int i1), some (.int 0)], [], (hM Z (mV M 13 ((M.2 10) + 1))))
    else sem PGM d yM_sees (105, [some (.ref 91), some (.int i1), some (.int 1)], [], (hM Z (mV M 13 0))) := (ev_eq PGM d yM_sees [105, 131, 145, 163] 400 _).trans rfl
set_option maxRecDepth 100000 in
theorem eM_sees_163 (d : Nat) (Z : ZT) (M : MS) (i1 : Int32) (u2 : Option Value) : sem PGM d yM_sees (163, [some (.ref 91), some (.int i1), u2], [], (hM Z M)) =
    some (none, (hM Z (mV M 10 ((M.2 10) + 1)))) := (ev_eq PGM d yM_sees [105, 131, 145, 163] 400 _).trans rfl
set_option maxRecDepth 100000 in
theorem eM_sees_131 (d : Nat) (Z : ZT) (M : MS) (i1 : Int32) (u2 : Option Value) : sem PGM d yM_sees (131, [some (.ref 91), some (.int i1), u2], [], (hM Z M)) =
    bif inb ((3 * (M.2 10)) + 1) 72 then sem PGM d yM_sees (145, [some (.ref 91), some (.int i1), u2], [], (hM Z (mA M 7 (upd (M.1 7) (((3 * (M.2 10)) + 1)).toNatClampNeg i1))))
    else none := (ev_eq PGM d yM_sees [105, 131, 145, 163] 400 _).trans rfl
set_option maxRecDepth 100000 in
theorem eM_sees_145 (d : Nat) (Z : ZT) (M : MS) (i1 : Int32) (u2 : Option Value) : sem PGM d yM_sees (145, [some (.ref 91), some (.int i1), u2], [], (hM Z M)) =
    aftK (sem PGM d yM_sees) 1 (162, [some (.ref 91), some (.int i1), u2], [.int ((3 * (M.2 10)) + 2), .ref 99], (hM Z M)) (call PGM d yM_whereIs [.ref 91, .int i1] (hM Z M)) := (ev_eq PGM d yM_sees [105, 131, 145, 163] 400 _).trans rfl
set_option maxRecDepth 100000 in
theorem eM_sees_162 (d : Nat) (Z : ZT) (M : MS) (i1 : Int32) (u2 : Option Value) (k1 : Int32) (k2 : Int32) : sem PGM d yM_sees (162, [some (.ref 91), some (.int i1), u2], [.int k2, .int k1, .ref 99], (hM Z M)) =
    bif inb k1 72 then sem PGM d yM_sees (163, [some (.ref 91), some (.int i1), u2], [], (hM Z (mA M 7 (upd (M.1 7) (k1).toNatClampNeg k2))))
    else none := (ev_eq PGM d yM_sees [105, 131, 145, 163] 400 _).trans rfl
