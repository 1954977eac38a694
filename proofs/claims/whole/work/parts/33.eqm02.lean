/-! Equations of blocks, by wip/whole/gen/alleq.py. -/
set_option maxRecDepth 100000 in
theorem eM_oneClause_0 (d : Nat) (Z : ZT) (M : MS)  : sem PGM d yM_oneClause (0, [some (.ref 91), none, none, none, none, none], [], (hM Z M)) =
    aftK (sem PGM d yM_oneClause) 1 (4, [some (.ref 91), none, none, none, none, none], [], (hM Z M)) (call PGM d yM_whoHere [.ref 91] (hM Z M)) := (ev_eq PGM d yM_oneClause [125, 135, 154, 164, 177] 400 _).trans rfl
set_option maxRecDepth 100000 in
theorem eM_oneClause_4 (d : Nat) (Z : ZT) (M : MS) (u5 : Option Value) (k0 : Int32) : sem PGM d yM_oneClause (4, [some (.ref 91), none, none, none, none, u5], [.int k0], (hM Z M)) =
    bif decide (k0 < 0) then aftK (sem PGM d yM_oneClause) 0 (32, [some (.ref 91), some (.int k0), some (.int (M.2 5)), none, none, u5], [], (hM Z M)) (call PGM d yM_needs [.ref 91, .int 0] (hM Z M))
    else bif decide (8 ≤ (M.2 6)) then aftK (sem PGM d yM_oneClause) 0 (32, [some (.ref 91), some (.int k0), some (.int (M.2 5)), none, none, u5], [], (hM Z M)) (call PGM d yM_needs [.ref 91, .int 0] (hM Z M))
      else aftK (sem PGM d yM_oneClause) 0 (32, [some (.ref 91), some (.int k0), some (.int (M.2 5)), none, none, u5], [], (hM Z M)) (call PGM d yM_needs [.ref 91, .int 1] (hM Z M)) := (ev_eq PGM d yM_oneClause [125, 135, 154, 164, 177] 400 _).trans rfl
set_option maxRecDepth 100000 in
theorem eM_oneClause_32 (d : Nat) (Z : ZT) (M : MS) (i1 : Int32) (i2 : Int32) (u5 : Option Value) : sem PGM d yM_oneClause (32, [some (.ref 91), some (.int i1), some (.int i2), none, none, u5], [], (hM Z M)) =
    aftK (sem PGM d yM_oneClause) 1 (36, [some (.ref 91), some (.int i1), some (.int i2), none, none, u5], [], (hM Z M)) (call PGM d yM_actHere [.ref 91] (hM Z M)) := (ev_eq PGM d yM_oneClause [125, 135, 154, 164, 177] 400 _).trans rfl
set_option maxRecDepth 100000 in
theorem eM_oneClause_36 (d : Nat) (Z : ZT) (M : MS) (i1 : Int32) (i2 : Int32) (u5 : Option Value) (k0 : Int32) : sem PGM d yM_oneClause (36, [some (.ref 91), some (.int i1), some (.int i2), none, none, u5], [.int k0], (hM Z M)) =
    bif decide (k0 < 0) then aftK (sem PGM d yM_oneClause) 0 (50, [some (.ref 91), some (.int i1), some (.int i2), some (.int k0), none, u5], [], (hM Z M)) (call PGM d yM_needs [.ref 91, .int 0] (hM Z M))
    else aftK (sem PGM d yM_oneClause) 0 (50, [some (.ref 91), some (.int i1), some (.int i2), some (.int k0), none, u5], [], (hM Z M)) (call PGM d yM_needs [.ref 91, .int 1] (hM Z M)) := (ev_eq PGM d yM_oneClause [125, 135, 154, 164, 177] 400 _).trans rfl
set_option maxRecDepth 100000 in
theorem eM_oneClause_50 (d : Nat) (Z : ZT) (M : MS) (i1 : Int32) (i2 : Int32) (i3 : Int32) (u5 : Option Value) : sem PGM d yM_oneClause (50, [some (.ref 91), some (.int i1), some (.int i2), some (.int i3), none, u5], [], (hM Z M)) =
    aftK (sem PGM d yM_oneClause) 1 (64, [some (.ref 91), some (.int i1), some (.int i2), some (.int i3), none, u5], [], (hM Z M)) (call PGM d yM_isName [.ref 91, .int 105, .int 102, .int 0, .int 0, .int 0, .int 0, .int 0, .int 0] (hM Z M)) := (ev_eq PGM d yM_oneClause [125, 135, 154, 164, 177] 400 _).trans rfl
set_option maxRecDepth 100000 in
theorem eM_oneClause_64 (d : Nat) (Z : ZT) (M : MS) (i1 : Int32) (i2 : Int32) (i3 : Int32) (u5 : Option Value) (k0 : Int32) : sem PGM d yM_oneClause (64, [some (.ref 91), some (.int i1), some (.int i2), some (.int i3), none, u5], [.int k0], (hM Z M)) =
    bif decide (k0 = 0) then aftK (sem PGM d yM_oneClause) 1 (89, [some (.ref 91), some (.int i1), some (.int i2), some (.int i3), some (.int k0), u5], [.ref 91], (hM Z M)) (call PGM d yM_byteAt [.ref 91, .int (M.2 2)] (hM Z M))
    else aftK (sem PGM d yM_oneClause) 0 (76, [some (.ref 91), some (.int i1), some (.int i2), some (.int i3), some (.int k0), u5], [], (hM Z M)) (call PGM d yM_needs [.ref 91, .int 1] (hM Z M)) := (ev_eq PGM d yM_oneClause [125, 135, 154, 164, 177] 400 _).trans rfl
set_option maxRecDepth 100000 in
theorem eM_oneClause_89 (d : Nat) (Z : ZT) (M : MS) (i1 : Int32) (i2 : Int32) (i3 : Int32) (i4 : Int32) (u5 : Option Value) (k1 : Int32) : sem PGM d yM_oneClause (89, [some (.ref 91), some (.int i1), some (.int i2), some (.int i3), some (.int i4), u5], [.int k1, .ref 91], (hM Z M)) =
    bif !decide (k1 = 59) then aftK (sem PGM d yM_oneClause) 0 (102, [some (.ref 91), some (.int i1), some (.int i2), some (.int i3), some (.int i4), u5], [], (hM Z M)) (call PGM d yM_needs [.ref 91, .int 0] (hM Z M))
    else aftK (sem PGM d yM_oneClause) 0 (102, [some (.ref 91), some (.int i1), some (.int i2), some (.int i3), some (.int i4), u5], [], (hM Z M)) (call PGM d yM_needs [.ref 91, .int 1] (hM Z M)) := (ev_eq PGM d yM_oneClause [125, 135, 154, 164, 177] 400 _).trans rfl
set_option maxRecDepth 100000 in
theorem eM_oneClause_76 (d : Nat) (Z : ZT) (M : MS) (i1 : Int32) (i2 : Int32) (i3 : Int32) (i4 : Int32) (u5 : Option Value) : sem PGM d yM_oneClause (76, [some (.ref 91), some (.int i1), some (.int i2), some (.int i3), some (.int i4), u5], [], (hM Z M)) =
    aftK (sem PGM d yM_oneClause) 0 (80, [some (.ref 91), some (.int i1), some (.int i2), some (.int i3), some (.int i4), u5], [], (hM Z M)) (call PGM d yM_condition [.ref 91] (hM Z M)) := (ev_eq PGM d yM_oneClause [125, 135, 154, 164, 177] 400 _).trans rfl
set_option maxRecDepth 100000 in
theorem eM_oneClause_102 (d : Nat) (Z : ZT) (M : MS) (i1 : Int32) (i2 : Int32) (i3 : Int32) (i4 : Int32) (u5 : Option Value) : sem PGM d yM_oneClause (102, [some (.ref 91), some (.int i1), some (.int i2), some (.int i3), some (.int i4), u5], [], (hM Z M)) =
    bif !decide ((M.2 7) = 0) then some (none, (hM Z M))
    else bif inb (5 * (M.2 6)) 40 then sem PGM d yM_oneClause (125, [some (.ref 91), some (.int i1), some (.int i2), some (.int i3), some (.int i4), some (.int (5 * (M.2 6)))], [], (hM Z (mA M 5 (upd (M.1 5) ((5 * (M.2 6))).toNatClampNeg i1))))
      else none := (ev_eq PGM d yM_oneClause [125, 135, 154, 164, 177] 400 _).trans rfl
set_option maxRecDepth 100000 in
theorem eM_oneClause_80 (d : Nat) (Z : ZT) (M : MS) (i1 : Int32) (i2 : Int32) (i3 : Int32) (i4 : Int32) (u5 : Option Value) : sem PGM d yM_oneClause (80, [some (.ref 91), some (.int i1), some (.int i2), some (.int i3), some (.int i4), u5], [], (hM Z M)) =
    aftK (sem PGM d yM_oneClause) 1 (89, [some (.ref 91), some (.int i1), some (.int i2), some (.int i3), some (.int i4), u5], [.ref 91], (hM Z M)) (call PGM d yM_byteAt [.ref 91, .int (M.2 2)] (hM Z M)) := (ev_eq PGM d yM_oneClause [125, 135, 154, 164, 177] 400 _).trans rfl
set_option maxRecDepth 100000 in
theorem eM_oneClause_125 (d : Nat) (Z : ZT) (M : MS) (i1 : Int32) (i2 : Int32) (i3 : Int32) (i4 : Int32) (i5 : Int32) : sem PGM d yM_oneClause (125, [some (.ref 91), some (.int i1), some (.int i2), some (.int i3), some (.int i4), some (.int i5)], [], (hM Z M)) =
    bif inb (i5 + 1) 40 then sem PGM d yM_oneClause (135, [some (.ref 91), some (.int i1), some (.int i2), some (.int i3), some (.int i4), some (.int i5)], [], (hM Z (mA M 5 (upd (M.1 5) ((i5 + 1)).toNatClampNeg i3))))
    else none := (ev_eq PGM d yM_oneClause [125, 135, 154, 164, 177] 400 _).trans rfl
set_option maxRecDepth 100000 in
theorem eM_oneClause_135 (d : Nat) (Z : ZT) (M : MS) (i1 : Int32) (i2 : Int32) (i3 : Int32) (i4 : Int32) (i5 : Int32) : sem PGM d yM_oneClause (135, [some (.ref 91), some (.int i1), some (.int i2), some (.int i3), some (.int i4), some (.int i5)], [], (hM Z M)) =
    bif decide (i4 = 0) then bif inb (i5 + 2) 40 then sem PGM d yM_oneClause (154, [some (.ref 91), some (.int i1), some (.int i2), some (.int i3), some (.int i4), some (.int i5)], [], (hM Z (mA M 5 (upd (M.1 5) ((i5 + 2)).toNatClampNeg 0))))
      else none
    else bif inb (i5 + 2) 40 then sem PGM d yM_oneClause (154, [some (.ref 91), some (.int i1), some (.int i2), some (.int i3), some (.int i4), some (.int i5)], [], (hM Z (mA M 5 (upd (M.1 5) ((i5 + 2)).toNatClampNeg 1))))
      else none := (ev_eq PGM d yM_oneClause [125, 135, 154, 164, 177] 400 _).trans rfl
set_option maxRecDepth 100000 in
theorem eM_oneClause_154 (d : Nat) (Z : ZT) (M : MS) (i1 : Int32) (i2 : Int32) (i3 : Int32) (i4 : Int32) (i5 : Int32) : sem PGM d yM_oneClause (154, [some (.ref 91), some (.int i1), some (.int i2), some (.int i3), some (.int i4), some (.int i5)], [], (hM Z M)) =
    bif inb (i5 + 3) 40 then sem PGM d yM_oneClause (164, [some (.ref 91), some (.int i1), some (.int i2), some (.int i3), some (.int i4), some (.int i5)], [], (hM Z (mA M 5 (upd (M.1 5) ((i5 + 3)).toNatClampNeg i2))))
    else none := (ev_eq PGM d yM_oneClause [125, 135, 154, 164, 177] 400 _).trans rfl
set_option maxRecDepth 100000 in
theorem eM_oneClause_164 (d : Nat) (Z : ZT) (M : MS) (i1 : Int32) (i2 : Int32) (i3 : Int32) (i4 : Int32) (i5 : Int32) : sem PGM d yM_oneClause (164, [some (.ref 91), some (.int i1), some (.int i2), some (.int i3), some (.int i4), some (.int i5)], [], (hM Z M)) =
    bif inb (i5 + 4) 40 then sem PGM d yM_oneClause (177, [some (.ref 91), some (.int i1), some (.int i2), some (.int i3), some (.int i4), some (.int i5)], [], (hM Z (mA M 5 (upd (M.1 5) ((i5 + 4)).toNatClampNeg (M.2 5)))))
    else none := (ev_eq PGM d yM_oneClause [125, 135, 154, 164, 177] 400 _).trans rfl
set_option maxRecDepth 100000 in
theorem eM_oneClause_177 (d : Nat) (Z : ZT) (M : MS) (i1 : Int32) (i2 : Int32) (i3 : Int32) (i4 : Int32) (u5 : Option Value) : sem PGM d yM_oneClause (177, [some (.ref 91), some (.int i1), some (.int i2), some (.int i3), some (.int i4), u5], [], (hM Z M)) =
    some (none, (hM Z (mV M 6 ((M.2 6) + 1)))) := (ev_eq PGM d yM_oneClause [125, 135, 154, 164, 177] 400 _).trans rfl
set_option maxRecDepth 100000 in
theorem eM_whoHere_0 (d : Nat) (Z : ZT) (M : MS)  : sem PGM d yM_whoHere (0, [some (.ref 91)], [], (hM Z M)) =
    aftK (sem PGM d yM_whoHere) 1 (15, [some (.ref 91)], [], (hM Z M)) (call PGM d yM_isName [.ref 91, .int 97, .int 108, .int 108, .int 0, .int 0, .int 0, .int 0, .int 0] (hM Z M)) := (ev_eq PGM d yM_whoHere [] 400 _).trans rfl
set_option maxRecDepth 100000 in
theorem eM_whoHere_15 (d : Nat) (Z : ZT) (M : MS) (k0 : Int32) : sem PGM d yM_whoHere (15, [some (.ref 91)], [.int k0], (hM Z M)) =
    bif decide (k0 = 0) then aftK (sem PGM d yM_whoHere) 1 (40, [some (.ref 91)], [], (hM Z M)) (call PGM d yM_isName [.ref 91, .int 115, .int 116, .int 97, .int 110, .int 100, .int 105, .int 110, .int 103] (hM Z M))
    else some (some (.int 0), (hM Z M)) := (ev_eq PGM d yM_whoHere [] 400 _).trans rfl
set_option maxRecDepth 100000 in
theorem eM_whoHere_40 (d : Nat) (Z : ZT) (M : MS) (k0 : Int32) : sem PGM d yM_whoHere (40, [some (.ref 91)], [.int k0], (hM Z M)) =
    bif decide (k0 = 0) then aftK (sem PGM d yM_whoHere) 1 (80, [some (.ref 91)], [], (hM Z M)) (call PGM d yM_isName [.ref 91, .int 114, .int 117, .int 110, .int 110, .int 105, .int 110, .int 103, .int 0] (hM Z M))
    else aftK (sem PGM d yM_whoHere) 1 (54, [some (.ref 91)], [], (hM Z M)) (call PGM d yM_byteAt [.ref 91, .int ((M.2 2) + 7)] (hM Z M)) := (ev_eq PGM d yM_whoHere [] 400 _).trans rfl
set_option maxRecDepth 100000 in
theorem eM_whoHere_80 (d : Nat) (Z : ZT) (M : MS) (k0 : Int32) : sem PGM d yM_whoHere (80, [some (.ref 91)], [.int k0], (hM Z M)) =
    bif decide (k0 = 0) then aftK (sem PGM d yM_whoHere) 1 (105, [some (.ref 91)], [], (hM Z M)) (call PGM d yM_isName [.ref 91, .int 102, .int 97, .int 108, .int 108, .int 101, .int 110, .int 0, .int 0] (hM Z M))
    else some (some (.int 1), (hM Z M)) := (ev_eq PGM d yM_whoHere [] 400 _).trans rfl
set_option maxRecDepth 100000 in
theorem eM_whoHere_54 (d : Nat) (Z : ZT) (M : MS) (k0 : Int32) : sem PGM d yM_whoHere (54, [some (.ref 91)], [.int k0], (hM Z M)) =
    bif !decide (k0 = 103) then aftK (sem PGM d yM_whoHere) 1 (80, [some (.ref 91)], [], (hM Z M)) (call PGM d yM_isName [.ref 91, .int 114, .int 117, .int 110, .int 110, .int 105, .int 110, .int 103, .int 0] (hM Z M))
    else some (some (.int 2), (hM Z M)) := (ev_eq PGM d yM_whoHere [] 400 _).trans rfl
set_option maxRecDepth 100000 in
theorem eM_whoHere_105 (d : Nat) (Z : ZT) (M : MS) (k0 : Int32) : sem PGM d yM_whoHere (105, [some (.ref 91)], [.int k0], (hM Z M)) =
    bif decide (k0 = 0) then aftK (sem PGM d yM_whoHere) 1 (132, [some (.ref 91)], [], (hM Z M)) (call PGM d yM_isName [.ref 91, .int 116, .int 111, .int 117, .int 99, .int 104, .int 105, .int 110, .int 103] (hM Z M))
    else some (some (.int 3), (hM Z M)) := (ev_eq PGM d yM_whoHere [] 400 _).trans rfl
set_option maxRecDepth 100000 in
theorem eM_whoHere_132 (d : Nat) (Z : ZT) (M : MS) (k0 : Int32) : sem PGM d yM_whoHere (132, [some (.ref 91)], [.int k0], (hM Z M)) =
    bif decide (k0 = 0) then aftK (sem PGM d yM_whoHere) 1 (154, [some (.ref 91)], [], (hM Z M)) (call PGM d yM_isName [.ref 91, .int 110, .int 101, .int 119, .int 0, .int 0, .int 0, .int 0, .int 0] (hM Z M))
    else some (some (.int 4), (hM Z M)) := (ev_eq PGM d yM_whoHere [] 400 _).trans rfl
set_option maxRecDepth 100000 in
theorem eM_whoHere_154 (d : Nat) (Z : ZT) (M : MS) (k0 : Int32) : sem PGM d yM_whoHere (154, [some (.ref 91)], [.int k0], (hM Z M)) =
    bif decide (k0 = 0) then aftK (sem PGM d yM_whoHere) 1 (179, [some (.ref 91)], [], (hM Z M)) (call PGM d yM_isName [.ref 91, .int 104, .int 101, .int 97, .int 112, .int 101, .int 100, .int 0, .int 0] (hM Z M))
    else some (some (.int 5), (hM Z M)) := (ev_eq PGM d yM_whoHere [] 400 _).trans rfl
set_option maxRecDepth 100000 in
theorem eM_whoHere_179 (d : Nat) (Z : ZT) (M : MS) (k0 : Int32) : sem PGM d yM_whoHere (179, [some (.ref 91)], [.int k0], (hM Z M)) =
    bif decide (k0 = 0) then aftK (sem PGM d yM_whoHere) 1 (206, [some (.ref 91)], [], (hM Z M)) (call PGM d yM_isName [.ref 91, .int 108, .int 101, .int 97, .int 118, .int 105, .int 110, .int 103, .int 0] (hM Z M))
    else some (some (.int 6), (hM Z M)) := (ev_eq PGM d yM_whoHere [] 400 _).trans rfl
set_option maxRecDepth 100000 in
theorem eM_whoHere_206 (d : Nat) (Z : ZT) (M : MS) (u0 : Option Value) (k0 : Int32) : sem PGM d yM_whoHere (206, [u0], [.int k0], (hM Z M)) =
    bif decide (k0 = 0) then some (some (.int (-1)), (hM Z M))
    else some (some (.int 7), (hM Z M)) := (ev_eq PGM d yM_whoHere [] 400 _).trans rfl
set_option maxRecDepth 100000 in
theorem eM_isName_0 (d : Nat) (Z : ZT) (M : MS) (i1 : Int32) (i2 : Int32) (i3 : Int32) (i4 : Int32) (i5 : Int32) (i6 : Int32) (i7 : Int32) (i8 : Int32) : sem PGM d yM_isName (0, [some (.ref 91), some (.int i1), some (.int i2), some (.int i3), some (.int i4), some (.int i5), some (.int i6), some (.int i7), some (.int i8), none], [], (hM Z M)) =
    bif !decide (i3 = 0) then bif !decide (i4 = 0) then bif !decide (i5 = 0) then bif !decide (i6 = 0) then bif !decide (i7 = 0) then bif !decide (i8 = 0) then bif !decide ((M.2 7) = 0) then some (some (.int 0), (hM Z M))
                else bif !decide (((M.2 3) - (M.2 2)) = 8) then some (some (.int 0), (hM Z M))
                  else aftK (sem PGM d yM_isName) 1 (86, [some (.ref 91), some (.int i1), some (.int i2), some (.int i3), some (.int i4), some (.int i5), some (.int i6), some (.int i7), some (.int i8), some (.int 8)], [], (hM Z M)) (call PGM d yM_isAt [.ref 91, .int 0, .int i1] (hM Z M))
              else bif !decide ((M.2 7) = 0) then some (some (.int 0), (hM Z M))
                else bif !decide (((M.2 3) - (M.2 2)) = 7) then some (some (.int 0), (hM Z M))
                  else aftK (sem PGM d yM_isName) 1 (86, [some (.ref 91), some (.int i1), some (.int i2), some (.int i3), some (.int i4), some (.int i5), some (.int i6), some (.int i7), some (.int i8), some (.int 7)], [], (hM Z M)) (call PGM d yM_isAt [.ref 91, .int 0, .int i1] (hM Z M))
            else bif !decide ((M.2 7) = 0) then some (some (.int 0), (hM Z M))
              else bif !decide (((M.2 3) - (M.2 2)) = 6) then some (some (.int 0), (hM Z M))
                else aftK (sem PGM d yM_isName) 1 (86, [some (.ref 91), some (.int i1), some (.int i2), some (.int i3), some (.int i4), some (.int i5), some (.int i6), some (.int i7), some (.int i8), some (.int 6)], [], (hM Z M)) (call PGM d yM_isAt [.ref 91, .int 0, .int i1] (hM Z M))
          else bif !decide ((M.2 7) = 0) then some (some (.int 0), (hM Z M))
            else bif !decide (((M.2 3) - (M.2 2)) = 5) then some (some (.int 0), (hM Z M))
              else aftK (sem PGM d yM_isName) 1 (86, [some (.ref 91), some (.int i1), some (.int i2), some (.int i3), some (.int i4), some (.int i5), some (.int i6), some (.int i7), some (.int i8), some (.int 5)], [], (hM Z M)) (call PGM d yM_isAt [.ref 91, .int 0, .int i1] (hM Z M))
        else bif !decide ((M.2 7) = 0) then some (some (.int 0), (hM Z M))
          else bif !decide (((M.2 3) - (M.2 2)) = 4) then some (some (.int 0), (hM Z M))
            else aftK (sem PGM d yM_isName) 1 (86, [some (.ref 91), some (.int i1), some (.int i2), some (.int i3), some (.int i4), some (.int i5), some (.int i6), some (.int i7), some (.int i8), some (.int 4)], [], (hM Z M)) (call PGM d yM_isAt [.ref 91, .int 0, .int i1] (hM Z M))
      else bif !decide ((M.2 7) = 0) then some (some (.int 0), (hM Z M))
        else bif !decide (((M.2 3) - (M.2 2)) = 3) then some (some (.int 0), (hM Z M))
          else aftK (sem PGM d yM_isName) 1 (86, [some (.ref 91), some (.int i1), some (.int i2), some (.int i3), some (.int i4), some (.int i5), some (.int i6), some (.int i7), some (.int i8), some (.int 3)], [], (hM Z M)) (call PGM d yM_isAt [.ref 91, .int 0, .int i1] (hM Z M))
    else bif !decide ((M.2 7) = 0) then some (some (.int 0), (hM Z M))
      else bif !decide (((M.2 3) - (M.2 2)) = 2) then some (some (.int 0), (hM Z M))
        else aftK (sem PGM d yM_isName) 1 (86, [some (.ref 91), some (.int i1), some (.int i2), some (.int i3), some (.int i4), some (.int i5), some (.int i6), some (.int i7), some (.int i8), some (.int 2)], [], (hM Z M)) (call PGM d yM_isAt [.ref 91, .int 0, .int i1] (hM Z M)) := (ev_eq PGM d yM_isName [] 400 _).trans rfl
set_option maxRecDepth 100000 in
theorem eM_isName_86 (d : Nat) (Z : ZT) (M : MS) (u1 : Option Value) (i2 : Int32) (i3 : Int32) (i4 : Int32) (i5 : Int32) (i6 : Int32) (i7 : Int32) (i8 : Int32) (u9 : Option Value) (k0 : Int32) : sem PGM d yM_isName (86, [some (.ref 91), u1, some (.int i2), some (.int i3), some (.int i4), some (.int i5), some (.int i6), some (.int i7), some (.int i8), u9], [.int k0], (hM Z M)) =
    bif decide (k0 = 0) then some (some (.int 0), (hM Z M))
    else aftK (sem PGM d yM_isName) 1 (95, [some (.ref 91), u1, some (.int i2), some (.int i3), some (.int i4), some (.int i5), some (.int i6), some (.int i7), some (.int i8), u9], [], (hM Z M)) (call PGM d yM_isAt [.ref 91, .int 1, .int i2] (hM Z M)) := (ev_eq PGM d yM_isName [] 400 _).trans rfl
set_option maxRecDepth 100000 in
theorem eM_isName_95 (d : Nat) (Z : ZT) (M : MS) (u1 : Option Value) (u2 : Option Value) (i3 : Int32) (i4 : Int32) (i5 : Int32) (i6 : Int32) (i7 : Int32) (i8 : Int32) (u9 : Option Value) (k0 : Int32) : sem PGM d yM_isName (95, [some (.ref 91), u1, u2, some (.int i3), some (.int i4), some (.int i5), some (.int i6), some (.int i7), some (.int i8), u9], [.int k0], (hM Z M)) =
    bif decide (k0 = 0) then some (some (.int 0), (hM Z M))
    else aftK (sem PGM d yM_isName) 1 (104, [some (.ref 91), u1, u2, some (.int i3), some (.int i4), some (.int i5), some (.int i6), some (.int i7), some (.int i8), u9], [], (hM Z M)) (call PGM d yM_isAt [.ref 91, .int 2, .int i3] (hM Z M)) := (ev_eq PGM d yM_isName [] 400 _).trans rfl
set_option maxRecDepth 100000 in
theorem eM_isName_104 (d : Nat) (Z : ZT) (M : MS) (u1 : Option Value) (u2 : Option Value) (u3 : Option Value) (i4 : Int32) (i5 : Int32) (i6 : Int32) (i7 : Int32) (i8 : Int32) (u9 : Option Value) (k0 : Int32) : sem PGM d yM_isName (104, [some (.ref 91), u1, u2, u3, some (.int i4), some (.int i5), some (.int i6), some (.int i7), some (.int i8), u9], [.int k0], (hM Z M)) =
    bif decide (k0 = 0) then some (some (.int 0), (hM Z M))
    else aftK (sem PGM d yM_isName) 1 (114, [some (.ref 91), u1, u2, u3, some (.int i4), some (.int i5), some (.int i6), some (.int i7), some (.int i8), u9], [], (hM Z M)) (call PGM d yM_isAt [.ref 91, .int 3, .int i4] (hM Z M)) := (ev_eq PGM d yM_isName [] 400 _).trans rfl
set_option maxRecDepth 100000 in
theorem eM_isName_114 (d : Nat) (Z : ZT) (M : MS) (u1 : Option Value) (u2 : Option Value) (u3 : Option Value) (u4 : Option Value) (i5 : Int32) (i6 : Int32) (i7 : Int32) (i8 : Int32) (u9 : Option Value) (k0 : Int32) : sem PGM d yM_isName (114, [some (.ref 91), u1, u2, u3, u4, some (.int i5), some (.int i6), some (.int i7), some (.int i8), u9], [.int k0], (hM Z M)) =
    bif decide (k0 = 0) then some (some (.int 0), (hM Z M))
    else aftK (sem PGM d yM_isName) 1 (124, [some (.ref 91), u1, u2, u3, u4, some (.int i5), some (.int i6), some (.int i7), some (.int i8), u9], [], (hM Z M)) (call PGM d yM_isAt [.ref 91, .int 4, .int i5] (hM Z M)) := (ev_eq PGM d yM_isName [] 400 _).trans rfl
set_option maxRecDepth 100000 in
theorem eM_isName_124 (d : Nat) (Z : ZT) (M : MS) (u1 : Option Value) (u2 : Option Value) (u3 : Option Value) (u4 : Option Value) (u5 : Option Value) (i6 : Int32) (i7 : Int32) (i8 : Int32) (u9 : Option Value) (k0 : Int32) : sem PGM d yM_isName (124, [some (.ref 91), u1, u2, u3, u4, u5, some (.int i6), some (.int i7), some (.int i8), u9], [.int k0], (hM Z M)) =
    bif decide (k0 = 0) then some (some (.int 0), (hM Z M))
    else aftK (sem PGM d yM_isName) 1 (134, [some (.ref 91), u1, u2, u3, u4, u5, some (.int i6), some (.int i7), some (.int i8), u9], [], (hM Z M)) (call PGM d yM_isAt [.ref 91, .int 5, .int i6] (hM Z M)) := (ev_eq PGM d yM_isName [] 400 _).trans rfl
set_option maxRecDepth 100000 in
theorem eM_isName_134 (d : Nat) (Z : ZT) (M : MS) (u1 : Option Value) (u2 : Option Value) (u3 : Option Value) (u4 : Option Value) (u5 : Option Value) (u6 : Option Value) (i7 : Int32) (i8 : Int32) (u9 : Option Value) (k0 : Int32) : sem PGM d yM_isName (134, [some (.ref 91), u1, u2, u3, u4, u5, u6, some (.int i7), some (.int i8), u9], [.int k0], (hM Z M)) =
    bif decide (k0 = 0) then some (some (.int 0), (hM Z M))
    else aftK (sem PGM d yM_isName) 1 (145, [some (.ref 91), u1, u2, u3, u4, u5, u6, some (.int i7), some (.int i8), u9], [], (hM Z M)) (call PGM d yM_isAt [.ref 91, .int 6, .int i7] (hM Z M)) := (ev_eq PGM d yM_isName [] 400 _).trans rfl
set_option maxRecDepth 100000 in
theorem eM_isName_145 (d : Nat) (Z : ZT) (M : MS) (u1 : Option Value) (u2 : Option Value) (u3 : Option Value) (u4 : Option Value) (u5 : Option Value) (u6 : Option Value) (u7 : Option Value) (i8 : Int32) (u9 : Option Value) (k0 : Int32) : sem PGM d yM_isName (145, [some (.ref 91), u1, u2, u3, u4, u5, u6, u7, some (.int i8), u9], [.int k0], (hM Z M)) =
    bif decide (k0 = 0) then some (some (.int 0), (hM Z M))
    else aftK (sem PGM d yM_isName) 1 (156, [some (.ref 91), u1, u2, u3, u4, u5, u6, u7, some (.int i8), u9], [], (hM Z M)) (call PGM d yM_isAt [.ref 91, .int 7, .int i8] (hM Z M)) := (ev_eq PGM d yM_isName [] 400 _).trans rfl
set_option maxRecDepth 100000 in
theorem eM_isName_156 (d : Nat) (Z : ZT) (M : MS) (u0 : Option Value) (u1 : Option Value) (u2 : Option Value) (u3 : Option Value) (u4 : Option Value) (u5 : Option Value) (u6 : Option Value) (u7 : Option Value) (i8 : Int32) (u9 : Option Value) (k0 : Int32) : sem PGM d yM_isName (156, [u0, u1, u2, u3, u4, u5, u6, u7, some (.int i8), u9], [.int k0], (hM Z M)) =
    bif decide (k0 = 0) then some (some (.int 0), (hM Z M))
    else some (some (.int 1), (hM Z M)) := (ev_eq PGM d yM_isName [] 400 _).trans rfl
set_option maxRecDepth 100000 in
theorem eM_isAt_0 (d : Nat) (Z : ZT) (M : MS) (i1 : Int32) (i2 : Int32) : sem PGM d yM_isAt (0, [some (.ref 91), some (.int i1), some (.int i2)], [], (hM Z M)) =
    bif decide (i2 = 0) then some (some (.int 1), (hM Z M))
    else aftK (sem PGM d yM_isAt) 1 (14, [some (.ref 91), some (.int i1), some (.int i2)], [], (hM Z M)) (call PGM d yM_byteAt [.ref 91, .int ((M.2 2) + i1)] (hM Z M)) := (ev_eq PGM d yM_isAt [] 400 _).trans rfl
set_option maxRecDepth 100000 in
theorem eM_isAt_14 (d : Nat) (Z : ZT) (M : MS) (u0 : Option Value) (u1 : Option Value) (i2 : Int32) (k0 : Int32) : sem PGM d yM_isAt (14, [u0, u1, some (.int i2)], [.int k0], (hM Z M)) =
    bif !decide (k0 = i2) then some (some (.int 0), (hM Z M))
    else some (some (.int 1), (hM Z M)) := (ev_eq PGM d yM_isAt [] 400 _).trans rfl
set_option maxRecDepth 100000 in
theorem eM_needs_0 (d : Nat) (Z : ZT) (M : MS) (i1 : Int32) : sem PGM d yM_needs (0, [some (.ref 91), some (.int i1)], [], (hM Z M)) =
    bif !decide ((M.2 7) = 0) then sem PGM d yM_needs (20, [some (.ref 91), some (.int i1)], [], (hM Z (mV M 7 1)))
    else bif !decide (i1 = 0) then sem PGM d yM_needs (20, [some (.ref 91), some (.int i1)], [], (hM Z (mV M 7 0)))
      else sem PGM d yM_needs (20, [some (.ref 91), some (.int i1)], [], (hM Z (mV M 7 1))) := (ev_eq PGM d yM_needs [20] 400 _).trans rfl
set_option maxRecDepth 100000 in
theorem eM_needs_20 (d : Nat) (Z : ZT) (M : MS) (u1 : Option Value) : sem PGM d yM_needs (20, [some (.ref 91), u1], [], (hM Z M)) =
    bif !decide ((M.2 7) = 0) then some (none, (hM Z M))
    else aftK (sem PGM d yM_needs) 0 (31, [some (.ref 91), u1], [], (hM Z M)) (call PGM d yM_next [.ref 91] (hM Z M)) := (ev_eq PGM d yM_needs [20] 400 _).trans rfl
set_option maxRecDepth 100000 in
theorem eM_needs_31 (d : Nat) (Z : ZT) (M : MS) (u0 : Option Value) (u1 : Option Value) : sem PGM d yM_needs (31, [u0, u1], [], (hM Z M)) =
    some (none, (hM Z M)) := (ev_eq PGM d yM_needs [20] 400 _).trans rfl
set_option maxRecDepth 100000 in
theorem eM_actHere_0 (d : Nat) (Z : ZT) (M : MS)  : sem PGM d yM_actHere (0, [some (.ref 91)], [], (hM Z M)) =
    aftK (sem PGM d yM_actHere) 1 (15, [some (.ref 91)], [], (hM Z M)) (call PGM d yM_isName [.ref 91, .int 114, .int 117, .int 110, .int 0, .int 0, .int 0, .int 0, .int 0] (hM Z M)) := (ev_eq PGM d yM_actHere [] 400 _).trans rfl
set_option maxRecDepth 100000 in
theorem eM_actHere_15 (d : Nat) (Z : ZT) (M : MS) (k0 : Int32) : sem PGM d yM_actHere (15, [some (.ref 91)], [.int k0], (hM Z M)) =
    bif decide (k0 = 0) then aftK (sem PGM d yM_actHere) 1 (39, [some (.ref 91)], [], (hM Z M)) (call PGM d yM_isName [.ref 91, .int 115, .int 116, .int 97, .int 110, .int 100, .int 0, .int 0, .int 0] (hM Z M))
    else some (some (.int 0), (hM Z M)) := (ev_eq PGM d yM_actHere [] 400 _).trans rfl
set_option maxRecDepth 100000 in
theorem eM_actHere_39 (d : Nat) (Z : ZT) (M : MS) (k0 : Int32) : sem PGM d yM_actHere (39, [some (.ref 91)], [.int k0], (hM Z M)) =
    bif decide (k0 = 0) then aftK (sem PGM d yM_actHere) 1 (63, [some (.ref 91)], [], (hM Z M)) (call PGM d yM_isName [.ref 91, .int 108, .int 101, .int 97, .int 118, .int 101, .int 0, .int 0, .int 0] (hM Z M))
    else some (some (.int 1), (hM Z M)) := (ev_eq PGM d yM_actHere [] 400 _).trans rfl
set_option maxRecDepth 100000 in
theorem eM_actHere_63 (d : Nat) (Z : ZT) (M : MS) (k0 : Int32) : sem PGM d yM_actHere (63, [some (.ref 91)], [.int k0], (hM Z M)) =
    bif decide (k0 = 0) then aftK (sem PGM d yM_actHere) 1 (86, [some (.ref 91)], [], (hM Z M)) (call PGM d yM_isName [.ref 91, .int 100, .int 111, .int 119, .int 110, .int 0, .int 0, .int 0, .int 0] (hM Z M))
    else some (some (.int 2), (hM Z M)) := (ev_eq PGM d yM_actHere [] 400 _).trans rfl
set_option maxRecDepth 100000 in
theorem eM_actHere_86 (d : Nat) (Z : ZT) (M : MS) (u0 : Option Value) (k0 : Int32) : sem PGM d yM_actHere (86, [u0], [.int k0], (hM Z M)) =
    bif decide (k0 = 0) then some (some (.int (-1)), (hM Z M))
    else some (some (.int 3), (hM Z M)) := (ev_eq PGM d yM_actHere [] 400 _).trans rfl
set_option maxRecDepth 100000 in
theorem eM_condition_0 (d : Nat) (Z : ZT) (M : MS)  : sem PGM d yM_condition (0, [some (.ref 91)], [], (hM Z M)) =
    aftK (sem PGM d yM_condition) 0 (4, [some (.ref 91)], [], (hM Z M)) (call PGM d yM_every [.ref 91] (hM Z M)) := (ev_eq PGM d yM_condition [4] 400 _).trans rfl
set_option maxRecDepth 100000 in
theorem eM_condition_4 (d : Nat) (Z : ZT) (M : MS)  : sem PGM d yM_condition (4, [some (.ref 91)], [], (hM Z M)) =
    aftK (sem PGM d yM_condition) 1 (18, [some (.ref 91)], [], (hM Z M)) (call PGM d yM_isName [.ref 91, .int 111, .int 114, .int 0, .int 0, .int 0, .int 0, .int 0, .int 0] (hM Z M)) := (ev_eq PGM d yM_condition [4] 400 _).trans rfl
set_option maxRecDepth 100000 in
theorem eM_condition_18 (d : Nat) (Z : ZT) (M : MS) (k0 : Int32) : sem PGM d yM_condition (18, [some (.ref 91)], [.int k0], (hM Z M)) =
    bif decide (k0 = 0) then some (none, (hM Z M))
    else aftK (sem PGM d yM_condition) 0 (26, [some (.ref 91)], [], (hM Z M)) (call PGM d yM_needs [.ref 91, .int 1] (hM Z M)) := (ev_eq PGM d yM_condition [4] 400 _).trans rfl
set_option maxRecDepth 100000 in
theorem eM_condition_26 (d : Nat) (Z : ZT) (M : MS)  : sem PGM d yM_condition (26, [some (.ref 91)], [], (hM Z M)) =
    aftK (sem PGM d yM_condition) 0 (30, [some (.ref 91)], [], (hM Z M)) (call PGM d yM_every [.ref 91] (hM Z M)) := (ev_eq PGM d yM_condition [4] 400 _).trans rfl
set_option maxRecDepth 100000 in
theorem eM_condition_30 (d : Nat) (Z : ZT) (M : MS)  : sem PGM d yM_condition (30, [some (.ref 91)], [], (hM Z M)) =
    aftK (sem PGM d yM_condition) 0 (37, [some (.ref 91)], [], (hM Z M)) (call PGM d yM_emits [.ref 91, .int 10012] (hM Z M)) := (ev_eq PGM d yM_condition [4] 400 _).trans rfl
set_option maxRecDepth 100000 in
theorem eM_condition_37 (d : Nat) (Z : ZT) (M : MS)  : sem PGM d yM_condition (37, [some (.ref 91)], [], (hM Z M)) =
    sem PGM d yM_condition (4, [some (.ref 91)], [], (hM Z M)) := (ev_eq PGM d yM_condition [4] 400 _).trans rfl
set_option maxRecDepth 100000 in
theorem eM_every_0 (d : Nat) (Z : ZT) (M : MS)  : sem PGM d yM_every (0, [some (.ref 91)], [], (hM Z M)) =
    aftK (sem PGM d yM_every) 0 (4, [some (.ref 91)], [], (hM Z M)) (call PGM d yM_single [.ref 91] (hM Z M)) := (ev_eq PGM d yM_every [4] 400 _).trans rfl
set_option maxRecDepth 100000 in
theorem eM_every_4 (d : Nat) (Z : ZT) (M : MS)  : sem PGM d yM_every (4, [some (.ref 91)], [], (hM Z M)) =
    aftK (sem PGM d yM_every) 1 (19, [some (.ref 91)], [], (hM Z M)) (call PGM d yM_isName [.ref 91, .int 97, .int 110, .int 100, .int 0, .int 0, .int 0, .int 0, .int 0] (hM Z M)) := (ev_eq PGM d yM_every [4] 400 _).trans rfl
set_option maxRecDepth 100000 in
theorem eM_every_19 (d : Nat) (Z : ZT) (M : MS) (k0 : Int32) : sem PGM d yM_every (19, [some (.ref 91)], [.int k0], (hM Z M)) =
    bif decide (k0 = 0) then some (none, (hM Z M))
    else aftK (sem PGM d yM_every) 0 (27, [some (.ref 91)], [], (hM Z M)) (call PGM d yM_needs [.ref 91, .int 1] (hM Z M)) := (ev_eq PGM d yM_every [4] 400 _).trans rfl
set_option maxRecDepth 100000 in
theorem eM_every_27 (d : Nat) (Z : ZT) (M : MS)  : sem PGM d yM_every (27, [some (.ref 91)], [], (hM Z M)) =
    aftK (sem PGM d yM_every) 0 (31, [some (.ref 91)], [], (hM Z M)) (call PGM d yM_single [.ref 91] (hM Z M)) := (ev_eq PGM d yM_every [4] 400 _).trans rfl
set_option maxRecDepth 100000 in
theorem eM_every_31 (d : Nat) (Z : ZT) (M : MS)  : sem PGM d yM_every (31, [some (.ref 91)], [], (hM Z M)) =
    aftK (sem PGM d yM_every) 0 (38, [some (.ref 91)], [], (hM Z M)) (call PGM d yM_emits [.ref 91, .int 10011] (hM Z M)) := (ev_eq PGM d yM_every [4] 400 _).trans rfl
set_option maxRecDepth 100000 in
theorem eM_every_38 (d : Nat) (Z : ZT) (M : MS)  : sem PGM d yM_every (38, [some (.ref 91)], [], (hM Z M)) =
    sem PGM d yM_every (4, [some (.ref 91)], [], (hM Z M)) := (ev_eq PGM d yM_every [4] 400 _).trans rfl
set_option maxRecDepth 100000 in
theorem eM_single_0 (d : Nat) (Z : ZT) (M : MS)  : sem PGM d yM_single (0, [some (.ref 91), none, none], [], (hM Z M)) =
    sem PGM d yM_single (2, [some (.ref 91), some (.int 0), none], [], (hM Z M)) := (ev_eq PGM d yM_single [2, 122] 400 _).trans rfl
set_option maxRecDepth 100000 in
theorem eM_single_2 (d : Nat) (Z : ZT) (M : MS) (i1 : Int32) (u2 : Option Value) : sem PGM d yM_single (2, [some (.ref 91), some (.int i1), u2], [], (hM Z M)) =
    aftK (sem PGM d yM_single) 1 (17, [some (.ref 91), some (.int i1), u2], [], (hM Z M)) (call PGM d yM_isName [.ref 91, .int 110, .int 111, .int 116, .int 0, .int 0, .int 0, .int 0, .int 0] (hM Z M)) := (ev_eq PGM d yM_single [2, 122] 400 _).trans rfl
set_option maxRecDepth 100000 in
theorem eM_single_17 (d : Nat) (Z : ZT) (M : MS) (i1 : Int32) (u2 : Option Value) (k0 : Int32) : sem PGM d yM_single (17, [some (.ref 91), some (.int i1), u2], [.int k0], (hM Z M)) =
    bif decide (k0 = 0) then bif decide ((M.2 7) = 0) then aftK (sem PGM d yM_single) 1 (54, [some (.ref 91), some (.int i1), u2], [], (hM Z M)) (call PGM d yM_byteAt [.ref 91, .int (M.2 2)] (hM Z M))
      else some (none, (hM Z M))
    else bif !decide (i1 = 0) then aftK (sem PGM d yM_single) 0 (35, [some (.ref 91), some (.int 0), u2], [], (hM Z M)) (call PGM d yM_needs [.ref 91, .int 1] (hM Z M))
      else aftK (sem PGM d yM_single) 0 (35, [some (.ref 91), some (.int 1), u2], [], (hM Z M)) (call PGM d yM_needs [.ref 91, .int 1] (hM Z M)) := (ev_eq PGM d yM_single [2, 122] 400 _).trans rfl
set_option maxRecDepth 100000 in
theorem eM_single_54 (d : Nat) (Z : ZT) (M : MS) (i1 : Int32) (u2 : Option Value) (k0 : Int32) : sem PGM d yM_single (54, [some (.ref 91), some (.int i1), u2], [.int k0], (hM Z M)) =
    bif !decide (k0 = 40) then aftK (sem PGM d yM_single) 0 (129, [some (.ref 91), some (.int i1), u2], [], (hM Z M)) (call PGM d yM_value [.ref 91] (hM Z M))
    else bif decide (3 ≤ (M.2 4)) then aftK (sem PGM d yM_single) 0 (76, [some (.ref 91), some (.int i1), u2], [], (hM Z M)) (call PGM d yM_needs [.ref 91, .int 0] (hM Z M))
      else aftK (sem PGM d yM_single) 0 (76, [some (.ref 91), some (.int i1), u2], [], (hM Z M)) (call PGM d yM_needs [.ref 91, .int 1] (hM Z M)) := (ev_eq PGM d yM_single [2, 122] 400 _).trans rfl
set_option maxRecDepth 100000 in
theorem eM_single_35 (d : Nat) (Z : ZT) (M : MS) (i1 : Int32) (u2 : Option Value) : sem PGM d yM_single (35, [some (.ref 91), some (.int i1), u2], [], (hM Z M)) =
    sem PGM d yM_single (2, [some (.ref 91), some (.int i1), u2], [], (hM Z M)) := (ev_eq PGM d yM_single [2, 122] 400 _).trans rfl
set_option maxRecDepth 100000 in
theorem eM_single_129 (d : Nat) (Z : ZT) (M : MS) (i1 : Int32) (u2 : Option Value) : sem PGM d yM_single (129, [some (.ref 91), some (.int i1), u2], [], (hM Z M)) =
    aftK (sem PGM d yM_single) 1 (137, [some (.ref 91), some (.int i1), u2], [], (hM Z M)) (call PGM d yM_byteAt [.ref 91, .int (M.2 2)] (hM Z M)) := (ev_eq PGM d yM_single [2, 122] 400 _).trans rfl
set_option maxRecDepth 100000 in
theorem eM_single_76 (d : Nat) (Z : ZT) (M : MS) (i1 : Int32) (u2 : Option Value) : sem PGM d yM_single (76, [some (.ref 91), some (.int i1), u2], [], (hM Z M)) =
    aftK (sem PGM d yM_single) 0 (90, [some (.ref 91), some (.int i1), u2], [], (hM Z (mV M 4 ((M.2 4) + 1)))) (call PGM d yM_condition [.ref 91] (hM Z (mV M 4 ((M.2 4) + 1)))) := (ev_eq PGM d yM_single [2, 122] 400 _).trans rfl
set_option maxRecDepth 100000 in
theorem eM_single_137 (d : Nat) (Z : ZT) (M : MS) (i1 : Int32) (u2 : Option Value) (k0 : Int32) : sem PGM d yM_single (137, [some (.ref 91), some (.int i1), u2], [.int k0], (hM Z M)) =
    bif decide (k0 = 60) then aftK (sem PGM d yM_single) 0 (165, [some (.ref 91), some (.int i1), some (.int k0)], [], (hM Z M)) (call PGM d yM_needs [.ref 91, .int 1] (hM Z M))
    else bif decide (k0 = 61) then aftK (sem PGM d yM_single) 0 (165, [some (.ref 91), some (.int i1), some (.int k0)], [], (hM Z M)) (call PGM d yM_needs [.ref 91, .int 1] (hM Z M))
      else bif !decide (k0 = 62) then aftK (sem PGM d yM_single) 0 (165, [some (.ref 91), some (.int i1), some (.int k0)], [], (hM Z M)) (call PGM d yM_needs [.ref 91, .int 0] (hM Z M))
        else aftK (sem PGM d yM_single) 0 (165, [some (.ref 91), some (.int i1), some (.int k0)], [], (hM Z M)) (call PGM d yM_needs [.ref 91, .int 1] (hM Z M)) := (ev_eq PGM d yM_single [2, 122] 400 _).trans rfl
set_option maxRecDepth 100000 in
theorem eM_single_90 (d : Nat) (Z : ZT) (M : MS) (i1 : Int32) (u2 : Option Value) : sem PGM d yM_single (90, [some (.ref 91), some (.int i1), u2], [], (hM Z M)) =
    aftK (sem PGM d yM_single) 1 (99, [some (.ref 91), some (.int i1), u2], [.ref 91], (hM Z M)) (call PGM d yM_byteAt [.ref 91, .int (M.2 2)] (hM Z M)) := (ev_eq PGM d yM_single [2, 122] 400 _).trans rfl
set_option maxRecDepth 100000 in
theorem eM_single_165 (d : Nat) (Z : ZT) (M : MS) (i1 : Int32) (i2 : Int32) : sem PGM d yM_single (165, [some (.ref 91), some (.int i1), some (.int i2)], [], (hM Z M)) =
    aftK (sem PGM d yM_single) 0 (169, [some (.ref 91), some (.int i1), some (.int i2)], [], (hM Z M)) (call PGM d yM_value [.ref 91] (hM Z M)) := (ev_eq PGM d yM_single [2, 122] 400 _).trans rfl
set_option maxRecDepth 100000 in
theorem eM_single_99 (d : Nat) (Z : ZT) (M : MS) (i1 : Int32) (u2 : Option Value) (k1 : Int32) : sem PGM d yM_single (99, [some (.ref 91), some (.int i1), u2], [.int k1, .ref 91], (hM Z M)) =
    bif !decide (k1 = 41) then aftK (sem PGM d yM_single) 0 (112, [some (.ref 91), some (.int i1), u2], [], (hM Z M)) (call PGM d yM_needs [.ref 91, .int 0] (hM Z M))
    else aftK (sem PGM d yM_single) 0 (112, [some (.ref 91), some (.int i1), u2], [], (hM Z M)) (call PGM d yM_needs [.ref 91, .int 1] (hM Z M)) := (ev_eq PGM d yM_single [2, 122] 400 _).trans rfl
set_option maxRecDepth 100000 in
theorem eM_single_169 (d : Nat) (Z : ZT) (M : MS) (i1 : Int32) (i2 : Int32) : sem PGM d yM_single (169, [some (.ref 91), some (.int i1), some (.int i2)], [], (hM Z M)) =
    aftK (sem PGM d yM_single) 0 (178, [some (.ref 91), some (.int i1), some (.int i2)], [], (hM Z M)) (call PGM d yM_emits [.ref 91, .int (10020 + i2)] (hM Z M)) := (ev_eq PGM d yM_single [2, 122] 400 _).trans rfl
set_option maxRecDepth 100000 in
theorem eM_single_112 (d : Nat) (Z : ZT) (M : MS) (i1 : Int32) (u2 : Option Value) : sem PGM d yM_single (112, [some (.ref 91), some (.int i1), u2], [], (hM Z M)) =
    sem PGM d yM_single (122, [some (.ref 91), some (.int i1), u2], [], (hM Z (mV M 4 ((M.2 4) - 1)))) := (ev_eq PGM d yM_single [2, 122] 400 _).trans rfl
set_option maxRecDepth 100000 in
theorem eM_single_178 (d : Nat) (Z : ZT) (M : MS) (i1 : Int32) (u2 : Option Value) : sem PGM d yM_single (178, [some (.ref 91), some (.int i1), u2], [], (hM Z M)) =
    bif decide (i1 = 0) then some (none, (hM Z M))
    else aftK (sem PGM d yM_single) 0 (189, [some (.ref 91), some (.int i1), u2], [], (hM Z M)) (call PGM d yM_emits [.ref 91, .int 10010] (hM Z M)) := (ev_eq PGM d yM_single [2, 122] 400 _).trans rfl
set_option maxRecDepth 100000 in
theorem eM_single_122 (d : Nat) (Z : ZT) (M : MS) (i1 : Int32) (u2 : Option Value) : sem PGM d yM_single (122, [some (.ref 91), some (.int i1), u2], [], (hM Z M)) =
    bif decide (i1 = 0) then some (none, (hM Z M))
    else aftK (sem PGM d yM_single) 0 (189, [some (.ref 91), some (.int i1), u2], [], (hM Z M)) (call PGM d yM_emits [.ref 91, .int 10010] (hM Z M)) := (ev_eq PGM d yM_single [2, 122] 400 _).trans rfl
set_option maxRecDepth 100000 in
theorem eM_single_189 (d : Nat) (Z : ZT) (M : MS) (i1 : Int32) (u2 : Option Value) : sem PGM d yM_single (189, [some (.ref 91), some (.int i1), u2], [], (hM Z M)) =
    some (none, (hM Z M)) := (ev_eq PGM d yM_single [2, 122] 400 _).trans rfl
