/-! Equations of blocks, by wip/whole/gen/alleq.py. -/
set_option maxRecDepth 100000 in
theorem eB_put_0 (d : Nat) (g : GT) (X : XS) (N T K : SS) (M : MS) (dd : AH) (i1 : Int32) (i2 : Int32) (i3 : Int32) : sem PGM d yB_put (0, [some (.ref 12), some (.int i1), some (.int i2), some (.int i3), none], [], (heapOf g X N T K M dd)) =
    aftK (sem PGM d yB_put) 1 (4, [some (.ref 12), some (.int i1), some (.int i2), some (.int i3), none], [], (heapOf g X N T K M dd)) (call PGM d yB_isHolder [.int i1] (heapOf g X N T K M dd)) := (ev_eq PGM d yB_put [] 400 _).trans rfl
set_option maxRecDepth 100000 in
theorem eB_put_4 (d : Nat) (g : GT) (X : XS) (N T K : SS) (M : MS) (dd : AH) (i1 : Int32) (i2 : Int32) (i3 : Int32) (u4 : Option Value) (k0 : Int32) : sem PGM d yB_put (4, [some (.ref 12), some (.int i1), some (.int i2), some (.int i3), u4], [.int k0], (heapOf g X N T K M dd)) =
    bif !decide (k0 = 0) then bif inb i1 4 && ((X.2.2 0) (i1).toNatClampNeg).isNone then some (some (.int (-11)), (heapOf g X N T K M dd))
      else bif inb i1 4 && ((X.2.2 0) (i1).toNatClampNeg).isSome && Nat.ble 12 (((X.2.2 0) (i1).toNatClampNeg).getD 0) then bif !(Nat.beq (((X.2.2 0) (i1).toNatClampNeg).getD 0) 9) then bif okC (heapOf g X N T K M dd) (((X.2.2 0) (i1).toNatClampNeg).getD 0) 4 && true then aftK (sem PGM d yB_put) 1 (31, [some (.ref 12), some (.int i1), some (.int i2), some (.int i3), some (.ref (((X.2.2 0) (i1).toNatClampNeg).getD 0))], [], (heapOf g X N T K M dd)) (call PGM d yH_has [.ref (((X.2.2 0) (i1).toNatClampNeg).getD 0), .int i2] (heapOf g X N T K M dd))
          else none
        else none
      else none
    else some (some (.int (-1)), (heapOf g X N T K M dd)) := (ev_eq PGM d yB_put [] 400 _).trans rfl
set_option maxRecDepth 100000 in
theorem eB_put_31 (d : Nat) (g : GT) (X : XS) (N T K : SS) (M : MS) (dd : AH) (u0 : Option Value) (u1 : Option Value) (i2 : Int32) (i3 : Int32) (r4 : Nat) (k0 : Int32) : sem PGM d yB_put (31, [u0, u1, some (.int i2), some (.int i3), some (.ref r4)], [.int k0], (heapOf g X N T K M dd)) =
    bif !decide (k0 = 0) then bif okN (heapOf g X N T K M dd) r4 4 1 then bif okC (heapOf g X N T K M dd) r4 4 && true then aftK (sem PGM d yB_put) 1 (49, [u0, u1, some (.int i2), some (.int i3), some (.ref r4)], [.int i2, .null], (heapOf g X N T K M dd)) (call PGM d yH_narrowed [.ref r4, .int i3] (heapOf g X N T K M dd))
        else none
      else bif okR (heapOf g X N T K M dd) r4 4 1 then bif okC (heapOf g X N T K M dd) r4 4 && true then aftK (sem PGM d yB_put) 1 (49, [u0, u1, some (.int i2), some (.int i3), some (.ref r4)], [.int i2, .ref (gR (heapOf g X N T K M dd) r4 1)], (heapOf g X N T K M dd)) (call PGM d yH_narrowed [.ref r4, .int i3] (heapOf g X N T K M dd))
        else none
      else none
    else some (some (.int (-12)), (heapOf g X N T K M dd)) := (ev_eq PGM d yB_put [] 400 _).trans rfl
set_option maxRecDepth 100000 in
theorem eB_put_49 (d : Nat) (g : GT) (X : XS) (N T K : SS) (M : MS) (dd : AH) (u0 : Option Value) (u1 : Option Value) (u2 : Option Value) (i3 : Int32) (u4 : Option Value) (k1 : Int32) (k2 : Int32) : sem PGM d yB_put (49, [u0, u1, u2, some (.int i3), u4], [.int k2, .int k1, .null], (heapOf g X N T K M dd)) =
    none := (ev_eq PGM d yB_put [] 400 _).trans rfl
set_option maxRecDepth 100000 in
theorem eB_put_49x (d : Nat) (g : GT) (X : XS) (N T K : SS) (M : MS) (dd : AH) (u0 : Option Value) (u1 : Option Value) (u2 : Option Value) (i3 : Int32) (u4 : Option Value) (q0 : Nat) (k1 : Int32) (k2 : Int32) : sem PGM d yB_put (49, [u0, u1, u2, some (.int i3), u4], [.int k2, .int k1, .ref q0], (heapOf g X N T K M dd)) =
    bif Nat.ble 12 q0 && inA (heapOf g X N T K M dd) q0 0 k1 then some (some (.int 1), (wA (heapOf g X N T K M dd) q0 k1 k2))
    else none := (ev_eq PGM d yB_put [] 400 _).trans rfl
set_option maxRecDepth 100000 in
theorem eB_item_0 (d : Nat) (g : GT) (X : XS) (N T K : SS) (M : MS) (dd : AH) (i1 : Int32) (i2 : Int32) (i3 : Int32) : sem PGM d yB_item (0, [some (.ref 12), some (.int i1), some (.int i2), some (.int i3), none], [], (heapOf g X N T K M dd)) =
    aftK (sem PGM d yB_item) 1 (4, [some (.ref 12), some (.int i1), some (.int i2), some (.int i3), none], [], (heapOf g X N T K M dd)) (call PGM d yB_isHolder [.int i1] (heapOf g X N T K M dd)) := (ev_eq PGM d yB_item [] 400 _).trans rfl
set_option maxRecDepth 100000 in
theorem eB_item_4 (d : Nat) (g : GT) (X : XS) (N T K : SS) (M : MS) (dd : AH) (i1 : Int32) (i2 : Int32) (i3 : Int32) (u4 : Option Value) (k0 : Int32) : sem PGM d yB_item (4, [some (.ref 12), some (.int i1), some (.int i2), some (.int i3), u4], [.int k0], (heapOf g X N T K M dd)) =
    bif decide (k0 = 0) then some (some (.int (-1)), (heapOf g X N T K M dd))
    else bif decide (i2 < 0) then some (some (.int (-1)), (heapOf g X N T K M dd))
      else bif decide (i2 ≤ 4) then bif inb i1 4 && ((X.2.2 0) (i1).toNatClampNeg).isNone then some (some (.int (-11)), (heapOf g X N T K M dd))
          else bif inb i1 4 && ((X.2.2 0) (i1).toNatClampNeg).isSome && Nat.ble 12 (((X.2.2 0) (i1).toNatClampNeg).getD 0) then bif !(Nat.beq (((X.2.2 0) (i1).toNatClampNeg).getD 0) 9) then bif okI (heapOf g X N T K M dd) (((X.2.2 0) (i1).toNatClampNeg).getD 0) 4 0 then bif decide ((gI (heapOf g X N T K M dd) (((X.2.2 0) (i1).toNatClampNeg).getD 0) 0) = i2) then bif okC (heapOf g X N T K M dd) (((X.2.2 0) (i1).toNatClampNeg).getD 0) 4 && true then aftK (sem PGM d yB_item) 1 (52, [some (.ref 12), some (.int i1), some (.int i2), some (.int i3), some (.ref (((X.2.2 0) (i1).toNatClampNeg).getD 0))], [], (heapOf g X N T K M dd)) (call PGM d yH_has [.ref (((X.2.2 0) (i1).toNatClampNeg).getD 0), .int i3] (heapOf g X N T K M dd))
                  else none
                else some (some (.int (-13)), (heapOf g X N T K M dd))
              else none
            else none
          else none
        else some (some (.int (-1)), (heapOf g X N T K M dd)) := (ev_eq PGM d yB_item [] 400 _).trans rfl
set_option maxRecDepth 100000 in
theorem eB_item_52 (d : Nat) (g : GT) (X : XS) (N T K : SS) (M : MS) (dd : AH) (u0 : Option Value) (u1 : Option Value) (u2 : Option Value) (i3 : Int32) (r4 : Nat) (k0 : Int32) : sem PGM d yB_item (52, [u0, u1, u2, some (.int i3), some (.ref r4)], [.int k0], (heapOf g X N T K M dd)) =
    bif decide (k0 = 0) then some (some (.int (-12)), (heapOf g X N T K M dd))
    else bif okN (heapOf g X N T K M dd) r4 4 1 then none
      else bif okR (heapOf g X N T K M dd) r4 4 1 then bif inA (heapOf g X N T K M dd) (gR (heapOf g X N T K M dd) r4 1) 0 i3 then some (some (.int (rA (heapOf g X N T K M dd) (gR (heapOf g X N T K M dd) r4 1) i3)), (heapOf g X N T K M dd))
        else none
      else none := (ev_eq PGM d yB_item [] 400 _).trans rfl
set_option maxRecDepth 100000 in
theorem eB_widths_0 (d : Nat) (g : GT) (X : XS) (N T K : SS) (M : MS) (dd : AH) (i1 : Int32) (i2 : Int32) (i3 : Int32) : sem PGM d yB_widths (0, [some (.ref 12), some (.int i1), some (.int i2), some (.int i3), none, none, none], [], (heapOf g X N T K M dd)) =
    aftK (sem PGM d yB_widths) 1 (4, [some (.ref 12), some (.int i1), some (.int i2), some (.int i3), none, none, none], [], (heapOf g X N T K M dd)) (call PGM d yB_isHolder [.int i1] (heapOf g X N T K M dd)) := (ev_eq PGM d yB_widths [52] 400 _).trans rfl
set_option maxRecDepth 100000 in
theorem eB_widths_4 (d : Nat) (g : GT) (X : XS) (N T K : SS) (M : MS) (dd : AH) (i1 : Int32) (i2 : Int32) (i3 : Int32) (u6 : Option Value) (k0 : Int32) : sem PGM d yB_widths (4, [some (.ref 12), some (.int i1), some (.int i2), some (.int i3), none, none, u6], [.int k0], (heapOf g X N T K M dd)) =
    bif decide (k0 = 0) then some (some (.int (-1)), (heapOf g X N T K M dd))
    else bif decide (i3 < 0) then some (some (.int (-1)), (heapOf g X N T K M dd))
      else bif decide (i3 ≤ 30) then bif inb i1 4 && ((X.2.2 0) (i1).toNatClampNeg).isNone then some (some (.int (-11)), (heapOf g X N T K M dd))
          else bif inb i1 4 && ((X.2.2 0) (i1).toNatClampNeg).isSome && Nat.ble 12 (((X.2.2 0) (i1).toNatClampNeg).getD 0) then bif !(Nat.beq (((X.2.2 0) (i1).toNatClampNeg).getD 0) 9) then bif okI (heapOf g X N T K M dd) (((X.2.2 0) (i1).toNatClampNeg).getD 0) 4 0 then bif decide ((gI (heapOf g X N T K M dd) (((X.2.2 0) (i1).toNatClampNeg).getD 0) 0) = 0) then sem PGM d yB_widths (52, [some (.ref 12), some (.int i1), some (.int i2), some (.int i3), some (.ref (((X.2.2 0) (i1).toNatClampNeg).getD 0)), some (.int 0), some (.int 0)], [], (heapOf g X N T K M dd))
                else some (some (.int (-13)), (heapOf g X N T K M dd))
              else none
            else none
          else none
        else some (some (.int (-1)), (heapOf g X N T K M dd)) := (ev_eq PGM d yB_widths [52] 400 _).trans rfl
set_option maxRecDepth 100000 in
theorem eB_widths_52 (d : Nat) (g : GT) (X : XS) (N T K : SS) (M : MS) (dd : AH) (u1 : Option Value) (i2 : Int32) (i3 : Int32) (r4 : Nat) (i5 : Int32) (i6 : Int32) : sem PGM d yB_widths (52, [some (.ref 12), u1, some (.int i2), some (.int i3), some (.ref r4), some (.int i5), some (.int i6)], [], (heapOf g X N T K M dd)) =
    bif decide (i3 ≤ i6) then some (some (.int i5), (heapOf g X N T K M dd))
    else bif okC (heapOf g X N T K M dd) r4 4 && true then aftK (sem PGM d yB_widths) 1 (67, [some (.ref 12), u1, some (.int i2), some (.int i3), some (.ref r4), some (.int i5), some (.int i6)], [], (heapOf g X N T K M dd)) (call PGM d yH_has [.ref r4, .int (i2 + i6)] (heapOf g X N T K M dd))
      else none := (ev_eq PGM d yB_widths [52] 400 _).trans rfl
set_option maxRecDepth 100000 in
theorem eB_widths_67 (d : Nat) (g : GT) (X : XS) (N T K : SS) (M : MS) (dd : AH) (u1 : Option Value) (i2 : Int32) (i3 : Int32) (r4 : Nat) (i5 : Int32) (i6 : Int32) (k0 : Int32) : sem PGM d yB_widths (67, [some (.ref 12), u1, some (.int i2), some (.int i3), some (.ref r4), some (.int i5), some (.int i6)], [.int k0], (heapOf g X N T K M dd)) =
    bif !decide (k0 = 0) then bif okN (heapOf g X N T K M dd) r4 4 1 then none
      else bif okR (heapOf g X N T K M dd) r4 4 1 then bif inA (heapOf g X N T K M dd) (gR (heapOf g X N T K M dd) r4 1) 0 (i2 + i6) then aftK (sem PGM d yB_widths) 1 (90, [some (.ref 12), u1, some (.int i2), some (.int i3), some (.ref r4), some (.int i5), some (.int i6)], [], (heapOf g X N T K M dd)) (call PGM d yB_cell [.ref 12, .int i6, .int 0, .int (rA (heapOf g X N T K M dd) (gR (heapOf g X N T K M dd) r4 1) (i2 + i6))] (heapOf g X N T K M dd))
        else none
      else none
    else some (some (.int (-12)), (heapOf g X N T K M dd)) := (ev_eq PGM d yB_widths [52] 400 _).trans rfl
set_option maxRecDepth 100000 in
theorem eB_widths_90 (d : Nat) (g : GT) (X : XS) (N T K : SS) (M : MS) (dd : AH) (u1 : Option Value) (i2 : Int32) (i3 : Int32) (r4 : Nat) (i5 : Int32) (i6 : Int32) (k0 : Int32) : sem PGM d yB_widths (90, [some (.ref 12), u1, some (.int i2), some (.int i3), some (.ref r4), some (.int i5), some (.int i6)], [.int k0], (heapOf g X N T K M dd)) =
    bif decide (k0 = (-1)) then sem PGM d yB_widths (52, [some (.ref 12), u1, some (.int i2), some (.int i3), some (.ref r4), some (.int i5), some (.int (i6 + 1))], [], (heapOf g X N T K M dd))
    else sem PGM d yB_widths (52, [some (.ref 12), u1, some (.int i2), some (.int i3), some (.ref r4), some (.int (i5 + 1)), some (.int (i6 + 1))], [], (heapOf g X N T K M dd)) := (ev_eq PGM d yB_widths [52] 400 _).trans rfl
set_option maxRecDepth 100000 in
theorem eB_shelf_0 (d : Nat) (g : GT) (X : XS) (N T K : SS) (M : MS) (dd : AH) (i1 : Int32) (i2 : Int32) (i3 : Int32) : sem PGM d yB_shelf (0, [some (.ref 12), some (.int i1), some (.int i2), some (.int i3)], [], (heapOf g X N T K M dd)) =
    aftK (sem PGM d yB_shelf) 1 (4, [some (.ref 12), some (.int i1), some (.int i2), some (.int i3)], [], (heapOf g X N T K M dd)) (call PGM d yB_isHolder [.int i1] (heapOf g X N T K M dd)) := (ev_eq PGM d yB_shelf [25, 32] 400 _).trans rfl
set_option maxRecDepth 100000 in
theorem eB_shelf_4 (d : Nat) (g : GT) (X : XS) (N T K : SS) (M : MS) (dd : AH) (i1 : Int32) (i2 : Int32) (i3 : Int32) (k0 : Int32) : sem PGM d yB_shelf (4, [some (.ref 12), some (.int i1), some (.int i2), some (.int i3)], [.int k0], (heapOf g X N T K M dd)) =
    bif decide (k0 = 0) then some (some (.int (-1)), (heapOf g X N T K M dd))
    else aftK (sem PGM d yB_shelf) 1 (13, [some (.ref 12), some (.int i1), some (.int i2), some (.int i3)], [], (heapOf g X N T K M dd)) (call PGM d yB_isThing [.ref 12, .int i2, .int i3] (heapOf g X N T K M dd)) := (ev_eq PGM d yB_shelf [25, 32] 400 _).trans rfl
set_option maxRecDepth 100000 in
theorem eB_shelf_13 (d : Nat) (g : GT) (X : XS) (N T K : SS) (M : MS) (dd : AH) (i1 : Int32) (i2 : Int32) (i3 : Int32) (k0 : Int32) : sem PGM d yB_shelf (13, [some (.ref 12), some (.int i1), some (.int i2), some (.int i3)], [.int k0], (heapOf g X N T K M dd)) =
    bif !decide (k0 = 0) then bif inb i1 4 then sem PGM d yB_shelf (25, [some (.ref 12), some (.int i1), some (.int i2), some (.int i3)], [], (heapOf g (xA X 14 (upd (X.1 14) (i1).toNatClampNeg i2)) N T K M dd))
      else none
    else some (some (.int (-1)), (heapOf g X N T K M dd)) := (ev_eq PGM d yB_shelf [25, 32] 400 _).trans rfl
set_option maxRecDepth 100000 in
theorem eB_shelf_25 (d : Nat) (g : GT) (X : XS) (N T K : SS) (M : MS) (dd : AH) (i1 : Int32) (i2 : Int32) (i3 : Int32) : sem PGM d yB_shelf (25, [some (.ref 12), some (.int i1), some (.int i2), some (.int i3)], [], (heapOf g X N T K M dd)) =
    bif inb i1 4 then sem PGM d yB_shelf (32, [some (.ref 12), some (.int i1), some (.int i2), some (.int i3)], [], (heapOf g (xA X 15 (upd (X.1 15) (i1).toNatClampNeg i3)) N T K M dd))
    else none := (ev_eq PGM d yB_shelf [25, 32] 400 _).trans rfl
set_option maxRecDepth 100000 in
theorem eB_shelf_32 (d : Nat) (g : GT) (X : XS) (N T K : SS) (M : MS) (dd : AH) (i1 : Int32) (i2 : Int32) (i3 : Int32) : sem PGM d yB_shelf (32, [some (.ref 12), some (.int i1), some (.int i2), some (.int i3)], [], (heapOf g X N T K M dd)) =
    bif !decide (i2 = 2) then bif inb i1 4 then some (some (.int 1), (heapOf g (xO X 1 (va_up (X.2.2 1) (i1).toNatClampNeg none)) N T K M dd))
      else none
    else bif inb i3 4 && ((X.2.2 0) (i3).toNatClampNeg).isNone then bif inb i1 4 then some (some (.int 1), (heapOf g (xO X 1 (va_up (X.2.2 1) (i1).toNatClampNeg none)) N T K M dd))
        else none
      else bif inb i3 4 && ((X.2.2 0) (i3).toNatClampNeg).isSome && Nat.ble 12 (((X.2.2 0) (i3).toNatClampNeg).getD 0) then bif Nat.ble 12 (((X.2.2 0) (i3).toNatClampNeg).getD 0) && true && okC (heapOf g X N T K M dd) (((X.2.2 0) (i3).toNatClampNeg).getD 0) 4 && inb i1 4 then some (some (.int 1), (heapOf g (xO X 1 (va_up (X.2.2 1) (i1).toNatClampNeg (some (((X.2.2 0) (i3).toNatClampNeg).getD 0)))) N T K M dd))
        else none
      else none := (ev_eq PGM d yB_shelf [25, 32] 400 _).trans rfl
set_option maxRecDepth 100000 in
theorem eB_isThing_0 (d : Nat) (g : GT) (X : XS) (N T K : SS) (M : MS) (dd : AH) (i1 : Int32) (i2 : Int32) : sem PGM d yB_isThing (0, [some (.ref 12), some (.int i1), some (.int i2)], [], (heapOf g X N T K M dd)) =
    bif decide (i1 = Int32.ofInt 0) then aftK (sem PGM d yB_isThing) 1 (36, [some (.ref 12), some (.int i1), some (.int i2)], [], (heapOf g X N T K M dd)) (call PGM d yS_hasPerson [.ref 43, .int i2] (heapOf g X N T K M dd))
    else bif decide (i1 = Int32.ofInt 1) then aftK (sem PGM d yB_isThing) 1 (45, [some (.ref 12), some (.int i1), some (.int i2)], [], (heapOf g X N T K M dd)) (call PGM d yS_hasBeast [.ref 43, .int i2] (heapOf g X N T K M dd))
    else bif decide (i1 = Int32.ofInt 2) then aftK (sem PGM d yB_isThing) 1 (50, [some (.ref 12), some (.int i1), some (.int i2)], [], (heapOf g X N T K M dd)) (call PGM d yB_isHolder [.int i2] (heapOf g X N T K M dd))
    else bif !decide (i1 = 3) then some (some (.int 0), (heapOf g X N T K M dd))
      else some (some (.int 1), (heapOf g X N T K M dd)) := (ev_eq PGM d yB_isThing [] 400 _).trans rfl
set_option maxRecDepth 100000 in
theorem eB_isThing_36 (d : Nat) (g : GT) (X : XS) (N T K : SS) (M : MS) (dd : AH) (u0 : Option Value) (u1 : Option Value) (u2 : Option Value) (k0 : Int32) : sem PGM d yB_isThing (36, [u0, u1, u2], [.int k0], (heapOf g X N T K M dd)) =
    bif isB k0 then some (some (.int k0), (heapOf g X N T K M dd)) else none := (ev_eq PGM d yB_isThing [] 400 _).trans rfl
set_option maxRecDepth 100000 in
theorem eB_isThing_45 (d : Nat) (g : GT) (X : XS) (N T K : SS) (M : MS) (dd : AH) (u0 : Option Value) (u1 : Option Value) (u2 : Option Value) (k0 : Int32) : sem PGM d yB_isThing (45, [u0, u1, u2], [.int k0], (heapOf g X N T K M dd)) =
    bif isB k0 then some (some (.int k0), (heapOf g X N T K M dd)) else none := (ev_eq PGM d yB_isThing [] 400 _).trans rfl
set_option maxRecDepth 100000 in
theorem eB_isThing_50 (d : Nat) (g : GT) (X : XS) (N T K : SS) (M : MS) (dd : AH) (u0 : Option Value) (u1 : Option Value) (u2 : Option Value) (k0 : Int32) : sem PGM d yB_isThing (50, [u0, u1, u2], [.int k0], (heapOf g X N T K M dd)) =
    bif isB k0 then some (some (.int k0), (heapOf g X N T K M dd)) else none := (ev_eq PGM d yB_isThing [] 400 _).trans rfl
set_option maxRecDepth 100000 in
theorem eB_taken_0 (d : Nat) (g : GT) (X : XS) (N T K : SS) (M : MS) (dd : AH) (i1 : Int32) (i2 : Int32) : sem PGM d yB_taken (0, [some (.ref 12), some (.int i1), some (.int i2), none, none, none, none], [], (heapOf g X N T K M dd)) =
    bif decide (i2 < 0) then bif decide (i2 < 10) then aftK (sem PGM d yB_taken) 1 (39, [some (.ref 12), some (.int i1), some (.int i2), some (.int 0), some (.int 0), none, none], [], (heapOf g X N T K M dd)) (call PGM d yB_isHolder [.int i1] (heapOf g X N T K M dd))
      else bif decide (14 < i2) then aftK (sem PGM d yB_taken) 1 (39, [some (.ref 12), some (.int i1), some (.int i2), some (.int 0), some (.int 0), none, none], [], (heapOf g X N T K M dd)) (call PGM d yB_isHolder [.int i1] (heapOf g X N T K M dd))
        else aftK (sem PGM d yB_taken) 1 (39, [some (.ref 12), some (.int i1), some (.int i2), some (.int 0), some (.int 1), none, none], [], (heapOf g X N T K M dd)) (call PGM d yB_isHolder [.int i1] (heapOf g X N T K M dd))
    else bif decide (8 < i2) then bif decide (i2 < 10) then aftK (sem PGM d yB_taken) 1 (39, [some (.ref 12), some (.int i1), some (.int i2), some (.int 0), some (.int 0), none, none], [], (heapOf g X N T K M dd)) (call PGM d yB_isHolder [.int i1] (heapOf g X N T K M dd))
        else bif decide (14 < i2) then aftK (sem PGM d yB_taken) 1 (39, [some (.ref 12), some (.int i1), some (.int i2), some (.int 0), some (.int 0), none, none], [], (heapOf g X N T K M dd)) (call PGM d yB_isHolder [.int i1] (heapOf g X N T K M dd))
          else aftK (sem PGM d yB_taken) 1 (39, [some (.ref 12), some (.int i1), some (.int i2), some (.int 0), some (.int 1), none, none], [], (heapOf g X N T K M dd)) (call PGM d yB_isHolder [.int i1] (heapOf g X N T K M dd))
      else bif decide (i2 < 10) then aftK (sem PGM d yB_taken) 1 (39, [some (.ref 12), some (.int i1), some (.int i2), some (.int 1), some (.int 0), none, none], [], (heapOf g X N T K M dd)) (call PGM d yB_isHolder [.int i1] (heapOf g X N T K M dd))
        else bif decide (14 < i2) then aftK (sem PGM d yB_taken) 1 (39, [some (.ref 12), some (.int i1), some (.int i2), some (.int 1), some (.int 0), none, none], [], (heapOf g X N T K M dd)) (call PGM d yB_isHolder [.int i1] (heapOf g X N T K M dd))
          else aftK (sem PGM d yB_taken) 1 (39, [some (.ref 12), some (.int i1), some (.int i2), some (.int 1), some (.int 1), none, none], [], (heapOf g X N T K M dd)) (call PGM d yB_isHolder [.int i1] (heapOf g X N T K M dd)) := (ev_eq PGM d yB_taken [] 400 _).trans rfl
set_option maxRecDepth 100000 in
theorem eB_taken_39 (d : Nat) (g : GT) (X : XS) (N T K : SS) (M : MS) (dd : AH) (i1 : Int32) (i2 : Int32) (i3 : Int32) (i4 : Int32) (u6 : Option Value) (k0 : Int32) : sem PGM d yB_taken (39, [some (.ref 12), some (.int i1), some (.int i2), some (.int i3), some (.int i4), none, u6], [.int k0], (heapOf g X N T K M dd)) =
    bif decide (k0 = 0) then some (some (.int (-1)), (heapOf g X N T K M dd))
    else bif !decide (i3 = 0) then bif inb i1 4 && ((X.2.2 1) (i1).toNatClampNeg).isNone then aftK (sem PGM d yB_taken) 1 (95, [some (.ref 12), some (.int i1), some (.int i2), some (.int i3), some (.int i4), some (.null), u6], [], (heapOf g X N T K M dd)) (call PGM d yB_kindOnShelf [.ref 12, .int i1] (heapOf g X N T K M dd))
        else bif inb i1 4 && ((X.2.2 1) (i1).toNatClampNeg).isSome && Nat.ble 12 (((X.2.2 1) (i1).toNatClampNeg).getD 0) then bif !(Nat.beq (((X.2.2 1) (i1).toNatClampNeg).getD 0) 9) then bif okI (heapOf g X N T K M dd) (((X.2.2 1) (i1).toNatClampNeg).getD 0) 4 0 then bif !decide ((gI (heapOf g X N T K M dd) (((X.2.2 1) (i1).toNatClampNeg).getD 0) 0) = (i2 - 10)) then some (some (.int (-13)), (heapOf g X N T K M dd))
              else bif okN (heapOf g X N T K M dd) (((X.2.2 1) (i1).toNatClampNeg).getD 0) 4 1 then none
                else bif okR (heapOf g X N T K M dd) (((X.2.2 1) (i1).toNatClampNeg).getD 0) 4 1 then bif okL (heapOf g X N T K M dd) (gR (heapOf g X N T K M dd) (((X.2.2 1) (i1).toNatClampNeg).getD 0) 1) then some (some (.int (nI (lenA (heapOf g X N T K M dd) (gR (heapOf g X N T K M dd) (((X.2.2 1) (i1).toNatClampNeg).getD 0) 1)))), (heapOf g X N T K M dd))
                  else none
                else none
            else none
          else none
        else none
      else bif !decide (i4 = 0) then bif inb i1 4 && ((X.2.2 1) (i1).toNatClampNeg).isNone then aftK (sem PGM d yB_taken) 1 (95, [some (.ref 12), some (.int i1), some (.int i2), some (.int i3), some (.int i4), some (.null), u6], [], (heapOf g X N T K M dd)) (call PGM d yB_kindOnShelf [.ref 12, .int i1] (heapOf g X N T K M dd))
          else bif inb i1 4 && ((X.2.2 1) (i1).toNatClampNeg).isSome && Nat.ble 12 (((X.2.2 1) (i1).toNatClampNeg).getD 0) then bif !(Nat.beq (((X.2.2 1) (i1).toNatClampNeg).getD 0) 9) then bif okI (heapOf g X N T K M dd) (((X.2.2 1) (i1).toNatClampNeg).getD 0) 4 0 then bif !decide ((gI (heapOf g X N T K M dd) (((X.2.2 1) (i1).toNatClampNeg).getD 0) 0) = (i2 - 10)) then some (some (.int (-13)), (heapOf g X N T K M dd))
                else bif okN (heapOf g X N T K M dd) (((X.2.2 1) (i1).toNatClampNeg).getD 0) 4 1 then none
                  else bif okR (heapOf g X N T K M dd) (((X.2.2 1) (i1).toNatClampNeg).getD 0) 4 1 then bif okL (heapOf g X N T K M dd) (gR (heapOf g X N T K M dd) (((X.2.2 1) (i1).toNatClampNeg).getD 0) 1) then some (some (.int (nI (lenA (heapOf g X N T K M dd) (gR (heapOf g X N T K M dd) (((X.2.2 1) (i1).toNatClampNeg).getD 0) 1)))), (heapOf g X N T K M dd))
                    else none
                  else none
              else none
            else none
          else none
        else some (some (.int (-1)), (heapOf g X N T K M dd)) := (ev_eq PGM d yB_taken [] 400 _).trans rfl
set_option maxRecDepth 100000 in
theorem eB_taken_95 (d : Nat) (g : GT) (X : XS) (N T K : SS) (M : MS) (dd : AH) (i1 : Int32) (i2 : Int32) (i3 : Int32) (i4 : Int32) (u6 : Option Value) (k0 : Int32) : sem PGM d yB_taken (95, [some (.ref 12), some (.int i1), some (.int i2), some (.int i3), some (.int i4), some (.null), u6], [.int k0], (heapOf g X N T K M dd)) =
    bif decide (0 ≤ k0) then bif decide (i3 = 0) then some (some (.int (-13)), (heapOf g X N T K M dd))
      else aftK (sem PGM d yB_taken) 1 (115, [some (.ref 12), some (.int i1), some (.int i2), some (.int i3), some (.int i4), some (.null), some (.int k0)], [], (heapOf g X N T K M dd)) (call PGM d yB_isA [.int k0, .int i2] (heapOf g X N T K M dd))
    else some (some (.int (-11)), (heapOf g X N T K M dd)) := (ev_eq PGM d yB_taken [] 400 _).trans rfl
set_option maxRecDepth 100000 in
theorem eB_taken_115 (d : Nat) (g : GT) (X : XS) (N T K : SS) (M : MS) (dd : AH) (i1 : Int32) (i2 : Int32) (i3 : Int32) (i4 : Int32) (u6 : Option Value) (k0 : Int32) : sem PGM d yB_taken (115, [some (.ref 12), some (.int i1), some (.int i2), some (.int i3), some (.int i4), some (.null), u6], [.int k0], (heapOf g X N T K M dd)) =
    bif decide (k0 = 0) then some (some (.int (-13)), (heapOf g X N T K M dd))
    else bif inb i1 4 then some (some (.int ((X.1 15) (i1).toNatClampNeg)), (heapOf g X N T K M dd))
      else none := (ev_eq PGM d yB_taken [] 400 _).trans rfl
set_option maxRecDepth 100000 in
theorem eB_kindOnShelf_0 (d : Nat) (g : GT) (X : XS) (N T K : SS) (M : MS) (dd : AH) (i1 : Int32) : sem PGM d yB_kindOnShelf (0, [some (.ref 12), some (.int i1), none], [], (heapOf g X N T K M dd)) =
    bif inb i1 4 then bif inb i1 4 then bif !decide (((X.1 14) (i1).toNatClampNeg) = 0) then bif inb i1 4 then bif !decide (((X.1 14) (i1).toNatClampNeg) = 1) then some (some (.int (-1)), (heapOf g X N T K M dd))
            else aftK (sem PGM d yB_kindOnShelf) 1 (55, [some (.ref 12), some (.int i1), some (.int ((X.1 15) (i1).toNatClampNeg))], [], (heapOf g X N T K M dd)) (call PGM d yS_hasBeast [.ref 43, .int ((X.1 15) (i1).toNatClampNeg)] (heapOf g X N T K M dd))
          else none
        else aftK (sem PGM d yB_kindOnShelf) 1 (24, [some (.ref 12), some (.int i1), some (.int ((X.1 15) (i1).toNatClampNeg))], [], (heapOf g X N T K M dd)) (call PGM d yS_hasPerson [.ref 43, .int ((X.1 15) (i1).toNatClampNeg)] (heapOf g X N T K M dd))
      else none
    else none := (ev_eq PGM d yB_kindOnShelf [] 400 _).trans rfl
set_option maxRecDepth 100000 in
theorem eB_kindOnShelf_55 (d : Nat) (g : GT) (X : XS) (N T K : SS) (M : MS) (dd : AH) (u0 : Option Value) (i1 : Int32) (u2 : Option Value) (k0 : Int32) : sem PGM d yB_kindOnShelf (55, [u0, some (.int i1), u2], [.int k0], (heapOf g X N T K M dd)) =
    bif decide (k0 = 0) then some (some (.int (-1)), (heapOf g X N T K M dd))
    else some (some (.int 8), (heapOf g X N T K M dd)) := (ev_eq PGM d yB_kindOnShelf [] 400 _).trans rfl
set_option maxRecDepth 100000 in
theorem eB_kindOnShelf_24 (d : Nat) (g : GT) (X : XS) (N T K : SS) (M : MS) (dd : AH) (i1 : Int32) (i2 : Int32) (k0 : Int32) : sem PGM d yB_kindOnShelf (24, [some (.ref 12), some (.int i1), some (.int i2)], [.int k0], (heapOf g X N T K M dd)) =
    bif decide (k0 = 0) then bif inb i1 4 then bif !decide (((X.1 14) (i1).toNatClampNeg) = 1) then some (some (.int (-1)), (heapOf g X N T K M dd))
        else aftK (sem PGM d yB_kindOnShelf) 1 (55, [some (.ref 12), some (.int i1), some (.int i2)], [], (heapOf g X N T K M dd)) (call PGM d yS_hasBeast [.ref 43, .int i2] (heapOf g X N T K M dd))
      else none
    else bif inb i2 20 then some (some (.int ((N.1 5) (i2).toNatClampNeg)), (heapOf g X N T K M dd))
      else none := (ev_eq PGM d yB_kindOnShelf [] 400 _).trans rfl
set_option maxRecDepth 100000 in
theorem eB_act_0 (d : Nat) (g : GT) (X : XS) (N T K : SS) (M : MS) (dd : AH) (i1 : Int32) (i2 : Int32) (i3 : Int32) : sem PGM d yB_act (0, [some (.ref 12), some (.int i1), some (.int i2), some (.int i3), none, none, none], [], (heapOf g X N T K M dd)) =
    aftK (sem PGM d yB_act) 1 (12, [some (.ref 12), some (.int i1), some (.int i2), some (.int i3), none, none, none], [], (heapOf g (xV X 8 0) N T K M dd)) (call PGM d yB_isHolder [.int i1] (heapOf g (xV X 8 0) N T K M dd)) := (ev_eq PGM d yB_act [] 400 _).trans rfl
set_option maxRecDepth 100000 in
theorem eB_act_12 (d : Nat) (g : GT) (X : XS) (N T K : SS) (M : MS) (dd : AH) (i1 : Int32) (i2 : Int32) (i3 : Int32) (u6 : Option Value) (k0 : Int32) : sem PGM d yB_act (12, [some (.ref 12), some (.int i1), some (.int i2), some (.int i3), none, none, u6], [.int k0], (heapOf g X N T K M dd)) =
    bif decide (k0 = 0) then some (some (.int 0), (heapOf g X N T K M dd))
    else bif decide (i2 < 0) then some (some (.int 0), (heapOf g X N T K M dd))
      else bif decide (i2 ≤ 3) then aftK (sem PGM d yB_act) 1 (31, [some (.ref 12), some (.int i1), some (.int i2), some (.int i3), none, none, u6], [], (heapOf g X N T K M dd)) (call PGM d yB_kindOnShelf [.ref 12, .int i1] (heapOf g X N T K M dd))
        else some (some (.int 0), (heapOf g X N T K M dd)) := (ev_eq PGM d yB_act [] 400 _).trans rfl
set_option maxRecDepth 100000 in
theorem eB_act_31 (d : Nat) (g : GT) (X : XS) (N T K : SS) (M : MS) (dd : AH) (i1 : Int32) (i2 : Int32) (i3 : Int32) (u6 : Option Value) (k0 : Int32) : sem PGM d yB_act (31, [some (.ref 12), some (.int i1), some (.int i2), some (.int i3), none, none, u6], [.int k0], (heapOf g X N T K M dd)) =
    bif decide (0 ≤ k0) then bif inb i1 4 then bif !decide (k0 = 8) then bif inb ((X.1 15) (i1).toNatClampNeg) 20 then aftK (sem PGM d yB_act) 1 (95, [some (.ref 12), some (.int i1), some (.int i2), some (.int i3), some (.int k0), some (.int ((X.1 15) (i1).toNatClampNeg)), some (.int ((N.1 7) (((X.1 15) (i1).toNatClampNeg)).toNatClampNeg))], [], (heapOf g X N T K M dd)) (call PGM d yD_answer [.ref 36, .int k0, .int ((X.1 15) (i1).toNatClampNeg), .int ((N.1 7) (((X.1 15) (i1).toNatClampNeg)).toNatClampNeg), .int i2, .int i3] (heapOf g X N T K M dd))
          else none
        else bif inb ((X.1 15) (i1).toNatClampNeg) 6 then aftK (sem PGM d yB_act) 1 (95, [some (.ref 12), some (.int i1), some (.int i2), some (.int i3), some (.int k0), some (.int ((X.1 15) (i1).toNatClampNeg)), some (.int ((N.1 10) (((X.1 15) (i1).toNatClampNeg)).toNatClampNeg))], [], (heapOf g X N T K M dd)) (call PGM d yD_answer [.ref 36, .int k0, .int ((X.1 15) (i1).toNatClampNeg), .int ((N.1 10) (((X.1 15) (i1).toNatClampNeg)).toNatClampNeg), .int i2, .int i3] (heapOf g X N T K M dd))
          else none
      else none
    else some (some (.int 0), (heapOf g X N T K M dd)) := (ev_eq PGM d yB_act [] 400 _).trans rfl
set_option maxRecDepth 100000 in
theorem eB_act_95 (d : Nat) (g : GT) (X : XS) (N T K : SS) (M : MS) (dd : AH) (u0 : Option Value) (u1 : Option Value) (u2 : Option Value) (i3 : Int32) (i4 : Int32) (i5 : Int32) (u6 : Option Value) (k0 : Int32) : sem PGM d yB_act (95, [u0, u1, u2, some (.int i3), some (.int i4), some (.int i5), u6], [.int k0], (heapOf g X N T K M dd)) =
    some (some (.int k0), (heapOf g X N T K M dd)) := (ev_eq PGM d yB_act [] 400 _).trans rfl
set_option maxRecDepth 100000 in
theorem eB_trace_0 (d : Nat) (g : GT) (X : XS) (N T K : SS) (M : MS) (dd : AH) (i1 : Int32) : sem PGM d yB_trace (0, [some (.ref 12), some (.int i1)], [], (heapOf g X N T K M dd)) =
    bif decide (i1 < 0) then some (some (.int (-3)), (heapOf g X N T K M dd))
    else bif decide ((X.2.1 8) ≤ i1) then some (some (.int (-3)), (heapOf g X N T K M dd))
      else bif inb i1 30 then some (some (.int ((X.1 16) (i1).toNatClampNeg)), (heapOf g X N T K M dd))
        else none := (ev_eq PGM d yB_trace [] 400 _).trans rfl
set_option maxRecDepth 100000 in
theorem eB_many_0 (d : Nat) (g : GT) (X : XS) (N T K : SS) (M : MS) (dd : AH) (i1 : Int32) : sem PGM d yB_many (0, [some (.ref 12), some (.int i1)], [], (heapOf g X N T K M dd)) =
    bif decide (i1 = Int32.ofInt 0) then some (some (.int (N.2.1 0)), (heapOf g X N T K M dd))
    else bif decide (i1 = Int32.ofInt 1) then some (some (.int (N.2.1 1)), (heapOf g X N T K M dd))
    else bif decide (i1 = Int32.ofInt 2) then some (some (.int (N.2.1 2)), (heapOf g X N T K M dd))
    else bif decide (i1 = Int32.ofInt 3) then bif okI (heapOf g X N T K M dd) N.2.2 1 0 then some (some (.int (gI (heapOf g X N T K M dd) N.2.2 0)), (heapOf g X N T K M dd))
      else none
    else bif decide (i1 = Int32.ofInt 4) then some (some (.int (X.2.1 6)), (heapOf g X N T K M dd))
    else bif decide (i1 = Int32.ofInt 5) then some (some (.int (X.2.1 1)), (heapOf g X N T K M dd))
    else bif decide (i1 = Int32.ofInt 6) then some (some (.int (X.2.1 8)), (heapOf g X N T K M dd))
    else some (some (.int (-1)), (heapOf g X N T K M dd)) := (ev_eq PGM d yB_many [] 400 _).trans rfl
set_option maxRecDepth 100000 in
theorem eB_keep_0 (d : Nat) (g : GT) (X : XS) (N T K : SS) (M : MS) (dd : AH)  : sem PGM d yB_keep (0, [some (.ref 12)], [], (heapOf g X N T K M dd)) =
    aftK (sem PGM d yB_keep) 0 (11, [some (.ref 12)], [], (heapOf g X N T K M dd)) (call PGM d yS_copy [.ref 75, .ref 43] (heapOf g X N T K M dd)) := (ev_eq PGM d yB_keep [] 400 _).trans rfl
set_option maxRecDepth 100000 in
theorem eB_keep_11 (d : Nat) (g : GT) (X : XS) (N T K : SS) (M : MS) (dd : AH)  : sem PGM d yB_keep (11, [some (.ref 12)], [], (heapOf g X N T K M dd)) =
    some (some (.int 1), (heapOf g (xV X 0 1) N T K M dd)) := (ev_eq PGM d yB_keep [] 400 _).trans rfl
set_option maxRecDepth 100000 in
theorem eB_again_0 (d : Nat) (g : GT) (X : XS) (N T K : SS) (M : MS) (dd : AH)  : sem PGM d yB_again (0, [some (.ref 12)], [], (heapOf g X N T K M dd)) =
    bif !decide ((X.2.1 0) = 0) then aftK (sem PGM d yB_again) 0 (21, [some (.ref 12)], [], (heapOf g X N T K M dd)) (call PGM d yS_copy [.ref 43, .ref 75] (heapOf g X N T K M dd))
    else some (some (.int (-3)), (heapOf g X N T K M dd)) := (ev_eq PGM d yB_again [] 400 _).trans rfl
set_option maxRecDepth 100000 in
theorem eB_again_21 (d : Nat) (g : GT) (X : XS) (N T K : SS) (M : MS) (dd : AH) (u0 : Option Value) : sem PGM d yB_again (21, [u0], [], (heapOf g X N T K M dd)) =
    some (some (.int 1), (heapOf g X N T K M dd)) := (ev_eq PGM d yB_again [] 400 _).trans rfl
