/-! lay over any heap. -/
set_option maxRecDepth 100000 in
theorem eSh_lay_0 (d : Nat) (h : AH) (r0 : Nat) (i1 : Int32) : sem PGM d yS_lay (0, [some (.ref r0), some (.int i1), none, none], [], h) =
    bif okP h r0 5 0 then sem PGM d yS_lay (5, [some (.ref r0), some (.int i1), none, none], [], (pF h r0 0 (.int i1)))
    else none := (ev_eq PGM d yS_lay [5, 7, 14, 33, 47, 80, 106] 400 _).trans rfl
set_option maxRecDepth 100000 in
theorem eSh_lay_5 (d : Nat) (h : AH) (r0 : Nat) (i1 : Int32) (u3 : Option Value) : sem PGM d yS_lay (5, [some (.ref r0), some (.int i1), none, u3], [], h) =
    sem PGM d yS_lay (7, [some (.ref r0), some (.int i1), some (.int 0), u3], [], h) := (ev_eq PGM d yS_lay [5, 7, 14, 33, 47, 80, 106] 400 _).trans rfl
set_option maxRecDepth 100000 in
theorem eSh_lay_7 (d : Nat) (h : AH) (r0 : Nat) (i1 : Int32) (i2 : Int32) (u3 : Option Value) : sem PGM d yS_lay (7, [some (.ref r0), some (.int i1), some (.int i2), u3], [], h) =
    bif decide (2 < i2) then sem PGM d yS_lay (47, [some (.ref r0), some (.int i1), some (.int 0), u3], [], h)
    else sem PGM d yS_lay (14, [some (.ref r0), some (.int i1), some (.int i2), some (.int 0)], [], h) := (ev_eq PGM d yS_lay [5, 7, 14, 33, 47, 80, 106] 400 _).trans rfl
set_option maxRecDepth 100000 in
theorem eSh_lay_47 (d : Nat) (h : AH) (r0 : Nat) (i1 : Int32) (i2 : Int32) (u3 : Option Value) : sem PGM d yS_lay (47, [some (.ref r0), some (.int i1), some (.int i2), u3], [], h) =
    bif okI h r0 5 4 then bif decide ((gI h r0 4) ≤ i2) then sem PGM d yS_lay (80, [some (.ref r0), some (.int i1), some (.int 0), u3], [], h)
      else bif okN h r0 5 6 then none
        else bif okR h r0 5 6 then bif inA h (gR h r0 6) 0 i2 then bif decide ((rA h (gR h r0 6) i2) < i1) then sem PGM d yS_lay (47, [some (.ref r0), some (.int i1), some (.int (i2 + 1)), u3], [], h)
            else bif okC h r0 5 && true then aftK (sem PGM d yS_lay) 0 (72, [some (.ref r0), some (.int i1), some (.int i2), u3], [], h) (call PGM d yS_seat [.ref r0, .int i2, .int (-9)] h)
              else none
          else none
        else none
    else none := (ev_eq PGM d yS_lay [5, 7, 14, 33, 47, 80, 106] 400 _).trans rfl
set_option maxRecDepth 100000 in
theorem eSh_lay_80 (d : Nat) (h : AH) (r0 : Nat) (i1 : Int32) (i2 : Int32) (u3 : Option Value) : sem PGM d yS_lay (80, [some (.ref r0), some (.int i1), some (.int i2), u3], [], h) =
    bif okI h r0 5 9 then bif decide ((gI h r0 9) ≤ i2) then some (none, h)
      else bif okN h r0 5 10 then none
        else bif okR h r0 5 10 then bif inA h (gR h r0 10) 0 i2 then bif decide ((rA h (gR h r0 10) i2) < i1) then sem PGM d yS_lay (106, [some (.ref r0), some (.int i1), some (.int i2), u3], [], h)
            else bif okN h r0 5 10 then none
              else bif okR h r0 5 10 then bif Nat.ble 12 (gR h r0 10) && inA h (gR h r0 10) 0 i2 then sem PGM d yS_lay (106, [some (.ref r0), some (.int i1), some (.int i2), u3], [], (wA h (gR h r0 10) i2 (-9)))
                else none
              else none
          else none
        else none
    else none := (ev_eq PGM d yS_lay [5, 7, 14, 33, 47, 80, 106] 400 _).trans rfl
set_option maxRecDepth 100000 in
theorem eSh_lay_14 (d : Nat) (h : AH) (r0 : Nat) (i1 : Int32) (i2 : Int32) (i3 : Int32) : sem PGM d yS_lay (14, [some (.ref r0), some (.int i1), some (.int i2), some (.int i3)], [], h) =
    bif decide (30 ≤ i3) then sem PGM d yS_lay (7, [some (.ref r0), some (.int i1), some (.int (i2 + 1)), some (.int i3)], [], h)
    else bif okN h r0 5 1 then sem PGM d yS_lay (25, [some (.ref r0), some (.int i1), some (.int i2), some (.int i3)], [.int i2, .null], h)
      else bif okR h r0 5 1 then sem PGM d yS_lay (25, [some (.ref r0), some (.int i1), some (.int i2), some (.int i3)], [.int i2, .ref (gR h r0 1)], h)
      else none := (ev_eq PGM d yS_lay [5, 7, 14, 25, 47, 80] 400 _).trans rfl
set_option maxRecDepth 100000 in
theorem eSh_lay_26 (d : Nat) (h : AH) (r0 q : Nat) (i1 i2 i3 : Int32) : sem PGM d yS_lay (26, [some (.ref r0), some (.int i1), some (.int i2), some (.int i3)], [.ref q], h) =
    bif inA h 3 0 i2 then (bif Nat.ble 12 q && inA h q 0 i3 then sem PGM d yS_lay (33, [some (.ref r0), some (.int i1), some (.int i2), some (.int i3)], [], wA h q i3 (rA h 3 i2)) else none) else none := (ev_eq PGM d yS_lay [33] 400 _).trans rfl
set_option maxRecDepth 100000 in
theorem eSh_lay_33 (d : Nat) (h : AH) (r0 : Nat) (i1 i2 i3 : Int32) : sem PGM d yS_lay (33, [some (.ref r0), some (.int i1), some (.int i2), some (.int i3)], [], h) = sem PGM d yS_lay (14, [some (.ref r0), some (.int i1), some (.int i2), some (.int (i3 + 1))], [], h) := (ev_eq PGM d yS_lay [14] 400 _).trans rfl
