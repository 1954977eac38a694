/-! Equations of blocks, by wip/whole/gen/alleq.py. -/
set_option maxRecDepth 100000 in
theorem eS_lay_0 (d : Nat) (o : Nat) (ho : o = 43 ∨ o = 59) (S : SS) (Z : RT) (i1 : Int32) : sem PGM d yS_lay (0, [some (.ref o), some (.int i1), none, none], [], (hS o S Z)) =
    sem PGM d yS_lay (5, [some (.ref o), some (.int i1), none, none], [], (hS o (sV S 0 i1) Z)) := by rcases ho with rfl | rfl <;> exact (ev_eq PGM d yS_lay [5, 7, 14, 33, 47, 80, 106] 400 _).trans rfl
set_option maxRecDepth 100000 in
theorem eS_lay_5 (d : Nat) (o : Nat) (ho : o = 43 ∨ o = 59) (S : SS) (Z : RT) (i1 : Int32) (u3 : Option Value) : sem PGM d yS_lay (5, [some (.ref o), some (.int i1), none, u3], [], (hS o S Z)) =
    sem PGM d yS_lay (7, [some (.ref o), some (.int i1), some (.int 0), u3], [], (hS o S Z)) := by rcases ho with rfl | rfl <;> exact (ev_eq PGM d yS_lay [5, 7, 14, 33, 47, 80, 106] 400 _).trans rfl
set_option maxRecDepth 100000 in
theorem eS_lay_7 (d : Nat) (o : Nat) (ho : o = 43 ∨ o = 59) (S : SS) (Z : RT) (i1 : Int32) (i2 : Int32) (u3 : Option Value) : sem PGM d yS_lay (7, [some (.ref o), some (.int i1), some (.int i2), u3], [], (hS o S Z)) =
    bif decide (2 < i2) then sem PGM d yS_lay (47, [some (.ref o), some (.int i1), some (.int 0), u3], [], (hS o S Z))
    else sem PGM d yS_lay (14, [some (.ref o), some (.int i1), some (.int i2), some (.int 0)], [], (hS o S Z)) := by rcases ho with rfl | rfl <;> exact (ev_eq PGM d yS_lay [5, 7, 14, 33, 47, 80, 106] 400 _).trans rfl
set_option maxRecDepth 100000 in
theorem eS_lay_47 (d : Nat) (o : Nat) (ho : o = 43 ∨ o = 59) (S : SS) (Z : RT) (i1 : Int32) (i2 : Int32) (u3 : Option Value) : sem PGM d yS_lay (47, [some (.ref o), some (.int i1), some (.int i2), u3], [], (hS o S Z)) =
    bif decide ((S.2.1 1) ≤ i2) then sem PGM d yS_lay (80, [some (.ref o), some (.int i1), some (.int 0), u3], [], (hS o S Z))
    else bif inb i2 20 then bif decide (((S.1 6) (i2).toNatClampNeg) < i1) then sem PGM d yS_lay (47, [some (.ref o), some (.int i1), some (.int (i2 + 1)), u3], [], (hS o S Z))
        else aftK (sem PGM d yS_lay) 0 (72, [some (.ref o), some (.int i1), some (.int i2), u3], [], (hS o S Z)) (call PGM d yS_seat [.ref o, .int i2, .int (-9)] (hS o S Z))
      else none := by rcases ho with rfl | rfl <;> exact (ev_eq PGM d yS_lay [5, 7, 14, 33, 47, 80, 106] 400 _).trans rfl
set_option maxRecDepth 100000 in
theorem eS_lay_14 (d : Nat) (o : Nat) (ho : o = 43 ∨ o = 59) (S : SS) (Z : RT) (i1 : Int32) (i2 : Int32) (i3 : Int32) : sem PGM d yS_lay (14, [some (.ref o), some (.int i1), some (.int i2), some (.int i3)], [], (hS o S Z)) =
    bif decide (30 ≤ i3) then sem PGM d yS_lay (7, [some (.ref o), some (.int i1), some (.int (i2 + 1)), some (.int i3)], [], (hS o S Z))
    else bif decide (i2 = nI 0) && true && true && true then bif inb i2 3 then bif inb i3 30 then sem PGM d yS_lay (33, [some (.ref o), some (.int i1), some (.int i2), some (.int i3)], [], (hS o (sA S 0 (upd (S.1 0) (i3).toNatClampNeg ((gvA 3) (i2).toNatClampNeg))) Z))
          else none
        else none
      else bif decide (i2 = nI 1) && true && true && true then bif inb i2 3 then bif inb i3 30 then sem PGM d yS_lay (33, [some (.ref o), some (.int i1), some (.int i2), some (.int i3)], [], (hS o (sA S 1 (upd (S.1 1) (i3).toNatClampNeg ((gvA 3) (i2).toNatClampNeg))) Z))
          else none
        else none
      else bif decide (i2 = nI 2) && true && true && true then bif inb i2 3 then bif inb i3 30 then sem PGM d yS_lay (33, [some (.ref o), some (.int i1), some (.int i2), some (.int i3)], [], (hS o (sA S 2 (upd (S.1 2) (i3).toNatClampNeg ((gvA 3) (i2).toNatClampNeg))) Z))
          else none
        else none
      else none := by rcases ho with rfl | rfl <;> exact (ev_eq PGM d yS_lay [5, 7, 14, 33, 47, 80, 106] 400 _).trans rfl
set_option maxRecDepth 100000 in
theorem eS_lay_80 (d : Nat) (o : Nat) (ho : o = 43 ∨ o = 59) (S : SS) (Z : RT) (i1 : Int32) (i2 : Int32) (u3 : Option Value) : sem PGM d yS_lay (80, [some (.ref o), some (.int i1), some (.int i2), u3], [], (hS o S Z)) =
    bif decide ((S.2.1 2) ≤ i2) then some (none, (hS o S Z))
    else bif inb i2 6 then bif decide (((S.1 9) (i2).toNatClampNeg) < i1) then sem PGM d yS_lay (106, [some (.ref o), some (.int i1), some (.int i2), u3], [], (hS o S Z))
        else bif inb i2 6 then sem PGM d yS_lay (106, [some (.ref o), some (.int i1), some (.int i2), u3], [], (hS o (sA S 9 (upd (S.1 9) (i2).toNatClampNeg (-9))) Z))
          else none
      else none := by rcases ho with rfl | rfl <;> exact (ev_eq PGM d yS_lay [5, 7, 14, 33, 47, 80, 106] 400 _).trans rfl
set_option maxRecDepth 100000 in
theorem eS_lay_72 (d : Nat) (o : Nat) (ho : o = 43 ∨ o = 59) (S : SS) (Z : RT) (i1 : Int32) (i2 : Int32) (u3 : Option Value) : sem PGM d yS_lay (72, [some (.ref o), some (.int i1), some (.int i2), u3], [], (hS o S Z)) =
    sem PGM d yS_lay (47, [some (.ref o), some (.int i1), some (.int (i2 + 1)), u3], [], (hS o S Z)) := by rcases ho with rfl | rfl <;> exact (ev_eq PGM d yS_lay [5, 7, 14, 33, 47, 80, 106] 400 _).trans rfl
set_option maxRecDepth 100000 in
theorem eS_lay_33 (d : Nat) (o : Nat) (ho : o = 43 ∨ o = 59) (S : SS) (Z : RT) (i1 : Int32) (i2 : Int32) (i3 : Int32) : sem PGM d yS_lay (33, [some (.ref o), some (.int i1), some (.int i2), some (.int i3)], [], (hS o S Z)) =
    sem PGM d yS_lay (14, [some (.ref o), some (.int i1), some (.int i2), some (.int (i3 + 1))], [], (hS o S Z)) := by rcases ho with rfl | rfl <;> exact (ev_eq PGM d yS_lay [5, 7, 14, 33, 47, 80, 106] 400 _).trans rfl
set_option maxRecDepth 100000 in
theorem eS_lay_106 (d : Nat) (o : Nat) (ho : o = 43 ∨ o = 59) (S : SS) (Z : RT) (i1 : Int32) (i2 : Int32) (u3 : Option Value) : sem PGM d yS_lay (106, [some (.ref o), some (.int i1), some (.int i2), u3], [], (hS o S Z)) =
    sem PGM d yS_lay (80, [some (.ref o), some (.int i1), some (.int (i2 + 1)), u3], [], (hS o S Z)) := by rcases ho with rfl | rfl <;> exact (ev_eq PGM d yS_lay [5, 7, 14, 33, 47, 80, 106] 400 _).trans rfl
set_option maxRecDepth 100000 in
theorem eS_seat_0 (d : Nat) (o : Nat) (ho : o = 43 ∨ o = 59) (S : SS) (Z : RT) (i1 : Int32) (i2 : Int32) : sem PGM d yS_seat (0, [some (.ref o), some (.int i1), some (.int i2)], [], (hS o S Z)) =
    aftK (sem PGM d yS_seat) 0 (6, [some (.ref o), some (.int i1), some (.int i2)], [], (hS o S Z)) (call PGM d yS_tally [.ref o, .int i1, .int (-1)] (hS o S Z)) := by rcases ho with rfl | rfl <;> exact (ev_eq PGM d yS_seat [] 400 _).trans rfl
set_option maxRecDepth 100000 in
theorem eS_seat_6 (d : Nat) (o : Nat) (ho : o = 43 ∨ o = 59) (S : SS) (Z : RT) (i1 : Int32) (i2 : Int32) : sem PGM d yS_seat (6, [some (.ref o), some (.int i1), some (.int i2)], [], (hS o S Z)) =
    bif inb i1 20 then aftK (sem PGM d yS_seat) 0 (19, [some (.ref o), some (.int i1), some (.int i2)], [], (hS o (sA S 6 (upd (S.1 6) (i1).toNatClampNeg i2)) Z)) (call PGM d yS_tally [.ref o, .int i1, .int 1] (hS o (sA S 6 (upd (S.1 6) (i1).toNatClampNeg i2)) Z))
    else none := by rcases ho with rfl | rfl <;> exact (ev_eq PGM d yS_seat [] 400 _).trans rfl
set_option maxRecDepth 100000 in
theorem eS_seat_19 (d : Nat) (o : Nat) (ho : o = 43 ∨ o = 59) (S : SS) (Z : RT) (u0 : Option Value) (u1 : Option Value) (u2 : Option Value) : sem PGM d yS_seat (19, [u0, u1, u2], [], (hS o S Z)) =
    some (none, (hS o S Z)) := by rcases ho with rfl | rfl <;> exact (ev_eq PGM d yS_seat [] 400 _).trans rfl
set_option maxRecDepth 100000 in
theorem eS_tally_0 (d : Nat) (o : Nat) (ho : o = 43 ∨ o = 59) (S : SS) (Z : RT) (i1 : Int32) (i2 : Int32) : sem PGM d yS_tally (0, [some (.ref o), some (.int i1), some (.int i2), none], [], (hS o S Z)) =
    bif inb i1 20 then bif decide (((S.1 6) (i1).toNatClampNeg) < 0) then some (none, (hS o S Z))
      else bif decide (((S.1 6) (i1).toNatClampNeg) < 30) then bif inb ((S.1 6) (i1).toNatClampNeg) 30 then bif inb ((S.1 6) (i1).toNatClampNeg) 30 then sem PGM d yS_tally (28, [some (.ref o), some (.int i1), some (.int i2), some (.int ((S.1 6) (i1).toNatClampNeg))], [], (hS o (sA S 3 (upd (S.1 3) (((S.1 6) (i1).toNatClampNeg)).toNatClampNeg (((S.1 3) (((S.1 6) (i1).toNatClampNeg)).toNatClampNeg) + i2))) Z))
            else none
          else none
        else some (none, (hS o S Z))
    else none := by rcases ho with rfl | rfl <;> exact (ev_eq PGM d yS_tally [28] 400 _).trans rfl
set_option maxRecDepth 100000 in
theorem eS_tally_28 (d : Nat) (o : Nat) (ho : o = 43 ∨ o = 59) (S : SS) (Z : RT) (i1 : Int32) (i2 : Int32) (i3 : Int32) : sem PGM d yS_tally (28, [some (.ref o), some (.int i1), some (.int i2), some (.int i3)], [], (hS o S Z)) =
    bif inb i3 30 then bif inb i1 20 then bif inb i3 30 then some (none, (hS o (sA S 4 (upd (S.1 4) (i3).toNatClampNeg (((S.1 4) (i3).toNatClampNeg) + (i2 * ((((gvA 1) 3) >>> (((S.1 5) (i1).toNatClampNeg) &&& 31)) &&& 1))))) Z))
        else none
      else none
    else none := by rcases ho with rfl | rfl <;> exact (ev_eq PGM d yS_tally [28] 400 _).trans rfl
set_option maxRecDepth 100000 in
theorem eS_hasCell_0 (d : Nat) (o : Nat) (ho : o = 43 ∨ o = 59) (S : SS) (Z : RT) (i1 : Int32) : sem PGM d yS_hasCell (0, [some (.ref o), some (.int i1)], [], (hS o S Z)) =
    bif decide (i1 < 0) then some (some (.int 0), (hS o S Z))
    else bif decide ((S.2.1 0) ≤ i1) then some (some (.int 0), (hS o S Z))
      else some (some (.int 1), (hS o S Z)) := by rcases ho with rfl | rfl <;> exact (ev_eq PGM d yS_hasCell [] 400 _).trans rfl
set_option maxRecDepth 100000 in
theorem eS_beastsIn_0 (d : Nat) (o : Nat) (ho : o = 43 ∨ o = 59) (S : SS) (Z : RT) (i1 : Int32) : sem PGM d yS_beastsIn (0, [some (.ref o), some (.int i1), none, none], [], (hS o S Z)) =
    sem PGM d yS_beastsIn (4, [some (.ref o), some (.int i1), some (.int 0), some (.int 0)], [], (hS o S Z)) := by rcases ho with rfl | rfl <;> exact (ev_eq PGM d yS_beastsIn [4] 400 _).trans rfl
set_option maxRecDepth 100000 in
theorem eS_beastsIn_4 (d : Nat) (o : Nat) (ho : o = 43 ∨ o = 59) (S : SS) (Z : RT) (i1 : Int32) (i2 : Int32) (i3 : Int32) : sem PGM d yS_beastsIn (4, [some (.ref o), some (.int i1), some (.int i2), some (.int i3)], [], (hS o S Z)) =
    bif decide ((S.2.1 2) ≤ i3) then some (some (.int i2), (hS o S Z))
    else bif inb i3 6 then bif !decide (((S.1 9) (i3).toNatClampNeg) = i1) then sem PGM d yS_beastsIn (4, [some (.ref o), some (.int i1), some (.int i2), some (.int (i3 + 1))], [], (hS o S Z))
        else sem PGM d yS_beastsIn (4, [some (.ref o), some (.int i1), some (.int (i2 + 1)), some (.int (i3 + 1))], [], (hS o S Z))
      else none := by rcases ho with rfl | rfl <;> exact (ev_eq PGM d yS_beastsIn [4] 400 _).trans rfl
set_option maxRecDepth 100000 in
theorem eS_addPerson_0 (d : Nat) (o : Nat) (ho : o = 43 ∨ o = 59) (S : SS) (Z : RT) (i1 : Int32) (i2 : Int32) (i3 : Int32) : sem PGM d yS_addPerson (0, [some (.ref o), some (.int i1), some (.int i2), some (.int i3), none], [], (hS o S Z)) =
    sem PGM d yS_addPerson (16, [some (.ref o), some (.int i1), some (.int i2), some (.int i3), some (.int (S.2.1 1))], [], (hS o (sV S 1 ((S.2.1 1) + 1)) Z)) := by rcases ho with rfl | rfl <;> exact (ev_eq PGM d yS_addPerson [16, 24, 32, 40] 400 _).trans rfl
set_option maxRecDepth 100000 in
theorem eS_addPerson_16 (d : Nat) (o : Nat) (ho : o = 43 ∨ o = 59) (S : SS) (Z : RT) (i1 : Int32) (i2 : Int32) (i3 : Int32) (i4 : Int32) : sem PGM d yS_addPerson (16, [some (.ref o), some (.int i1), some (.int i2), some (.int i3), some (.int i4)], [], (hS o S Z)) =
    bif inb i4 20 then sem PGM d yS_addPerson (24, [some (.ref o), some (.int i1), some (.int i2), some (.int i3), some (.int i4)], [], (hS o (sA S 5 (upd (S.1 5) (i4).toNatClampNeg i1)) Z))
    else none := by rcases ho with rfl | rfl <;> exact (ev_eq PGM d yS_addPerson [16, 24, 32, 40] 400 _).trans rfl
set_option maxRecDepth 100000 in
theorem eS_addPerson_24 (d : Nat) (o : Nat) (ho : o = 43 ∨ o = 59) (S : SS) (Z : RT) (u1 : Option Value) (i2 : Int32) (i3 : Int32) (i4 : Int32) : sem PGM d yS_addPerson (24, [some (.ref o), u1, some (.int i2), some (.int i3), some (.int i4)], [], (hS o S Z)) =
    bif inb i4 20 then sem PGM d yS_addPerson (32, [some (.ref o), u1, some (.int i2), some (.int i3), some (.int i4)], [], (hS o (sA S 7 (upd (S.1 7) (i4).toNatClampNeg i3)) Z))
    else none := by rcases ho with rfl | rfl <;> exact (ev_eq PGM d yS_addPerson [16, 24, 32, 40] 400 _).trans rfl
set_option maxRecDepth 100000 in
theorem eS_addPerson_32 (d : Nat) (o : Nat) (ho : o = 43 ∨ o = 59) (S : SS) (Z : RT) (u1 : Option Value) (i2 : Int32) (i3 : Int32) (i4 : Int32) : sem PGM d yS_addPerson (32, [some (.ref o), u1, some (.int i2), some (.int i3), some (.int i4)], [], (hS o S Z)) =
    bif inb i4 20 then sem PGM d yS_addPerson (40, [some (.ref o), u1, some (.int i2), some (.int i3), some (.int i4)], [], (hS o (sA S 8 (upd (S.1 8) (i4).toNatClampNeg 0)) Z))
    else none := by rcases ho with rfl | rfl <;> exact (ev_eq PGM d yS_addPerson [16, 24, 32, 40] 400 _).trans rfl
set_option maxRecDepth 100000 in
theorem eS_addPerson_40 (d : Nat) (o : Nat) (ho : o = 43 ∨ o = 59) (S : SS) (Z : RT) (u1 : Option Value) (i2 : Int32) (i3 : Int32) (i4 : Int32) : sem PGM d yS_addPerson (40, [some (.ref o), u1, some (.int i2), some (.int i3), some (.int i4)], [], (hS o S Z)) =
    bif inb i4 20 then aftK (sem PGM d yS_addPerson) 0 (56, [some (.ref o), u1, some (.int i2), some (.int i3), some (.int i4)], [], (hS o (sA S 6 (upd (S.1 6) (i4).toNatClampNeg (-9))) Z)) (call PGM d yS_seat [.ref o, .int i4, .int i2] (hS o (sA S 6 (upd (S.1 6) (i4).toNatClampNeg (-9))) Z))
    else none := by rcases ho with rfl | rfl <;> exact (ev_eq PGM d yS_addPerson [16, 24, 32, 40] 400 _).trans rfl
set_option maxRecDepth 100000 in
theorem eS_addPerson_56 (d : Nat) (o : Nat) (ho : o = 43 ∨ o = 59) (S : SS) (Z : RT) (u0 : Option Value) (u1 : Option Value) (u2 : Option Value) (i3 : Int32) (i4 : Int32) : sem PGM d yS_addPerson (56, [u0, u1, u2, some (.int i3), some (.int i4)], [], (hS o S Z)) =
    some (some (.int i4), (hS o S Z)) := by rcases ho with rfl | rfl <;> exact (ev_eq PGM d yS_addPerson [16, 24, 32, 40] 400 _).trans rfl
set_option maxRecDepth 100000 in
theorem eS_hasPerson_0 (d : Nat) (o : Nat) (ho : o = 43 ∨ o = 59) (S : SS) (Z : RT) (i1 : Int32) : sem PGM d yS_hasPerson (0, [some (.ref o), some (.int i1)], [], (hS o S Z)) =
    bif decide (i1 < 0) then some (some (.int 0), (hS o S Z))
    else bif decide ((S.2.1 1) ≤ i1) then some (some (.int 0), (hS o S Z))
      else some (some (.int 1), (hS o S Z)) := by rcases ho with rfl | rfl <;> exact (ev_eq PGM d yS_hasPerson [] 400 _).trans rfl
set_option maxRecDepth 100000 in
theorem eS_isOut_0 (d : Nat) (o : Nat) (ho : o = 43 ∨ o = 59) (S : SS) (Z : RT) (i1 : Int32) : sem PGM d yS_isOut (0, [some (.ref o), some (.int i1)], [], (hS o S Z)) =
    bif inb i1 20 then bif decide (0 ≤ ((S.1 6) (i1).toNatClampNeg)) then some (some (.int 0), (hS o S Z))
      else some (some (.int 1), (hS o S Z))
    else none := by rcases ho with rfl | rfl <;> exact (ev_eq PGM d yS_isOut [] 400 _).trans rfl
set_option maxRecDepth 100000 in
theorem eS_nearOf_0 (d : Nat) (o : Nat) (ho : o = 43 ∨ o = 59) (S : SS) (Z : RT) (i1 : Int32) : sem PGM d yS_nearOf (0, [some (.ref o), some (.int i1), none, none], [], (hS o S Z)) =
    sem PGM d yS_nearOf (5, [some (.ref o), some (.int i1), some (.int 99), some (.int 0)], [], (hS o S Z)) := by rcases ho with rfl | rfl <;> exact (ev_eq PGM d yS_nearOf [5] 400 _).trans rfl
set_option maxRecDepth 100000 in
theorem eS_nearOf_5 (d : Nat) (o : Nat) (ho : o = 43 ∨ o = 59) (S : SS) (Z : RT) (i1 : Int32) (i2 : Int32) (i3 : Int32) : sem PGM d yS_nearOf (5, [some (.ref o), some (.int i1), some (.int i2), some (.int i3)], [], (hS o S Z)) =
    bif decide ((S.2.1 2) ≤ i3) then some (some (.int i2), (hS o S Z))
    else bif inb i3 6 then bif decide (((S.1 9) (i3).toNatClampNeg) < 0) then sem PGM d yS_nearOf (5, [some (.ref o), some (.int i1), some (.int i2), some (.int (i3 + 1))], [], (hS o S Z))
        else bif inb i3 6 then bif inb i1 20 then bif decide (((S.1 6) (i1).toNatClampNeg) < ((S.1 9) (i3).toNatClampNeg)) then sem PGM d yS_nearOf (5, [some (.ref o), some (.int i1), some (.int i2), some (.int (i3 + 1))], [], (hS o S Z))
              else bif inb i1 20 then bif inb i3 6 then sem PGM d yS_nearOf (5, [some (.ref o), some (.int i1), some (.int (if (((S.1 6) (i1).toNatClampNeg) - ((S.1 9) (i3).toNatClampNeg)) < i2 then (((S.1 6) (i1).toNatClampNeg) - ((S.1 9) (i3).toNatClampNeg)) else i2)), some (.int (i3 + 1))], [], (hS o S Z))
                  else none
                else none
            else none
          else none
      else none := by rcases ho with rfl | rfl <;> exact (ev_eq PGM d yS_nearOf [5] 400 _).trans rfl
set_option maxRecDepth 100000 in
theorem eS_addBeast_0 (d : Nat) (o : Nat) (ho : o = 43 ∨ o = 59) (S : SS) (Z : RT) (i1 : Int32) (i2 : Int32) : sem PGM d yS_addBeast (0, [some (.ref o), some (.int i1), some (.int i2), none], [], (hS o S Z)) =
    sem PGM d yS_addBeast (15, [some (.ref o), some (.int i1), some (.int i2), some (.int (S.2.1 2))], [], (hS o (sV S 2 ((S.2.1 2) + 1)) Z)) := by rcases ho with rfl | rfl <;> exact (ev_eq PGM d yS_addBeast [15, 22, 29] 400 _).trans rfl
set_option maxRecDepth 100000 in
theorem eS_addBeast_15 (d : Nat) (o : Nat) (ho : o = 43 ∨ o = 59) (S : SS) (Z : RT) (i1 : Int32) (i2 : Int32) (i3 : Int32) : sem PGM d yS_addBeast (15, [some (.ref o), some (.int i1), some (.int i2), some (.int i3)], [], (hS o S Z)) =
    bif inb i3 6 then sem PGM d yS_addBeast (22, [some (.ref o), some (.int i1), some (.int i2), some (.int i3)], [], (hS o (sA S 9 (upd (S.1 9) (i3).toNatClampNeg i1)) Z))
    else none := by rcases ho with rfl | rfl <;> exact (ev_eq PGM d yS_addBeast [15, 22, 29] 400 _).trans rfl
set_option maxRecDepth 100000 in
theorem eS_addBeast_22 (d : Nat) (o : Nat) (ho : o = 43 ∨ o = 59) (S : SS) (Z : RT) (u1 : Option Value) (i2 : Int32) (i3 : Int32) : sem PGM d yS_addBeast (22, [some (.ref o), u1, some (.int i2), some (.int i3)], [], (hS o S Z)) =
    bif inb i3 6 then sem PGM d yS_addBeast (29, [some (.ref o), u1, some (.int i2), some (.int i3)], [], (hS o (sA S 10 (upd (S.1 10) (i3).toNatClampNeg i2)) Z))
    else none := by rcases ho with rfl | rfl <;> exact (ev_eq PGM d yS_addBeast [15, 22, 29] 400 _).trans rfl
set_option maxRecDepth 100000 in
theorem eS_addBeast_29 (d : Nat) (o : Nat) (ho : o = 43 ∨ o = 59) (S : SS) (Z : RT) (u1 : Option Value) (i2 : Int32) (i3 : Int32) : sem PGM d yS_addBeast (29, [some (.ref o), u1, some (.int i2), some (.int i3)], [], (hS o S Z)) =
    bif inb i3 6 then some (some (.int i3), (hS o (sA S 11 (upd (S.1 11) (i3).toNatClampNeg 0)) Z))
    else none := by rcases ho with rfl | rfl <;> exact (ev_eq PGM d yS_addBeast [15, 22, 29] 400 _).trans rfl
set_option maxRecDepth 100000 in
theorem eS_hasBeast_0 (d : Nat) (o : Nat) (ho : o = 43 ∨ o = 59) (S : SS) (Z : RT) (i1 : Int32) : sem PGM d yS_hasBeast (0, [some (.ref o), some (.int i1)], [], (hS o S Z)) =
    bif decide (i1 < 0) then some (some (.int 0), (hS o S Z))
    else bif decide ((S.2.1 2) ≤ i1) then some (some (.int 0), (hS o S Z))
      else some (some (.int 1), (hS o S Z)) := by rcases ho with rfl | rfl <;> exact (ev_eq PGM d yS_hasBeast [] 400 _).trans rfl
set_option maxRecDepth 100000 in
theorem eS_become_0 (d : Nat) (o : Nat) (ho : o = 43 ∨ o = 59) (S : SS) (Z : RT) (i1 : Int32) (i2 : Int32) : sem PGM d yS_become (0, [some (.ref o), some (.int i1), some (.int i2)], [], (hS o S Z)) =
    aftK (sem PGM d yS_become) 0 (6, [some (.ref o), some (.int i1), some (.int i2)], [], (hS o S Z)) (call PGM d yS_tally [.ref o, .int i1, .int (-1)] (hS o S Z)) := by rcases ho with rfl | rfl <;> exact (ev_eq PGM d yS_become [] 400 _).trans rfl
set_option maxRecDepth 100000 in
theorem eS_become_6 (d : Nat) (o : Nat) (ho : o = 43 ∨ o = 59) (S : SS) (Z : RT) (i1 : Int32) (i2 : Int32) : sem PGM d yS_become (6, [some (.ref o), some (.int i1), some (.int i2)], [], (hS o S Z)) =
    bif inb i1 20 then aftK (sem PGM d yS_become) 0 (19, [some (.ref o), some (.int i1), some (.int i2)], [], (hS o (sA S 5 (upd (S.1 5) (i1).toNatClampNeg i2)) Z)) (call PGM d yS_tally [.ref o, .int i1, .int 1] (hS o (sA S 5 (upd (S.1 5) (i1).toNatClampNeg i2)) Z))
    else none := by rcases ho with rfl | rfl <;> exact (ev_eq PGM d yS_become [] 400 _).trans rfl
set_option maxRecDepth 100000 in
theorem eS_become_19 (d : Nat) (o : Nat) (ho : o = 43 ∨ o = 59) (S : SS) (Z : RT) (u0 : Option Value) (u1 : Option Value) (u2 : Option Value) : sem PGM d yS_become (19, [u0, u1, u2], [], (hS o S Z)) =
    some (none, (hS o S Z)) := by rcases ho with rfl | rfl <;> exact (ev_eq PGM d yS_become [] 400 _).trans rfl
set_option maxRecDepth 100000 in
theorem eS_clauseFor_0 (d : Nat) (o : Nat) (ho : o = 43 ∨ o = 59) (S : SS) (Z : RT) (i1 : Int32) : sem PGM d yS_clauseFor (0, [some (.ref o), some (.int i1), none], [], (hS o S Z)) =
    bif okI (hS o S Z) S.2.2 1 0 then bif !decide ((gI (hS o S Z) S.2.2 0) = 0) then aftK (sem PGM d yS_clauseFor) 0 (18, [some (.ref o), some (.int i1), none], [], (hS o S Z)) (call PGM d yS_lookAround [.ref o, .int i1] (hS o S Z))
      else some (some (.int (-9)), (hS o S Z))
    else none := by rcases ho with rfl | rfl <;> exact (ev_eq PGM d yS_clauseFor [20] 400 _).trans rfl
set_option maxRecDepth 100000 in
theorem eS_clauseFor_18 (d : Nat) (o : Nat) (ho : o = 43 ∨ o = 59) (S : SS) (Z : RT) (i1 : Int32) (u2 : Option Value) : sem PGM d yS_clauseFor (18, [some (.ref o), some (.int i1), u2], [], (hS o S Z)) =
    sem PGM d yS_clauseFor (20, [some (.ref o), some (.int i1), some (.int 0)], [], (hS o S Z)) := by rcases ho with rfl | rfl <;> exact (ev_eq PGM d yS_clauseFor [20] 400 _).trans rfl
set_option maxRecDepth 100000 in
theorem eS_clauseFor_20 (d : Nat) (o : Nat) (ho : o = 43 ∨ o = 59) (S : SS) (Z : RT) (i1 : Int32) (i2 : Int32) : sem PGM d yS_clauseFor (20, [some (.ref o), some (.int i1), some (.int i2)], [], (hS o S Z)) =
    bif okI (hS o S Z) S.2.2 1 0 then bif decide ((gI (hS o S Z) S.2.2 0) ≤ i2) then some (some (.int (-9)), (hS o S Z))
      else bif decide (i2 = (S.2.1 5)) then sem PGM d yS_clauseFor (20, [some (.ref o), some (.int i1), some (.int (i2 + 1))], [], (hS o S Z))
        else bif inb i1 20 then bif okN (hS o S Z) S.2.2 1 1 then none
            else bif okR (hS o S Z) S.2.2 1 1 then bif inA (hS o S Z) (gR (hS o S Z) S.2.2 1) 0 i2 then aftK (sem PGM d yS_clauseFor) 1 (57, [some (.ref o), some (.int i1), some (.int i2)], [], (hS o S Z)) (call PGM d yB_isA [.int ((S.1 5) (i1).toNatClampNeg), .int (rA (hS o S Z) (gR (hS o S Z) S.2.2 1) i2)] (hS o S Z))
              else none
            else none
          else none
    else none := by rcases ho with rfl | rfl <;> exact (ev_eq PGM d yS_clauseFor [20] 400 _).trans rfl
set_option maxRecDepth 100000 in
theorem eS_clauseFor_57 (d : Nat) (o : Nat) (ho : o = 43 ∨ o = 59) (S : SS) (Z : RT) (i1 : Int32) (i2 : Int32) (k0 : Int32) : sem PGM d yS_clauseFor (57, [some (.ref o), some (.int i1), some (.int i2)], [.int k0], (hS o S Z)) =
    bif decide (k0 = 0) then sem PGM d yS_clauseFor (20, [some (.ref o), some (.int i1), some (.int (i2 + 1))], [], (hS o S Z))
    else bif okC (hS o S Z) S.2.2 1 && true then aftK (sem PGM d yS_clauseFor) 1 (72, [some (.ref o), some (.int i1), some (.int i2)], [], (hS o S Z)) (call PGM d yL_holds [.ref S.2.2, .int i2, .ref (o + 15)] (hS o S Z))
      else none := by rcases ho with rfl | rfl <;> exact (ev_eq PGM d yS_clauseFor [20] 400 _).trans rfl
set_option maxRecDepth 100000 in
theorem eS_clauseFor_72 (d : Nat) (o : Nat) (ho : o = 43 ∨ o = 59) (S : SS) (Z : RT) (i1 : Int32) (i2 : Int32) (k0 : Int32) : sem PGM d yS_clauseFor (72, [some (.ref o), some (.int i1), some (.int i2)], [.int k0], (hS o S Z)) =
    bif decide (k0 = 0) then sem PGM d yS_clauseFor (20, [some (.ref o), some (.int i1), some (.int (i2 + 1))], [], (hS o S Z))
    else some (some (.int i2), (hS o S Z)) := by rcases ho with rfl | rfl <;> exact (ev_eq PGM d yS_clauseFor [20] 400 _).trans rfl
set_option maxRecDepth 100000 in
theorem eS_lookAround_0 (d : Nat) (o : Nat) (ho : o = 43 ∨ o = 59) (S : SS) (Z : RT) (i1 : Int32) : sem PGM d yS_lookAround (0, [some (.ref o), some (.int i1), none], [], (hS o S Z)) =
    bif inb i1 20 then aftK (sem PGM d yS_lookAround) 1 (17, [some (.ref o), some (.int i1), some (.int ((S.1 6) (i1).toNatClampNeg))], [.int 0, .ref (o + 15)], (hS o S Z)) (call PGM d yS_nearOf [.ref o, .int i1] (hS o S Z))
    else none := by rcases ho with rfl | rfl <;> exact (ev_eq PGM d yS_lookAround [18, 29, 58, 65, 75] 400 _).trans rfl
set_option maxRecDepth 100000 in
theorem eS_lookAround_17 (d : Nat) (o : Nat) (ho : o = 43 ∨ o = 59) (S : SS) (Z : RT) (i1 : Int32) (i2 : Int32) (k1 : Int32) (k2 : Int32) : sem PGM d yS_lookAround (17, [some (.ref o), some (.int i1), some (.int i2)], [.int k2, .int k1, .ref (o + 15)], (hS o S Z)) =
    bif inb k1 6 then sem PGM d yS_lookAround (18, [some (.ref o), some (.int i1), some (.int i2)], [], (hS o (sA S 13 (upd (S.1 13) (k1).toNatClampNeg k2)) Z))
    else none := by rcases ho with rfl | rfl <;> exact (ev_eq PGM d yS_lookAround [18, 29, 58, 65, 75] 400 _).trans rfl
set_option maxRecDepth 100000 in
theorem eS_lookAround_18 (d : Nat) (o : Nat) (ho : o = 43 ∨ o = 59) (S : SS) (Z : RT) (i1 : Int32) (i2 : Int32) : sem PGM d yS_lookAround (18, [some (.ref o), some (.int i1), some (.int i2)], [], (hS o S Z)) =
    aftK (sem PGM d yS_lookAround) 1 (28, [some (.ref o), some (.int i1), some (.int i2)], [.int 1, .ref (o + 15)], (hS o S Z)) (call PGM d yS_crowdIn [.ref o, .int i2] (hS o S Z)) := by rcases ho with rfl | rfl <;> exact (ev_eq PGM d yS_lookAround [18, 29, 58, 65, 75] 400 _).trans rfl
set_option maxRecDepth 100000 in
theorem eS_lookAround_28 (d : Nat) (o : Nat) (ho : o = 43 ∨ o = 59) (S : SS) (Z : RT) (i1 : Int32) (i2 : Int32) (k1 : Int32) (k2 : Int32) : sem PGM d yS_lookAround (28, [some (.ref o), some (.int i1), some (.int i2)], [.int k2, .int k1, .ref (o + 15)], (hS o S Z)) =
    bif inb k1 6 then sem PGM d yS_lookAround (29, [some (.ref o), some (.int i1), some (.int i2)], [], (hS o (sA S 13 (upd (S.1 13) (k1).toNatClampNeg k2)) Z))
    else none := by rcases ho with rfl | rfl <;> exact (ev_eq PGM d yS_lookAround [18, 29, 58, 65, 75] 400 _).trans rfl
set_option maxRecDepth 100000 in
theorem eS_lookAround_29 (d : Nat) (o : Nat) (ho : o = 43 ∨ o = 59) (S : SS) (Z : RT) (i1 : Int32) (i2 : Int32) : sem PGM d yS_lookAround (29, [some (.ref o), some (.int i1), some (.int i2)], [], (hS o S Z)) =
    aftK (sem PGM d yS_lookAround) 1 (41, [some (.ref o), some (.int i1), some (.int i2)], [.int 2, .ref (o + 15)], (hS o S Z)) (call PGM d yS_hasCell [.ref o, .int (i2 + 1)] (hS o S Z)) := by rcases ho with rfl | rfl <;> exact (ev_eq PGM d yS_lookAround [18, 29, 58, 65, 75] 400 _).trans rfl
set_option maxRecDepth 100000 in
theorem eS_lookAround_41 (d : Nat) (o : Nat) (ho : o = 43 ∨ o = 59) (S : SS) (Z : RT) (i1 : Int32) (i2 : Int32) (k1 : Int32) (k2 : Int32) : sem PGM d yS_lookAround (41, [some (.ref o), some (.int i1), some (.int i2)], [.int k2, .int k1, .ref (o + 15)], (hS o S Z)) =
    bif decide (k2 = 0) then bif inb k1 6 then sem PGM d yS_lookAround (58, [some (.ref o), some (.int i1), some (.int i2)], [], (hS o (sA S 13 (upd (S.1 13) (k1).toNatClampNeg 99)) Z))
      else none
    else bif inb (i2 + 1) 30 then bif inb k1 6 then sem PGM d yS_lookAround (58, [some (.ref o), some (.int i1), some (.int i2)], [], (hS o (sA S 13 (upd (S.1 13) (k1).toNatClampNeg ((S.1 3) ((i2 + 1)).toNatClampNeg))) Z))
        else none
      else none := by rcases ho with rfl | rfl <;> exact (ev_eq PGM d yS_lookAround [18, 29, 58, 65, 75] 400 _).trans rfl
set_option maxRecDepth 100000 in
theorem eS_lookAround_58 (d : Nat) (o : Nat) (ho : o = 43 ∨ o = 59) (S : SS) (Z : RT) (i1 : Int32) (i2 : Int32) : sem PGM d yS_lookAround (58, [some (.ref o), some (.int i1), some (.int i2)], [], (hS o S Z)) =
    sem PGM d yS_lookAround (65, [some (.ref o), some (.int i1), some (.int i2)], [], (hS o (sA S 13 (upd (S.1 13) 3 i2)) Z)) := by rcases ho with rfl | rfl <;> exact (ev_eq PGM d yS_lookAround [18, 29, 58, 65, 75] 400 _).trans rfl
set_option maxRecDepth 100000 in
theorem eS_lookAround_65 (d : Nat) (o : Nat) (ho : o = 43 ∨ o = 59) (S : SS) (Z : RT) (i1 : Int32) (u2 : Option Value) : sem PGM d yS_lookAround (65, [some (.ref o), some (.int i1), u2], [], (hS o S Z)) =
    sem PGM d yS_lookAround (75, [some (.ref o), some (.int i1), u2], [], (hS o (sA S 13 (upd (S.1 13) 4 (S.2.1 3))) Z)) := by rcases ho with rfl | rfl <;> exact (ev_eq PGM d yS_lookAround [18, 29, 58, 65, 75] 400 _).trans rfl
set_option maxRecDepth 100000 in
theorem eS_lookAround_75 (d : Nat) (o : Nat) (ho : o = 43 ∨ o = 59) (S : SS) (Z : RT) (i1 : Int32) (u2 : Option Value) : sem PGM d yS_lookAround (75, [some (.ref o), some (.int i1), u2], [], (hS o S Z)) =
    aftK (sem PGM d yS_lookAround) 1 (84, [some (.ref o), some (.int i1), u2], [.int 5, .ref (o + 15)], (hS o S Z)) (call PGM d yS_lone [.ref o] (hS o S Z)) := by rcases ho with rfl | rfl <;> exact (ev_eq PGM d yS_lookAround [18, 29, 58, 65, 75] 400 _).trans rfl
set_option maxRecDepth 100000 in
theorem eS_lookAround_84 (d : Nat) (o : Nat) (ho : o = 43 ∨ o = 59) (S : SS) (Z : RT) (u0 : Option Value) (i1 : Int32) (u2 : Option Value) (k1 : Int32) (k2 : Int32) : sem PGM d yS_lookAround (84, [u0, some (.int i1), u2], [.int k2, .int k1, .ref (o + 15)], (hS o S Z)) =
    bif inb k1 6 then some (none, (hS o (sA S 13 (upd (S.1 13) (k1).toNatClampNeg k2)) Z))
    else none := by rcases ho with rfl | rfl <;> exact (ev_eq PGM d yS_lookAround [18, 29, 58, 65, 75] 400 _).trans rfl
set_option maxRecDepth 100000 in
theorem eS_crowdIn_0 (d : Nat) (o : Nat) (ho : o = 43 ∨ o = 59) (S : SS) (Z : RT) (i1 : Int32) : sem PGM d yS_crowdIn (0, [some (.ref o), some (.int i1)], [], (hS o S Z)) =
    aftK (sem PGM d yS_crowdIn) 1 (5, [some (.ref o), some (.int i1)], [], (hS o S Z)) (call PGM d yS_hasCell [.ref o, .int i1] (hS o S Z)) := by rcases ho with rfl | rfl <;> exact (ev_eq PGM d yS_crowdIn [] 400 _).trans rfl
set_option maxRecDepth 100000 in
theorem eS_crowdIn_5 (d : Nat) (o : Nat) (ho : o = 43 ∨ o = 59) (S : SS) (Z : RT) (i1 : Int32) (k0 : Int32) : sem PGM d yS_crowdIn (5, [some (.ref o), some (.int i1)], [.int k0], (hS o S Z)) =
    bif decide (k0 = 0) then some (some (.int 0), (hS o S Z))
    else bif inb i1 30 then some (some (.int ((S.1 3) (i1).toNatClampNeg)), (hS o S Z))
      else none := by rcases ho with rfl | rfl <;> exact (ev_eq PGM d yS_crowdIn [] 400 _).trans rfl
set_option maxRecDepth 100000 in
theorem eS_lone_0 (d : Nat) (o : Nat) (ho : o = 43 ∨ o = 59) (S : SS) (Z : RT)  : sem PGM d yS_lone (0, [some (.ref o), none, none], [], (hS o S Z)) =
    sem PGM d yS_lone (4, [some (.ref o), some (.int 0), some (.int 0)], [], (hS o S Z)) := by rcases ho with rfl | rfl <;> exact (ev_eq PGM d yS_lone [4] 400 _).trans rfl
set_option maxRecDepth 100000 in
theorem eS_lone_4 (d : Nat) (o : Nat) (ho : o = 43 ∨ o = 59) (S : SS) (Z : RT) (i1 : Int32) (i2 : Int32) : sem PGM d yS_lone (4, [some (.ref o), some (.int i1), some (.int i2)], [], (hS o S Z)) =
    bif decide ((S.2.1 2) ≤ i2) then some (some (.int i1), (hS o S Z))
    else bif inb i2 6 then bif decide (((S.1 9) (i2).toNatClampNeg) < 0) then sem PGM d yS_lone (4, [some (.ref o), some (.int i1), some (.int (i2 + 1))], [], (hS o S Z))
        else bif inb i2 6 then bif !decide (((S.1 11) (i2).toNatClampNeg) = 1) then sem PGM d yS_lone (4, [some (.ref o), some (.int i1), some (.int (i2 + 1))], [], (hS o S Z))
            else sem PGM d yS_lone (4, [some (.ref o), some (.int (i1 + 1)), some (.int (i2 + 1))], [], (hS o S Z))
          else none
      else none := by rcases ho with rfl | rfl <;> exact (ev_eq PGM d yS_lone [4] 400 _).trans rfl
set_option maxRecDepth 100000 in
theorem eS_goOnn_0 (d : Nat) (o : Nat) (ho : o = 43 ∨ o = 59) (S : SS) (Z : RT) (i1 : Int32) : sem PGM d yS_goOn (0, [some (.ref o), some (.int i1), some (.null), none, none], [], (hS o S Z)) =
    sem PGM d yS_goOn (5, [some (.ref o), some (.int i1), some (.null), some (.int 0), some (.int 1)], [], (hS o S Z)) := by rcases ho with rfl | rfl <;> exact (ev_eq PGM d yS_goOn [5] 400 _).trans rfl
set_option maxRecDepth 100000 in
theorem eS_goOnn_5 (d : Nat) (o : Nat) (ho : o = 43 ∨ o = 59) (S : SS) (Z : RT) (i1 : Int32) (i3 : Int32) (i4 : Int32) : sem PGM d yS_goOn (5, [some (.ref o), some (.int i1), some (.null), some (.int i3), some (.int i4)], [], (hS o S Z)) =
    bif decide (i1 < i4) then some (some (.int i3), (hS o S Z))
    else aftK (sem PGM d yS_goOn) 1 (19, [some (.ref o), some (.int i1), some (.null), some (.int i3), some (.int i4)], [.int i3], (hS o S Z)) (call PGM d yS_tenth [.ref o, .int i4, .null] (hS o S Z)) := by rcases ho with rfl | rfl <;> exact (ev_eq PGM d yS_goOn [5] 400 _).trans rfl
set_option maxRecDepth 100000 in
theorem eS_goOnn_19 (d : Nat) (o : Nat) (ho : o = 43 ∨ o = 59) (S : SS) (Z : RT) (i1 : Int32) (i3 : Int32) (i4 : Int32) (k0 : Int32) (k1 : Int32) : sem PGM d yS_goOn (19, [some (.ref o), some (.int i1), some (.null), some (.int i3), some (.int i4)], [.int k1, .int k0], (hS o S Z)) =
    sem PGM d yS_goOn (5, [some (.ref o), some (.int i1), some (.null), some (.int (k0 + k1)), some (.int (i4 + 1))], [], (hS o S Z)) := by rcases ho with rfl | rfl <;> exact (ev_eq PGM d yS_goOn [5] 400 _).trans rfl
set_option maxRecDepth 100000 in
theorem eS_goOnl_0 (d : Nat) (o : Nat) (ho : o = 43 ∨ o = 59) (S : SS) (Z : RT) (i1 : Int32) (r2 : Nat) : sem PGM d yS_goOn (0, [some (.ref o), some (.int i1), some (.ref r2), none, none], [], (hS o S Z)) =
    sem PGM d yS_goOn (5, [some (.ref o), some (.int i1), some (.ref r2), some (.int 0), some (.int 1)], [], (hS o S Z)) := by rcases ho with rfl | rfl <;> exact (ev_eq PGM d yS_goOn [5] 400 _).trans rfl
set_option maxRecDepth 100000 in
theorem eS_goOnl_5 (d : Nat) (o : Nat) (ho : o = 43 ∨ o = 59) (S : SS) (Z : RT) (i1 : Int32) (r2 : Nat) (i3 : Int32) (i4 : Int32) : sem PGM d yS_goOn (5, [some (.ref o), some (.int i1), some (.ref r2), some (.int i3), some (.int i4)], [], (hS o S Z)) =
    bif decide (i1 < i4) then some (some (.int i3), (hS o S Z))
    else aftK (sem PGM d yS_goOn) 1 (19, [some (.ref o), some (.int i1), some (.ref r2), some (.int i3), some (.int i4)], [.int i3], (hS o S Z)) (call PGM d yS_tenth [.ref o, .int i4, .ref r2] (hS o S Z)) := by rcases ho with rfl | rfl <;> exact (ev_eq PGM d yS_goOn [5] 400 _).trans rfl
set_option maxRecDepth 100000 in
theorem eS_goOnl_19 (d : Nat) (o : Nat) (ho : o = 43 ∨ o = 59) (S : SS) (Z : RT) (i1 : Int32) (r2 : Nat) (i3 : Int32) (i4 : Int32) (k0 : Int32) (k1 : Int32) : sem PGM d yS_goOn (19, [some (.ref o), some (.int i1), some (.ref r2), some (.int i3), some (.int i4)], [.int k1, .int k0], (hS o S Z)) =
    sem PGM d yS_goOn (5, [some (.ref o), some (.int i1), some (.ref r2), some (.int (k0 + k1)), some (.int (i4 + 1))], [], (hS o S Z)) := by rcases ho with rfl | rfl <;> exact (ev_eq PGM d yS_goOn [5] 400 _).trans rfl
