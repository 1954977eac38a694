/-! Equations of blocks, by wip/whole/gen/alleq.py. -/
set_option maxRecDepth 100000 in
theorem eB_begin_0 (d : Nat) (g : GT) (X : XS) (N T K : SS) (M : MS) (dd : AH) (i1 : Int32) (i2 : Int32) : sem PGM d yB_begin (0, [some (.ref 12), some (.int i1), some (.int i2), none, none, none], [], (heapOf g X N T K M dd)) =
    aftK (sem PGM d yB_begin) 1 (8, [some (.ref 12), some (.int i1), some (.int i2), none, none, none], [], (heapOf g X N T K M dd)) (call PGM d yS_hasPerson [.ref 43, .int i1] (heapOf g X N T K M dd)) := (ev_eq PGM d yB_begin [28] 400 _).trans rfl
set_option maxRecDepth 100000 in
theorem eB_begin_8 (d : Nat) (g : GT) (X : XS) (N T K : SS) (M : MS) (dd : AH) (i1 : Int32) (i2 : Int32) (u5 : Option Value) (k0 : Int32) : sem PGM d yB_begin (8, [some (.ref 12), some (.int i1), some (.int i2), none, none, u5], [.int k0], (heapOf g X N T K M dd)) =
    bif decide (k0 = 0) then some (some (.int (-1)), (heapOf g X N T K M dd))
    else aftK (sem PGM d yB_begin) 1 (15, [some (.ref 12), some (.int i1), some (.int i2), none, none, u5], [], (heapOf g X N T K M dd)) (call PGM d yB_isTenths [.int i2] (heapOf g X N T K M dd)) := (ev_eq PGM d yB_begin [28] 400 _).trans rfl
set_option maxRecDepth 100000 in
theorem eB_begin_15 (d : Nat) (g : GT) (X : XS) (N T K : SS) (M : MS) (dd : AH) (i1 : Int32) (i2 : Int32) (u5 : Option Value) (k0 : Int32) : sem PGM d yB_begin (15, [some (.ref 12), some (.int i1), some (.int i2), none, none, u5], [.int k0], (heapOf g X N T K M dd)) =
    bif !decide (k0 = 0) then sem PGM d yB_begin (28, [some (.ref 12), some (.int i1), some (.int i2), some (.int 0), some (.int 0), some (.int 0)], [], (heapOf g X N T K M dd))
    else some (some (.int (-1)), (heapOf g X N T K M dd)) := (ev_eq PGM d yB_begin [28] 400 _).trans rfl
set_option maxRecDepth 100000 in
theorem eB_begin_28 (d : Nat) (g : GT) (X : XS) (N T K : SS) (M : MS) (dd : AH) (i1 : Int32) (i2 : Int32) (i3 : Int32) (i4 : Int32) (i5 : Int32) : sem PGM d yB_begin (28, [some (.ref 12), some (.int i1), some (.int i2), some (.int i3), some (.int i4), some (.int i5)], [], (heapOf g X N T K M dd)) =
    bif decide ((N.2.1 0) ≤ i5) then some (some (.int i3), (heapOf g X N T K M dd))
    else aftK (sem PGM d yB_begin) 0 (51, [some (.ref 12), some (.int i1), some (.int i2), some (.int i3), some (.int i4), some (.int i5)], [], (heapOf g X N T K M dd)) (call PGM d yS_copy [.ref 59, .ref 43] (heapOf g X N T K M dd)) := (ev_eq PGM d yB_begin [28] 400 _).trans rfl
set_option maxRecDepth 100000 in
theorem eB_begin_51 (d : Nat) (g : GT) (X : XS) (N T K : SS) (M : MS) (dd : AH) (i1 : Int32) (i2 : Int32) (i3 : Int32) (i4 : Int32) (i5 : Int32) : sem PGM d yB_begin (51, [some (.ref 12), some (.int i1), some (.int i2), some (.int i3), some (.int i4), some (.int i5)], [], (heapOf g X N T K M dd)) =
    aftK (sem PGM d yB_begin) 0 (61, [some (.ref 12), some (.int i1), some (.int i2), some (.int i3), some (.int i4), some (.int i5)], [], (heapOf g X N T K M dd)) (call PGM d yS_seat [.ref 59, .int i1, .int i5] (heapOf g X N T K M dd)) := (ev_eq PGM d yB_begin [28] 400 _).trans rfl
set_option maxRecDepth 100000 in
theorem eB_begin_61 (d : Nat) (g : GT) (X : XS) (N T K : SS) (M : MS) (dd : AH) (i1 : Int32) (i2 : Int32) (i3 : Int32) (i4 : Int32) (i5 : Int32) : sem PGM d yB_begin (61, [some (.ref 12), some (.int i1), some (.int i2), some (.int i3), some (.int i4), some (.int i5)], [], (heapOf g X N T K M dd)) =
    aftK (sem PGM d yB_begin) 1 (70, [some (.ref 12), some (.int i1), some (.int i2), some (.int i3), some (.int i4), some (.int i5)], [], (heapOf g X N T K M dd)) (call PGM d yS_goOn [.ref 59, .int i2, .null] (heapOf g X N T K M dd)) := (ev_eq PGM d yB_begin [28] 400 _).trans rfl
set_option maxRecDepth 100000 in
theorem eB_begin_70 (d : Nat) (g : GT) (X : XS) (N T K : SS) (M : MS) (dd : AH) (i1 : Int32) (i2 : Int32) (i3 : Int32) (i4 : Int32) (i5 : Int32) (k0 : Int32) : sem PGM d yB_begin (70, [some (.ref 12), some (.int i1), some (.int i2), some (.int i3), some (.int i4), some (.int i5)], [.int k0], (heapOf g X N T K M dd)) =
    bif decide (i5 = 0) then bif inb i1 20 then sem PGM d yB_begin (28, [some (.ref 12), some (.int i1), some (.int i2), some (.int i5), some (.int ((T.1 8) (i1).toNatClampNeg)), some (.int (i5 + 1))], [], (heapOf g X N T K M dd))
      else none
    else bif inb i1 20 then bif decide (i4 ≤ ((T.1 8) (i1).toNatClampNeg)) then sem PGM d yB_begin (28, [some (.ref 12), some (.int i1), some (.int i2), some (.int i3), some (.int i4), some (.int (i5 + 1))], [], (heapOf g X N T K M dd))
        else bif inb i1 20 then sem PGM d yB_begin (28, [some (.ref 12), some (.int i1), some (.int i2), some (.int i5), some (.int ((T.1 8) (i1).toNatClampNeg)), some (.int (i5 + 1))], [], (heapOf g X N T K M dd))
          else none
      else none := (ev_eq PGM d yB_begin [28] 400 _).trans rfl
set_option maxRecDepth 100000 in
theorem eB_door_0 (d : Nat) (g : GT) (X : XS) (N T K : SS) (M : MS) (dd : AH) (i1 : Int32) : sem PGM d yB_door (0, [some (.ref 12), some (.int i1), none, none, none, none], [], (heapOf g X N T K M dd)) =
    aftK (sem PGM d yB_door) 1 (4, [some (.ref 12), some (.int i1), none, none, none, none], [], (heapOf g X N T K M dd)) (call PGM d yB_isTenths [.int i1] (heapOf g X N T K M dd)) := (ev_eq PGM d yB_door [36, 91] 400 _).trans rfl
set_option maxRecDepth 100000 in
theorem eB_door_4 (d : Nat) (g : GT) (X : XS) (N T K : SS) (M : MS) (dd : AH) (i1 : Int32) (u5 : Option Value) (k0 : Int32) : sem PGM d yB_door (4, [some (.ref 12), some (.int i1), none, none, none, u5], [.int k0], (heapOf g X N T K M dd)) =
    bif !decide (k0 = 0) then aftK (sem PGM d yB_door) 0 (20, [some (.ref 12), some (.int i1), none, none, none, u5], [], (heapOf g X N T K M dd)) (call PGM d yS_copy [.ref 59, .ref 43] (heapOf g X N T K M dd))
    else some (some (.int (-1)), (heapOf g X N T K M dd)) := (ev_eq PGM d yB_door [36, 91] 400 _).trans rfl
set_option maxRecDepth 100000 in
theorem eB_door_20 (d : Nat) (g : GT) (X : XS) (N T K : SS) (M : MS) (dd : AH) (i1 : Int32) (u5 : Option Value) : sem PGM d yB_door (20, [some (.ref 12), some (.int i1), none, none, none, u5], [], (heapOf g X N T K M dd)) =
    aftK (sem PGM d yB_door) 1 (29, [some (.ref 12), some (.int i1), none, none, none, u5], [], (heapOf g X N T K M dd)) (call PGM d yS_goOn [.ref 59, .int i1, .null] (heapOf g X N T K M dd)) := (ev_eq PGM d yB_door [36, 91] 400 _).trans rfl
set_option maxRecDepth 100000 in
theorem eB_door_29 (d : Nat) (g : GT) (X : XS) (N T K : SS) (M : MS) (dd : AH) (i1 : Int32) (u5 : Option Value) (k0 : Int32) : sem PGM d yB_door (29, [some (.ref 12), some (.int i1), none, none, none, u5], [.int k0], (heapOf g X N T K M dd)) =
    sem PGM d yB_door (36, [some (.ref 12), some (.int i1), some (.int k0), some (.int (-3)), some (.int 0), u5], [], (heapOf g X N T K M dd)) := (ev_eq PGM d yB_door [36, 91] 400 _).trans rfl
set_option maxRecDepth 100000 in
theorem eB_door_36 (d : Nat) (g : GT) (X : XS) (N T K : SS) (M : MS) (dd : AH) (i1 : Int32) (i2 : Int32) (i3 : Int32) (i4 : Int32) (u5 : Option Value) : sem PGM d yB_door (36, [some (.ref 12), some (.int i1), some (.int i2), some (.int i3), some (.int i4), u5], [], (heapOf g X N T K M dd)) =
    bif decide ((N.2.1 0) ≤ i4) then some (some (.int i3), (heapOf g X N T K M dd))
    else bif inb i4 30 then bif !decide (((N.1 2) (i4).toNatClampNeg) = 1) then aftK (sem PGM d yB_door) 0 (78, [some (.ref 12), some (.int i1), some (.int i2), some (.int i3), some (.int i4), u5], [], (heapOf g X N T K M dd)) (call PGM d yS_copy [.ref 59, .ref 43] (heapOf g X N T K M dd))
        else sem PGM d yB_door (36, [some (.ref 12), some (.int i1), some (.int i2), some (.int i3), some (.int (i4 + 1)), u5], [], (heapOf g X N T K M dd))
      else none := (ev_eq PGM d yB_door [36, 91] 400 _).trans rfl
set_option maxRecDepth 100000 in
theorem eB_door_78 (d : Nat) (g : GT) (X : XS) (N T K : SS) (M : MS) (dd : AH) (i1 : Int32) (i2 : Int32) (i3 : Int32) (i4 : Int32) (u5 : Option Value) : sem PGM d yB_door (78, [some (.ref 12), some (.int i1), some (.int i2), some (.int i3), some (.int i4), u5], [], (heapOf g X N T K M dd)) =
    bif inb i4 30 then sem PGM d yB_door (91, [some (.ref 12), some (.int i1), some (.int i2), some (.int i3), some (.int i4), u5], [], (heapOf g X N (sA T 2 (upd (T.1 2) (i4).toNatClampNeg 1)) K M dd))
    else none := (ev_eq PGM d yB_door [36, 91] 400 _).trans rfl
set_option maxRecDepth 100000 in
theorem eB_door_91 (d : Nat) (g : GT) (X : XS) (N T K : SS) (M : MS) (dd : AH) (i1 : Int32) (i2 : Int32) (i3 : Int32) (i4 : Int32) (u5 : Option Value) : sem PGM d yB_door (91, [some (.ref 12), some (.int i1), some (.int i2), some (.int i3), some (.int i4), u5], [], (heapOf g X N T K M dd)) =
    aftK (sem PGM d yB_door) 1 (100, [some (.ref 12), some (.int i1), some (.int i2), some (.int i3), some (.int i4), u5], [], (heapOf g X N T K M dd)) (call PGM d yS_goOn [.ref 59, .int i1, .null] (heapOf g X N T K M dd)) := (ev_eq PGM d yB_door [36, 91] 400 _).trans rfl
set_option maxRecDepth 100000 in
theorem eB_door_100 (d : Nat) (g : GT) (X : XS) (N T K : SS) (M : MS) (dd : AH) (i1 : Int32) (i2 : Int32) (i3 : Int32) (i4 : Int32) (u5 : Option Value) (k0 : Int32) : sem PGM d yB_door (100, [some (.ref 12), some (.int i1), some (.int i2), some (.int i3), some (.int i4), u5], [.int k0], (heapOf g X N T K M dd)) =
    bif decide (i2 ≤ k0) then sem PGM d yB_door (36, [some (.ref 12), some (.int i1), some (.int i2), some (.int i3), some (.int (i4 + 1)), some (.int k0)], [], (heapOf g X N T K M dd))
    else sem PGM d yB_door (36, [some (.ref 12), some (.int i1), some (.int k0), some (.int i4), some (.int (i4 + 1)), some (.int k0)], [], (heapOf g X N T K M dd)) := (ev_eq PGM d yB_door [36, 91] 400 _).trans rfl
set_option maxRecDepth 100000 in
theorem eB_limit_0 (d : Nat) (g : GT) (X : XS) (N T K : SS) (M : MS) (dd : AH) (i1 : Int32) : sem PGM d yB_limit (0, [some (.ref 12), some (.int i1), none, none], [], (heapOf g X N T K M dd)) =
    aftK (sem PGM d yB_limit) 1 (4, [some (.ref 12), some (.int i1), none, none], [], (heapOf g X N T K M dd)) (call PGM d yB_isTenths [.int i1] (heapOf g X N T K M dd)) := (ev_eq PGM d yB_limit [17, 34, 86] 400 _).trans rfl
set_option maxRecDepth 100000 in
theorem eB_limit_4 (d : Nat) (g : GT) (X : XS) (N T K : SS) (M : MS) (dd : AH) (i1 : Int32) (u3 : Option Value) (k0 : Int32) : sem PGM d yB_limit (4, [some (.ref 12), some (.int i1), none, u3], [.int k0], (heapOf g X N T K M dd)) =
    bif !decide (k0 = 0) then sem PGM d yB_limit (17, [some (.ref 12), some (.int i1), some (.int (N.2.1 1)), u3], [], (heapOf g X N T K M dd))
    else some (some (.int (-1)), (heapOf g X N T K M dd)) := (ev_eq PGM d yB_limit [17, 34, 86] 400 _).trans rfl
set_option maxRecDepth 100000 in
theorem eB_limit_17 (d : Nat) (g : GT) (X : XS) (N T K : SS) (M : MS) (dd : AH) (i1 : Int32) (i2 : Int32) (u3 : Option Value) : sem PGM d yB_limit (17, [some (.ref 12), some (.int i1), some (.int i2), u3], [], (heapOf g X N T K M dd)) =
    bif decide (i2 ≤ 0) then some (some (.int 0), (heapOf g X N T K M dd))
    else aftK (sem PGM d yB_limit) 0 (32, [some (.ref 12), some (.int i1), some (.int i2), u3], [], (heapOf g X N T K M dd)) (call PGM d yS_copy [.ref 59, .ref 43] (heapOf g X N T K M dd)) := (ev_eq PGM d yB_limit [17, 34, 86] 400 _).trans rfl
set_option maxRecDepth 100000 in
theorem eB_limit_32 (d : Nat) (g : GT) (X : XS) (N T K : SS) (M : MS) (dd : AH) (i1 : Int32) (i2 : Int32) (u3 : Option Value) : sem PGM d yB_limit (32, [some (.ref 12), some (.int i1), some (.int i2), u3], [], (heapOf g X N T K M dd)) =
    sem PGM d yB_limit (34, [some (.ref 12), some (.int i1), some (.int i2), some (.int i2)], [], (heapOf g X N T K M dd)) := (ev_eq PGM d yB_limit [17, 34, 86] 400 _).trans rfl
set_option maxRecDepth 100000 in
theorem eB_limit_34 (d : Nat) (g : GT) (X : XS) (N T K : SS) (M : MS) (dd : AH) (i1 : Int32) (i2 : Int32) (i3 : Int32) : sem PGM d yB_limit (34, [some (.ref 12), some (.int i1), some (.int i2), some (.int i3)], [], (heapOf g X N T K M dd)) =
    bif decide ((N.2.1 1) ≤ i3) then aftK (sem PGM d yB_limit) 1 (70, [some (.ref 12), some (.int i1), some (.int i2), some (.int i3)], [], (heapOf g X N T K M dd)) (call PGM d yS_goOn [.ref 59, .int i1, .null] (heapOf g X N T K M dd))
    else aftK (sem PGM d yB_limit) 0 (55, [some (.ref 12), some (.int i1), some (.int i2), some (.int i3)], [], (heapOf g X N T K M dd)) (call PGM d yS_seat [.ref 59, .int i3, .int (-9)] (heapOf g X N T K M dd)) := (ev_eq PGM d yB_limit [17, 34, 86] 400 _).trans rfl
set_option maxRecDepth 100000 in
theorem eB_limit_70 (d : Nat) (g : GT) (X : XS) (N T K : SS) (M : MS) (dd : AH) (i1 : Int32) (i2 : Int32) (u3 : Option Value) (k0 : Int32) : sem PGM d yB_limit (70, [some (.ref 12), some (.int i1), some (.int i2), u3], [.int k0], (heapOf g X N T K M dd)) =
    aftK (sem PGM d yB_limit) 1 (78, [some (.ref 12), some (.int i1), some (.int i2), u3], [], (heapOf g X N T K M dd)) (call PGM d yS_heaps [.ref 59] (heapOf g X N T K M dd)) := (ev_eq PGM d yB_limit [17, 34, 86] 400 _).trans rfl
set_option maxRecDepth 100000 in
theorem eB_limit_55 (d : Nat) (g : GT) (X : XS) (N T K : SS) (M : MS) (dd : AH) (i1 : Int32) (i2 : Int32) (i3 : Int32) : sem PGM d yB_limit (55, [some (.ref 12), some (.int i1), some (.int i2), some (.int i3)], [], (heapOf g X N T K M dd)) =
    sem PGM d yB_limit (34, [some (.ref 12), some (.int i1), some (.int i2), some (.int (i3 + 1))], [], (heapOf g X N T K M dd)) := (ev_eq PGM d yB_limit [17, 34, 86] 400 _).trans rfl
set_option maxRecDepth 100000 in
theorem eB_limit_78 (d : Nat) (g : GT) (X : XS) (N T K : SS) (M : MS) (dd : AH) (i1 : Int32) (i2 : Int32) (u3 : Option Value) (k0 : Int32) : sem PGM d yB_limit (78, [some (.ref 12), some (.int i1), some (.int i2), u3], [.int k0], (heapOf g X N T K M dd)) =
    bif !decide (k0 = 0) then sem PGM d yB_limit (86, [some (.ref 12), some (.int i1), some (.int (i2 + (-1))), u3], [], (heapOf g X N T K M dd))
    else some (some (.int i2), (heapOf g X N T K M dd)) := (ev_eq PGM d yB_limit [17, 34, 86] 400 _).trans rfl
set_option maxRecDepth 100000 in
theorem eB_limit_86 (d : Nat) (g : GT) (X : XS) (N T K : SS) (M : MS) (dd : AH) (i1 : Int32) (i2 : Int32) (u3 : Option Value) : sem PGM d yB_limit (86, [some (.ref 12), some (.int i1), some (.int i2), u3], [], (heapOf g X N T K M dd)) =
    sem PGM d yB_limit (17, [some (.ref 12), some (.int i1), some (.int i2), u3], [], (heapOf g X N T K M dd)) := (ev_eq PGM d yB_limit [17, 34, 86] 400 _).trans rfl
set_option maxRecDepth 100000 in
theorem eB_law_0 (d : Nat) (g : GT) (X : XS) (N T K : SS) (M : MS) (dd : AH) (i1 : Int32) (i2 : Int32) : sem PGM d yB_law (0, [some (.ref 12), some (.int i1), some (.int i2), none], [], (heapOf g X N T K M dd)) =
    bif decide (i1 < 0) then some (some (.int (-1)), (heapOf g X N T K M dd))
    else bif okI (heapOf g X N T K M dd) N.2.2 1 0 then bif decide ((gI (heapOf g X N T K M dd) N.2.2 0) ≤ i1) then some (some (.int (-1)), (heapOf g X N T K M dd))
        else aftK (sem PGM d yB_law) 1 (22, [some (.ref 12), some (.int i1), some (.int i2), none], [], (heapOf g X N T K M dd)) (call PGM d yB_isTenths [.int i2] (heapOf g X N T K M dd))
      else none := (ev_eq PGM d yB_law [67] 400 _).trans rfl
set_option maxRecDepth 100000 in
theorem eB_law_22 (d : Nat) (g : GT) (X : XS) (N T K : SS) (M : MS) (dd : AH) (i1 : Int32) (i2 : Int32) (u3 : Option Value) (k0 : Int32) : sem PGM d yB_law (22, [some (.ref 12), some (.int i1), some (.int i2), u3], [.int k0], (heapOf g X N T K M dd)) =
    bif !decide (k0 = 0) then aftK (sem PGM d yB_law) 0 (38, [some (.ref 12), some (.int i1), some (.int i2), u3], [], (heapOf g X N T K M dd)) (call PGM d yS_copy [.ref 59, .ref 43] (heapOf g X N T K M dd))
    else some (some (.int (-1)), (heapOf g X N T K M dd)) := (ev_eq PGM d yB_law [67] 400 _).trans rfl
set_option maxRecDepth 100000 in
theorem eB_law_38 (d : Nat) (g : GT) (X : XS) (N T K : SS) (M : MS) (dd : AH) (i1 : Int32) (i2 : Int32) (u3 : Option Value) : sem PGM d yB_law (38, [some (.ref 12), some (.int i1), some (.int i2), u3], [], (heapOf g X N T K M dd)) =
    aftK (sem PGM d yB_law) 1 (47, [some (.ref 12), some (.int i1), some (.int i2), u3], [], (heapOf g X N T K M dd)) (call PGM d yS_goOn [.ref 59, .int i2, .null] (heapOf g X N T K M dd)) := (ev_eq PGM d yB_law [67] 400 _).trans rfl
set_option maxRecDepth 100000 in
theorem eB_law_47 (d : Nat) (g : GT) (X : XS) (N T K : SS) (M : MS) (dd : AH) (i1 : Int32) (i2 : Int32) (u3 : Option Value) (k0 : Int32) : sem PGM d yB_law (47, [some (.ref 12), some (.int i1), some (.int i2), u3], [.int k0], (heapOf g X N T K M dd)) =
    aftK (sem PGM d yB_law) 0 (59, [some (.ref 12), some (.int i1), some (.int i2), some (.int k0)], [], (heapOf g X N T K M dd)) (call PGM d yS_copy [.ref 59, .ref 43] (heapOf g X N T K M dd)) := (ev_eq PGM d yB_law [67] 400 _).trans rfl
set_option maxRecDepth 100000 in
theorem eB_law_59 (d : Nat) (g : GT) (X : XS) (N T K : SS) (M : MS) (dd : AH) (i1 : Int32) (i2 : Int32) (i3 : Int32) : sem PGM d yB_law (59, [some (.ref 12), some (.int i1), some (.int i2), some (.int i3)], [], (heapOf g X N T K M dd)) =
    sem PGM d yB_law (67, [some (.ref 12), some (.int i1), some (.int i2), some (.int i3)], [], (heapOf g X N (sV T 5 i1) K M dd)) := (ev_eq PGM d yB_law [67] 400 _).trans rfl
set_option maxRecDepth 100000 in
theorem eB_law_67 (d : Nat) (g : GT) (X : XS) (N T K : SS) (M : MS) (dd : AH) (u1 : Option Value) (i2 : Int32) (i3 : Int32) : sem PGM d yB_law (67, [some (.ref 12), u1, some (.int i2), some (.int i3)], [], (heapOf g X N T K M dd)) =
    aftK (sem PGM d yB_law) 1 (76, [some (.ref 12), u1, some (.int i2), some (.int i3)], [], (heapOf g X N T K M dd)) (call PGM d yS_goOn [.ref 59, .int i2, .null] (heapOf g X N T K M dd)) := (ev_eq PGM d yB_law [67] 400 _).trans rfl
set_option maxRecDepth 100000 in
theorem eB_law_76 (d : Nat) (g : GT) (X : XS) (N T K : SS) (M : MS) (dd : AH) (u0 : Option Value) (u1 : Option Value) (i2 : Int32) (i3 : Int32) (k0 : Int32) : sem PGM d yB_law (76, [u0, u1, some (.int i2), some (.int i3)], [.int k0], (heapOf g X N T K M dd)) =
    some (some (.int ((k0 - i3) + 1000)), (heapOf g X N T K M dd)) := (ev_eq PGM d yB_law [67] 400 _).trans rfl
set_option maxRecDepth 100000 in
theorem eB_together_0 (d : Nat) (g : GT) (X : XS) (N T K : SS) (M : MS) (dd : AH) (i1 : Int32) : sem PGM d yB_together (0, [some (.ref 12), some (.int i1), none, none], [], (heapOf g X N T K M dd)) =
    aftK (sem PGM d yB_together) 1 (4, [some (.ref 12), some (.int i1), none, none], [], (heapOf g X N T K M dd)) (call PGM d yB_isTenths [.int i1] (heapOf g X N T K M dd)) := (ev_eq PGM d yB_together [24] 400 _).trans rfl
set_option maxRecDepth 100000 in
theorem eB_together_4 (d : Nat) (g : GT) (X : XS) (N T K : SS) (M : MS) (dd : AH) (i1 : Int32) (u3 : Option Value) (k0 : Int32) : sem PGM d yB_together (4, [some (.ref 12), some (.int i1), none, u3], [.int k0], (heapOf g X N T K M dd)) =
    bif !decide (k0 = 0) then aftK (sem PGM d yB_together) 0 (20, [some (.ref 12), some (.int i1), none, u3], [], (heapOf g X N T K M dd)) (call PGM d yS_copy [.ref 59, .ref 43] (heapOf g X N T K M dd))
    else some (some (.int (-1)), (heapOf g X N T K M dd)) := (ev_eq PGM d yB_together [24] 400 _).trans rfl
set_option maxRecDepth 100000 in
theorem eB_together_20 (d : Nat) (g : GT) (X : XS) (N T K : SS) (M : MS) (dd : AH) (i1 : Int32) (u3 : Option Value) : sem PGM d yB_together (20, [some (.ref 12), some (.int i1), none, u3], [], (heapOf g X N T K M dd)) =
    sem PGM d yB_together (24, [some (.ref 12), some (.int i1), some (.int 0), some (.int 1)], [], (heapOf g X N T K M dd)) := (ev_eq PGM d yB_together [24] 400 _).trans rfl
set_option maxRecDepth 100000 in
theorem eB_together_24 (d : Nat) (g : GT) (X : XS) (N T K : SS) (M : MS) (dd : AH) (i1 : Int32) (i2 : Int32) (i3 : Int32) : sem PGM d yB_together (24, [some (.ref 12), some (.int i1), some (.int i2), some (.int i3)], [], (heapOf g X N T K M dd)) =
    bif decide (i1 < i3) then some (some (.int i2), (heapOf g X N T K M dd))
    else aftK (sem PGM d yB_together) 1 (38, [some (.ref 12), some (.int i1), some (.int i2), some (.int i3)], [], (heapOf g X N T K M dd)) (call PGM d yS_tenth [.ref 59, .int i3, .null] (heapOf g X N T K M dd)) := (ev_eq PGM d yB_together [24] 400 _).trans rfl
set_option maxRecDepth 100000 in
theorem eB_together_38 (d : Nat) (g : GT) (X : XS) (N T K : SS) (M : MS) (dd : AH) (i1 : Int32) (i2 : Int32) (i3 : Int32) (k0 : Int32) : sem PGM d yB_together (38, [some (.ref 12), some (.int i1), some (.int i2), some (.int i3)], [.int k0], (heapOf g X N T K M dd)) =
    aftK (sem PGM d yB_together) 1 (46, [some (.ref 12), some (.int i1), some (.int i2), some (.int i3)], [], (heapOf g X N T K M dd)) (call PGM d yS_lone [.ref 59] (heapOf g X N T K M dd)) := (ev_eq PGM d yB_together [24] 400 _).trans rfl
set_option maxRecDepth 100000 in
theorem eB_together_46 (d : Nat) (g : GT) (X : XS) (N T K : SS) (M : MS) (dd : AH) (i1 : Int32) (i2 : Int32) (i3 : Int32) (k0 : Int32) : sem PGM d yB_together (46, [some (.ref 12), some (.int i1), some (.int i2), some (.int i3)], [.int k0], (heapOf g X N T K M dd)) =
    bif !decide (k0 = 0) then sem PGM d yB_together (24, [some (.ref 12), some (.int i1), some (.int i2), some (.int (i3 + 1))], [], (heapOf g X N T K M dd))
    else sem PGM d yB_together (24, [some (.ref 12), some (.int i1), some (.int (i2 + 1)), some (.int (i3 + 1))], [], (heapOf g X N T K M dd)) := (ev_eq PGM d yB_together [24] 400 _).trans rfl
set_option maxRecDepth 100000 in
theorem eB_harm_0 (d : Nat) (g : GT) (X : XS) (N T K : SS) (M : MS) (dd : AH) (i1 : Int32) : sem PGM d yB_harm (0, [some (.ref 12), some (.int i1)], [], (heapOf g X N T K M dd)) =
    aftK (sem PGM d yB_harm) 1 (4, [some (.ref 12), some (.int i1)], [], (heapOf g X N T K M dd)) (call PGM d yB_isTenths [.int i1] (heapOf g X N T K M dd)) := (ev_eq PGM d yB_harm [] 400 _).trans rfl
set_option maxRecDepth 100000 in
theorem eB_harm_4 (d : Nat) (g : GT) (X : XS) (N T K : SS) (M : MS) (dd : AH) (i1 : Int32) (k0 : Int32) : sem PGM d yB_harm (4, [some (.ref 12), some (.int i1)], [.int k0], (heapOf g X N T K M dd)) =
    bif !decide (k0 = 0) then aftK (sem PGM d yB_harm) 0 (20, [some (.ref 12), some (.int i1)], [], (heapOf g X N T K M dd)) (call PGM d yS_copy [.ref 59, .ref 43] (heapOf g X N T K M dd))
    else some (some (.int (-1)), (heapOf g X N T K M dd)) := (ev_eq PGM d yB_harm [] 400 _).trans rfl
set_option maxRecDepth 100000 in
theorem eB_harm_20 (d : Nat) (g : GT) (X : XS) (N T K : SS) (M : MS) (dd : AH) (i1 : Int32) : sem PGM d yB_harm (20, [some (.ref 12), some (.int i1)], [], (heapOf g X N T K M dd)) =
    aftK (sem PGM d yB_harm) 1 (29, [some (.ref 12), some (.int i1)], [], (heapOf g X N T K M dd)) (call PGM d yS_goOn [.ref 59, .int i1, .null] (heapOf g X N T K M dd)) := (ev_eq PGM d yB_harm [] 400 _).trans rfl
set_option maxRecDepth 100000 in
theorem eB_harm_29 (d : Nat) (g : GT) (X : XS) (N T K : SS) (M : MS) (dd : AH) (u0 : Option Value) (u1 : Option Value) (k0 : Int32) : sem PGM d yB_harm (29, [u0, u1], [.int k0], (heapOf g X N T K M dd)) =
    some (some (.int k0), (heapOf g X N T K M dd)) := (ev_eq PGM d yB_harm [] 400 _).trans rfl
set_option maxRecDepth 100000 in
theorem eB_prove_0 (d : Nat) (g : GT) (X : XS) (N T K : SS) (M : MS) (dd : AH) (i1 : Int32) : sem PGM d yB_prove (0, [some (.ref 12), some (.int i1)], [], (heapOf g X N T K M dd)) =
    aftK (sem PGM d yB_prove) 1 (4, [some (.ref 12), some (.int i1)], [], (heapOf g X N T K M dd)) (call PGM d yB_isTenths [.int i1] (heapOf g X N T K M dd)) := (ev_eq PGM d yB_prove [28] 400 _).trans rfl
set_option maxRecDepth 100000 in
theorem eB_prove_4 (d : Nat) (g : GT) (X : XS) (N T K : SS) (M : MS) (dd : AH) (i1 : Int32) (k0 : Int32) : sem PGM d yB_prove (4, [some (.ref 12), some (.int i1)], [.int k0], (heapOf g X N T K M dd)) =
    bif !decide (k0 = 0) then aftK (sem PGM d yB_prove) 0 (20, [some (.ref 12), some (.int i1)], [], (heapOf g X N T K M dd)) (call PGM d yS_copy [.ref 59, .ref 43] (heapOf g X N T K M dd))
    else some (some (.int (-1)), (heapOf g X N T K M dd)) := (ev_eq PGM d yB_prove [28] 400 _).trans rfl
set_option maxRecDepth 100000 in
theorem eB_prove_20 (d : Nat) (g : GT) (X : XS) (N T K : SS) (M : MS) (dd : AH) (i1 : Int32) : sem PGM d yB_prove (20, [some (.ref 12), some (.int i1)], [], (heapOf g X N T K M dd)) =
    sem PGM d yB_prove (28, [some (.ref 12), some (.int i1)], [], (heapOf g (xV X 6 0) N T K M dd)) := (ev_eq PGM d yB_prove [28] 400 _).trans rfl
set_option maxRecDepth 100000 in
theorem eB_prove_28 (d : Nat) (g : GT) (X : XS) (N T K : SS) (M : MS) (dd : AH) (i1 : Int32) : sem PGM d yB_prove (28, [some (.ref 12), some (.int i1)], [], (heapOf g X N T K M dd)) =
    aftK (sem PGM d yB_prove) 1 (40, [some (.ref 12), some (.int i1)], [], (heapOf g X N T K M dd)) (call PGM d yS_goOn [.ref 59, .int i1, .ref 22] (heapOf g X N T K M dd)) := (ev_eq PGM d yB_prove [28] 400 _).trans rfl
set_option maxRecDepth 100000 in
theorem eB_prove_40 (d : Nat) (g : GT) (X : XS) (N T K : SS) (M : MS) (dd : AH) (u1 : Option Value) (k0 : Int32) : sem PGM d yB_prove (40, [some (.ref 12), u1], [.int k0], (heapOf g X N T K M dd)) =
    some (some (.int (X.2.1 6)), (heapOf g X N T K M dd)) := (ev_eq PGM d yB_prove [28] 400 _).trans rfl
set_option maxRecDepth 100000 in
theorem eB_row_0 (d : Nat) (g : GT) (X : XS) (N T K : SS) (M : MS) (dd : AH) (i1 : Int32) (i2 : Int32) : sem PGM d yB_row (0, [some (.ref 12), some (.int i1), some (.int i2)], [], (heapOf g X N T K M dd)) =
    aftK (sem PGM d yB_row) 1 (9, [some (.ref 12), some (.int i1), some (.int i2)], [], (heapOf g X N T K M dd)) (call PGM d yW_has [.ref 22, .int i1, .int i2] (heapOf g X N T K M dd)) := (ev_eq PGM d yB_row [] 400 _).trans rfl
set_option maxRecDepth 100000 in
theorem eB_row_9 (d : Nat) (g : GT) (X : XS) (N T K : SS) (M : MS) (dd : AH) (i1 : Int32) (i2 : Int32) (k0 : Int32) : sem PGM d yB_row (9, [some (.ref 12), some (.int i1), some (.int i2)], [.int k0], (heapOf g X N T K M dd)) =
    bif decide (k0 = 0) then some (some (.int (-9)), (heapOf g X N T K M dd))
    else bif decide (i2 = nI 0) && true && true && true then bif inb i1 24 then some (some (.int ((X.1 8) (i1).toNatClampNeg)), (heapOf g X N T K M dd))
        else none
      else bif decide (i2 = nI 1) && true && true && true then bif inb i1 24 then some (some (.int ((X.1 9) (i1).toNatClampNeg)), (heapOf g X N T K M dd))
        else none
      else bif decide (i2 = nI 2) && true && true && true then bif inb i1 24 then some (some (.int ((X.1 10) (i1).toNatClampNeg)), (heapOf g X N T K M dd))
        else none
      else none := (ev_eq PGM d yB_row [] 400 _).trans rfl
set_option maxRecDepth 100000 in
theorem eB_alterRow_0 (d : Nat) (g : GT) (X : XS) (N T K : SS) (M : MS) (dd : AH) (i1 : Int32) (i2 : Int32) (i3 : Int32) : sem PGM d yB_alterRow (0, [some (.ref 12), some (.int i1), some (.int i2), some (.int i3), none], [], (heapOf g X N T K M dd)) =
    aftK (sem PGM d yB_alterRow) 1 (9, [some (.ref 12), some (.int i1), some (.int i2), some (.int i3), none], [], (heapOf g X N T K M dd)) (call PGM d yW_has [.ref 22, .int i1, .int i2] (heapOf g X N T K M dd)) := (ev_eq PGM d yB_alterRow [] 400 _).trans rfl
set_option maxRecDepth 100000 in
theorem eB_alterRow_9 (d : Nat) (g : GT) (X : XS) (N T K : SS) (M : MS) (dd : AH) (i1 : Int32) (i2 : Int32) (i3 : Int32) (u4 : Option Value) (k0 : Int32) : sem PGM d yB_alterRow (9, [some (.ref 12), some (.int i1), some (.int i2), some (.int i3), u4], [.int k0], (heapOf g X N T K M dd)) =
    bif !decide (k0 = 0) then bif decide (i2 = nI 0) && true && true && true then bif inb i1 24 then bif decide (i2 = nI 0) && true && true && true then bif inb i1 24 then some (some (.int ((X.1 8) (i1).toNatClampNeg)), (heapOf g (xA X 8 (upd (X.1 8) (i1).toNatClampNeg i3)) N T K M dd))
            else none
          else bif decide (i2 = nI 1) && true && true && true then bif inb i1 24 then some (some (.int ((X.1 8) (i1).toNatClampNeg)), (heapOf g (xA X 9 (upd (X.1 9) (i1).toNatClampNeg i3)) N T K M dd))
            else none
          else bif decide (i2 = nI 2) && true && true && true then bif inb i1 24 then some (some (.int ((X.1 8) (i1).toNatClampNeg)), (heapOf g (xA X 10 (upd (X.1 10) (i1).toNatClampNeg i3)) N T K M dd))
            else none
          else none
        else none
      else bif decide (i2 = nI 1) && true && true && true then bif inb i1 24 then bif decide (i2 = nI 0) && true && true && true then bif inb i1 24 then some (some (.int ((X.1 9) (i1).toNatClampNeg)), (heapOf g (xA X 8 (upd (X.1 8) (i1).toNatClampNeg i3)) N T K M dd))
            else none
          else bif decide (i2 = nI 1) && true && true && true then bif inb i1 24 then some (some (.int ((X.1 9) (i1).toNatClampNeg)), (heapOf g (xA X 9 (upd (X.1 9) (i1).toNatClampNeg i3)) N T K M dd))
            else none
          else bif decide (i2 = nI 2) && true && true && true then bif inb i1 24 then some (some (.int ((X.1 9) (i1).toNatClampNeg)), (heapOf g (xA X 10 (upd (X.1 10) (i1).toNatClampNeg i3)) N T K M dd))
            else none
          else none
        else none
      else bif decide (i2 = nI 2) && true && true && true then bif inb i1 24 then bif decide (i2 = nI 0) && true && true && true then bif inb i1 24 then some (some (.int ((X.1 10) (i1).toNatClampNeg)), (heapOf g (xA X 8 (upd (X.1 8) (i1).toNatClampNeg i3)) N T K M dd))
            else none
          else bif decide (i2 = nI 1) && true && true && true then bif inb i1 24 then some (some (.int ((X.1 10) (i1).toNatClampNeg)), (heapOf g (xA X 9 (upd (X.1 9) (i1).toNatClampNeg i3)) N T K M dd))
            else none
          else bif decide (i2 = nI 2) && true && true && true then bif inb i1 24 then some (some (.int ((X.1 10) (i1).toNatClampNeg)), (heapOf g (xA X 10 (upd (X.1 10) (i1).toNatClampNeg i3)) N T K M dd))
            else none
          else none
        else none
      else none
    else some (some (.int (-9)), (heapOf g X N T K M dd)) := (ev_eq PGM d yB_alterRow [] 400 _).trans rfl
set_option maxRecDepth 100000 in
theorem eB_judge_0 (d : Nat) (g : GT) (X : XS) (N T K : SS) (M : MS) (dd : AH)  : sem PGM d yB_judge (0, [some (.ref 12), none], [], (heapOf g X N T K M dd)) =
    aftK (sem PGM d yB_judge) 0 (11, [some (.ref 12), none], [], (heapOf g X N T K M dd)) (call PGM d yS_copy [.ref 59, .ref 43] (heapOf g X N T K M dd)) := (ev_eq PGM d yB_judge [19, 35] 400 _).trans rfl
set_option maxRecDepth 100000 in
theorem eB_judge_11 (d : Nat) (g : GT) (X : XS) (N T K : SS) (M : MS) (dd : AH) (u1 : Option Value) : sem PGM d yB_judge (11, [some (.ref 12), u1], [], (heapOf g X N T K M dd)) =
    sem PGM d yB_judge (19, [some (.ref 12), u1], [], (heapOf g (xV X 7 0) N T K M dd)) := (ev_eq PGM d yB_judge [19, 35] 400 _).trans rfl
set_option maxRecDepth 100000 in
theorem eB_judge_19 (d : Nat) (g : GT) (X : XS) (N T K : SS) (M : MS) (dd : AH) (u1 : Option Value) : sem PGM d yB_judge (19, [some (.ref 12), u1], [], (heapOf g X N T K M dd)) =
    aftK (sem PGM d yB_judge) 1 (32, [some (.ref 12), u1], [], (heapOf g X N T K M dd)) (call PGM d yS_goOn [.ref 59, .int 60, .ref 27] (heapOf g X N T K M dd)) := (ev_eq PGM d yB_judge [19, 35] 400 _).trans rfl
set_option maxRecDepth 100000 in
theorem eB_judge_32 (d : Nat) (g : GT) (X : XS) (N T K : SS) (M : MS) (dd : AH) (u1 : Option Value) (k0 : Int32) : sem PGM d yB_judge (32, [some (.ref 12), u1], [.int k0], (heapOf g X N T K M dd)) =
    sem PGM d yB_judge (35, [some (.ref 12), some (.int 0)], [], (heapOf g X N T K M dd)) := (ev_eq PGM d yB_judge [19, 35] 400 _).trans rfl
set_option maxRecDepth 100000 in
theorem eB_judge_35 (d : Nat) (g : GT) (X : XS) (N T K : SS) (M : MS) (dd : AH) (i1 : Int32) : sem PGM d yB_judge (35, [some (.ref 12), some (.int i1)], [], (heapOf g X N T K M dd)) =
    bif decide ((X.2.1 6) ≤ i1) then some (some (.int 0), (heapOf g X N T K M dd))
    else aftK (sem PGM d yB_judge) 1 (58, [some (.ref 12), some (.int i1)], [], (heapOf g X N T K M dd)) (call PGM d yW_sameAt [.ref 22, .int i1, .ref 27] (heapOf g X N T K M dd)) := (ev_eq PGM d yB_judge [19, 35] 400 _).trans rfl
set_option maxRecDepth 100000 in
theorem eB_judge_58 (d : Nat) (g : GT) (X : XS) (N T K : SS) (M : MS) (dd : AH) (i1 : Int32) (k0 : Int32) : sem PGM d yB_judge (58, [some (.ref 12), some (.int i1)], [.int k0], (heapOf g X N T K M dd)) =
    bif !decide (k0 = 0) then sem PGM d yB_judge (35, [some (.ref 12), some (.int (i1 + 1))], [], (heapOf g X N T K M dd))
    else some (some (.int (i1 + 1)), (heapOf g X N T K M dd)) := (ev_eq PGM d yB_judge [19, 35] 400 _).trans rfl
set_option maxRecDepth 100000 in
theorem eB_sheet_0 (d : Nat) (g : GT) (X : XS) (N T K : SS) (M : MS) (dd : AH) (i1 : Int32) (i2 : Int32) (i3 : Int32) : sem PGM d yB_sheet (0, [some (.ref 12), some (.int i1), some (.int i2), some (.int i3)], [], (heapOf g X N T K M dd)) =
    aftK (sem PGM d yB_sheet) 1 (4, [some (.ref 12), some (.int i1), some (.int i2), some (.int i3)], [], (heapOf g X N T K M dd)) (call PGM d yB_isHolder [.int i1] (heapOf g X N T K M dd)) := (ev_eq PGM d yB_sheet [] 400 _).trans rfl
set_option maxRecDepth 100000 in
theorem eB_sheet_4 (d : Nat) (g : GT) (X : XS) (N T K : SS) (M : MS) (dd : AH) (i1 : Int32) (i2 : Int32) (i3 : Int32) (k0 : Int32) : sem PGM d yB_sheet (4, [some (.ref 12), some (.int i1), some (.int i2), some (.int i3)], [.int k0], (heapOf g X N T K M dd)) =
    bif decide (k0 = 0) then some (some (.int (-1)), (heapOf g X N T K M dd))
    else bif decide (i2 < (-1)) then some (some (.int (-1)), (heapOf g X N T K M dd))
      else bif decide (i2 ≤ 4) then bif !decide (i2 = (-1)) then bif decide (i3 ≤ 40) then bif decide (0 ≤ i3) then bif Nat.ble 12 (List.length (heapOf g X N T K M dd)) && true then aftK (sem PGM d yB_sheet) 0 (62, [some (.ref 12), some (.int i1), some (.int i2), some (.int i3)], [.ref (List.length (heapOf g X N T K M dd)), .int i1, .ref 32], ((heapOf g X N T K M dd) ++ [objOf dfls 4])) (call PGM d yH_init [.ref (List.length (heapOf g X N T K M dd)), .int i2, .int i3] ((heapOf g X N T K M dd) ++ [objOf dfls 4]))
                else none
              else some (some (.int (-14)), (heapOf g X N T K M dd))
            else some (some (.int (-1)), (heapOf g X N T K M dd))
          else bif inb i1 4 then some (some (.int 1), (heapOf g (xO X 0 (va_up (X.2.2 0) (i1).toNatClampNeg none)) N T K M dd))
            else none
        else some (some (.int (-1)), (heapOf g X N T K M dd)) := (ev_eq PGM d yB_sheet [] 400 _).trans rfl
set_option maxRecDepth 100000 in
theorem eB_sheet_62 (d : Nat) (g : GT) (X : XS) (N T K : SS) (M : MS) (dd : AH) (u0 : Option Value) (u1 : Option Value) (u2 : Option Value) (u3 : Option Value) (k1 : Int32) (q2 : Nat) : sem PGM d yB_sheet (62, [u0, u1, u2, u3], [.ref q2, .int k1, .ref 32], (heapOf g X N T K M dd)) =
    bif Nat.ble 12 q2 && true && okC (heapOf g X N T K M dd) q2 4 && inb k1 4 then some (some (.int 1), (heapOf g (xO X 0 (va_up (X.2.2 0) (k1).toNatClampNeg (some q2))) N T K M dd))
    else none := (ev_eq PGM d yB_sheet [] 400 _).trans rfl
set_option maxRecDepth 100000 in
theorem eB_isHolder_0 (d : Nat) (h : AH) (i0 : Int32) : sem PGM d yB_isHolder (0, [some (.int i0)], [], h) =
    bif decide (i0 < 0) then some (some (.int 0), h)
    else bif decide (4 ≤ i0) then some (some (.int 0), h)
      else some (some (.int 1), h) := (ev_eq PGM d yB_isHolder [] 400 _).trans rfl
