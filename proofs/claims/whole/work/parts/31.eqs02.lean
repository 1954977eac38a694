/-! Equations of blocks, by wip/whole/gen/alleq.py. -/
set_option maxRecDepth 100000 in
theorem eS_heapUp_0 (d : Nat) (o : Nat) (ho : o = 43 ∨ o = 59) (S : SS) (Z : RT)  : sem PGM d yS_heapUp (0, [some (.ref o), none], [], (hS o S Z)) =
    sem PGM d yS_heapUp (2, [some (.ref o), some (.int 0)], [], (hS o S Z)) := by rcases ho with rfl | rfl <;> exact (ev_eq PGM d yS_heapUp [2] 400 _).trans rfl
set_option maxRecDepth 100000 in
theorem eS_heapUp_2 (d : Nat) (o : Nat) (ho : o = 43 ∨ o = 59) (S : SS) (Z : RT) (i1 : Int32) : sem PGM d yS_heapUp (2, [some (.ref o), some (.int i1)], [], (hS o S Z)) =
    bif decide ((S.2.1 1) ≤ i1) then some (none, (hS o S Z))
    else aftK (sem PGM d yS_heapUp) 1 (15, [some (.ref o), some (.int i1)], [], (hS o S Z)) (call PGM d yS_isOut [.ref o, .int i1] (hS o S Z)) := by rcases ho with rfl | rfl <;> exact (ev_eq PGM d yS_heapUp [2] 400 _).trans rfl
set_option maxRecDepth 100000 in
theorem eS_heapUp_15 (d : Nat) (o : Nat) (ho : o = 43 ∨ o = 59) (S : SS) (Z : RT) (i1 : Int32) (k0 : Int32) : sem PGM d yS_heapUp (15, [some (.ref o), some (.int i1)], [.int k0], (hS o S Z)) =
    bif !decide (k0 = 0) then sem PGM d yS_heapUp (2, [some (.ref o), some (.int (i1 + 1))], [], (hS o S Z))
    else bif inb i1 20 then aftK (sem PGM d yS_heapUp) 1 (28, [some (.ref o), some (.int i1)], [], (hS o S Z)) (call PGM d yB_isA [.int ((S.1 5) (i1).toNatClampNeg), .int 3] (hS o S Z))
      else none := by rcases ho with rfl | rfl <;> exact (ev_eq PGM d yS_heapUp [2] 400 _).trans rfl
set_option maxRecDepth 100000 in
theorem eS_heapUp_28 (d : Nat) (o : Nat) (ho : o = 43 ∨ o = 59) (S : SS) (Z : RT) (i1 : Int32) (k0 : Int32) : sem PGM d yS_heapUp (28, [some (.ref o), some (.int i1)], [.int k0], (hS o S Z)) =
    bif !decide (k0 = 0) then bif inb i1 20 then aftK (sem PGM d yS_heapUp) 1 (44, [some (.ref o), some (.int i1)], [], (hS o S Z)) (call PGM d yS_hasCell [.ref o, .int ((S.1 6) (i1).toNatClampNeg)] (hS o S Z))
      else none
    else sem PGM d yS_heapUp (2, [some (.ref o), some (.int (i1 + 1))], [], (hS o S Z)) := by rcases ho with rfl | rfl <;> exact (ev_eq PGM d yS_heapUp [2] 400 _).trans rfl
set_option maxRecDepth 100000 in
theorem eS_heapUp_44 (d : Nat) (o : Nat) (ho : o = 43 ∨ o = 59) (S : SS) (Z : RT) (i1 : Int32) (k0 : Int32) : sem PGM d yS_heapUp (44, [some (.ref o), some (.int i1)], [.int k0], (hS o S Z)) =
    bif decide (k0 = 0) then sem PGM d yS_heapUp (2, [some (.ref o), some (.int (i1 + 1))], [], (hS o S Z))
    else bif inb i1 20 then bif inb ((S.1 6) (i1).toNatClampNeg) 30 then bif decide (((S.1 4) (((S.1 6) (i1).toNatClampNeg)).toNatClampNeg) < ((S.1 12) 2)) then sem PGM d yS_heapUp (2, [some (.ref o), some (.int (i1 + 1))], [], (hS o S Z))
          else aftK (sem PGM d yS_heapUp) 0 (74, [some (.ref o), some (.int i1)], [], (hS o S Z)) (call PGM d yS_become [.ref o, .int i1, .int 6] (hS o S Z))
        else none
      else none := by rcases ho with rfl | rfl <;> exact (ev_eq PGM d yS_heapUp [2] 400 _).trans rfl
set_option maxRecDepth 100000 in
theorem eS_heapUp_74 (d : Nat) (o : Nat) (ho : o = 43 ∨ o = 59) (S : SS) (Z : RT) (i1 : Int32) : sem PGM d yS_heapUp (74, [some (.ref o), some (.int i1)], [], (hS o S Z)) =
    sem PGM d yS_heapUp (2, [some (.ref o), some (.int (i1 + 1))], [], (hS o S Z)) := by rcases ho with rfl | rfl <;> exact (ev_eq PGM d yS_heapUp [2] 400 _).trans rfl
set_option maxRecDepth 100000 in
theorem eS_allHurts_0 (d : Nat) (o : Nat) (ho : o = 43 ∨ o = 59) (S : SS) (Z : RT)  : sem PGM d yS_allHurts (0, [some (.ref o), none, none], [], (hS o S Z)) =
    sem PGM d yS_allHurts (4, [some (.ref o), some (.int 0), some (.int 0)], [], (hS o S Z)) := by rcases ho with rfl | rfl <;> exact (ev_eq PGM d yS_allHurts [4] 400 _).trans rfl
set_option maxRecDepth 100000 in
theorem eS_allHurts_4 (d : Nat) (o : Nat) (ho : o = 43 ∨ o = 59) (S : SS) (Z : RT) (i1 : Int32) (i2 : Int32) : sem PGM d yS_allHurts (4, [some (.ref o), some (.int i1), some (.int i2)], [], (hS o S Z)) =
    bif decide ((S.2.1 1) ≤ i2) then some (some (.int i1), (hS o S Z))
    else bif inb i2 20 then sem PGM d yS_allHurts (4, [some (.ref o), some (.int (i1 + ((S.1 8) (i2).toNatClampNeg))), some (.int (i2 + 1))], [], (hS o S Z))
      else none := by rcases ho with rfl | rfl <;> exact (ev_eq PGM d yS_allHurts [4] 400 _).trans rfl
set_option maxRecDepth 100000 in
theorem eS_peopleOut_0 (d : Nat) (o : Nat) (ho : o = 43 ∨ o = 59) (S : SS) (Z : RT)  : sem PGM d yS_peopleOut (0, [some (.ref o), none, none], [], (hS o S Z)) =
    sem PGM d yS_peopleOut (4, [some (.ref o), some (.int 0), some (.int 0)], [], (hS o S Z)) := by rcases ho with rfl | rfl <;> exact (ev_eq PGM d yS_peopleOut [4] 400 _).trans rfl
set_option maxRecDepth 100000 in
theorem eS_peopleOut_4 (d : Nat) (o : Nat) (ho : o = 43 ∨ o = 59) (S : SS) (Z : RT) (i1 : Int32) (i2 : Int32) : sem PGM d yS_peopleOut (4, [some (.ref o), some (.int i1), some (.int i2)], [], (hS o S Z)) =
    bif decide ((S.2.1 1) ≤ i2) then some (some (.int i1), (hS o S Z))
    else aftK (sem PGM d yS_peopleOut) 1 (17, [some (.ref o), some (.int i1), some (.int i2)], [], (hS o S Z)) (call PGM d yS_isOut [.ref o, .int i2] (hS o S Z)) := by rcases ho with rfl | rfl <;> exact (ev_eq PGM d yS_peopleOut [4] 400 _).trans rfl
set_option maxRecDepth 100000 in
theorem eS_peopleOut_17 (d : Nat) (o : Nat) (ho : o = 43 ∨ o = 59) (S : SS) (Z : RT) (i1 : Int32) (i2 : Int32) (k0 : Int32) : sem PGM d yS_peopleOut (17, [some (.ref o), some (.int i1), some (.int i2)], [.int k0], (hS o S Z)) =
    bif decide (k0 = 0) then sem PGM d yS_peopleOut (4, [some (.ref o), some (.int i1), some (.int (i2 + 1))], [], (hS o S Z))
    else sem PGM d yS_peopleOut (4, [some (.ref o), some (.int (i1 + 1)), some (.int (i2 + 1))], [], (hS o S Z)) := by rcases ho with rfl | rfl <;> exact (ev_eq PGM d yS_peopleOut [4] 400 _).trans rfl
set_option maxRecDepth 100000 in
theorem eS_heaps_0 (d : Nat) (o : Nat) (ho : o = 43 ∨ o = 59) (S : SS) (Z : RT)  : sem PGM d yS_heaps (0, [some (.ref o), none, none], [], (hS o S Z)) =
    sem PGM d yS_heaps (4, [some (.ref o), some (.int 0), some (.int 0)], [], (hS o S Z)) := by rcases ho with rfl | rfl <;> exact (ev_eq PGM d yS_heaps [4] 400 _).trans rfl
set_option maxRecDepth 100000 in
theorem eS_heaps_4 (d : Nat) (o : Nat) (ho : o = 43 ∨ o = 59) (S : SS) (Z : RT) (i1 : Int32) (i2 : Int32) : sem PGM d yS_heaps (4, [some (.ref o), some (.int i1), some (.int i2)], [], (hS o S Z)) =
    bif decide ((S.2.1 1) ≤ i2) then aftK (sem PGM d yS_heaps) 1 (52, [some (.ref o), some (.int i1), some (.int i2)], [], (hS o S Z)) (call PGM d yJ_Integer_bitCount [.int i1] (hS o S Z))
    else aftK (sem PGM d yS_heaps) 1 (17, [some (.ref o), some (.int i1), some (.int i2)], [], (hS o S Z)) (call PGM d yS_isOut [.ref o, .int i2] (hS o S Z)) := by rcases ho with rfl | rfl <;> exact (ev_eq PGM d yS_heaps [4] 400 _).trans rfl
set_option maxRecDepth 100000 in
theorem eS_heaps_52 (d : Nat) (o : Nat) (ho : o = 43 ∨ o = 59) (S : SS) (Z : RT) (i1 : Int32) (u2 : Option Value) (k0 : Int32) : sem PGM d yS_heaps (52, [some (.ref o), some (.int i1), u2], [.int k0], (hS o S Z)) =
    some (some (.int k0), (hS o S Z)) := by rcases ho with rfl | rfl <;> exact (ev_eq PGM d yS_heaps [4] 400 _).trans rfl
set_option maxRecDepth 100000 in
theorem eS_heaps_17 (d : Nat) (o : Nat) (ho : o = 43 ∨ o = 59) (S : SS) (Z : RT) (i1 : Int32) (i2 : Int32) (k0 : Int32) : sem PGM d yS_heaps (17, [some (.ref o), some (.int i1), some (.int i2)], [.int k0], (hS o S Z)) =
    bif !decide (k0 = 0) then sem PGM d yS_heaps (4, [some (.ref o), some (.int i1), some (.int (i2 + 1))], [], (hS o S Z))
    else bif inb i2 20 then bif !decide (((S.1 5) (i2).toNatClampNeg) = 6) then sem PGM d yS_heaps (4, [some (.ref o), some (.int i1), some (.int (i2 + 1))], [], (hS o S Z))
        else bif inb i2 20 then sem PGM d yS_heaps (4, [some (.ref o), some (.int (i1 ||| (1 <<< (((S.1 6) (i2).toNatClampNeg) &&& 31)))), some (.int (i2 + 1))], [], (hS o S Z))
          else none
      else none := by rcases ho with rfl | rfl <;> exact (ev_eq PGM d yS_heaps [4] 400 _).trans rfl
set_option maxRecDepth 100000 in
theorem eS_copy_59_43_0 (d : Nat) (g : GT) (X : XS) (N T K : SS) (M : MS) (dd : AH)  : sem PGM d yS_copy (0, [some (.ref 59), some (.ref 43), none], [], (heapOf g X N T K M dd)) =
    sem PGM d yS_copy (8, [some (.ref 59), some (.ref 43), none], [], (heapOf g X N (sV T 0 (N.2.1 0)) K M dd)) := (ev_eq PGM d yS_copy [8, 10, 66, 118, 170, 178, 186] 400 _).trans rfl
set_option maxRecDepth 100000 in
theorem eS_copy_59_43_8 (d : Nat) (g : GT) (X : XS) (N T K : SS) (M : MS) (dd : AH) (u2 : Option Value) : sem PGM d yS_copy (8, [some (.ref 59), some (.ref 43), u2], [], (heapOf g X N T K M dd)) =
    sem PGM d yS_copy (10, [some (.ref 59), some (.ref 43), some (.int 0)], [], (heapOf g X N T K M dd)) := (ev_eq PGM d yS_copy [8, 10, 66, 118, 170, 178, 186] 400 _).trans rfl
set_option maxRecDepth 100000 in
theorem eS_copy_59_43_10 (d : Nat) (g : GT) (X : XS) (N T K : SS) (M : MS) (dd : AH) (i2 : Int32) : sem PGM d yS_copy (10, [some (.ref 59), some (.ref 43), some (.int i2)], [], (heapOf g X N T K M dd)) =
    bif decide (2 < i2) then aftK (sem PGM d yS_copy) 0 (47, [some (.ref 59), some (.ref 43), some (.int i2)], [], (heapOf g X N T K M dd)) (call PGM d yS_copyRow [.ref 48, .ref 64] (heapOf g X N T K M dd))
    else bif decide (i2 = nI 0) && true && true && true then bif decide (i2 = nI 0) && true && true && true then aftK (sem PGM d yS_copy) 0 (30, [some (.ref 59), some (.ref 43), some (.int i2)], [], (heapOf g X N T K M dd)) (call PGM d yS_copyRow [.ref 45, .ref 61] (heapOf g X N T K M dd))
        else bif decide (i2 = nI 1) && true && true && true then aftK (sem PGM d yS_copy) 0 (30, [some (.ref 59), some (.ref 43), some (.int i2)], [], (heapOf g X N T K M dd)) (call PGM d yS_copyRow [.ref 45, .ref 62] (heapOf g X N T K M dd))
        else bif decide (i2 = nI 2) && true && true && true then aftK (sem PGM d yS_copy) 0 (30, [some (.ref 59), some (.ref 43), some (.int i2)], [], (heapOf g X N T K M dd)) (call PGM d yS_copyRow [.ref 45, .ref 63] (heapOf g X N T K M dd))
        else none
      else bif decide (i2 = nI 1) && true && true && true then bif decide (i2 = nI 0) && true && true && true then aftK (sem PGM d yS_copy) 0 (30, [some (.ref 59), some (.ref 43), some (.int i2)], [], (heapOf g X N T K M dd)) (call PGM d yS_copyRow [.ref 46, .ref 61] (heapOf g X N T K M dd))
        else bif decide (i2 = nI 1) && true && true && true then aftK (sem PGM d yS_copy) 0 (30, [some (.ref 59), some (.ref 43), some (.int i2)], [], (heapOf g X N T K M dd)) (call PGM d yS_copyRow [.ref 46, .ref 62] (heapOf g X N T K M dd))
        else bif decide (i2 = nI 2) && true && true && true then aftK (sem PGM d yS_copy) 0 (30, [some (.ref 59), some (.ref 43), some (.int i2)], [], (heapOf g X N T K M dd)) (call PGM d yS_copyRow [.ref 46, .ref 63] (heapOf g X N T K M dd))
        else none
      else bif decide (i2 = nI 2) && true && true && true then bif decide (i2 = nI 0) && true && true && true then aftK (sem PGM d yS_copy) 0 (30, [some (.ref 59), some (.ref 43), some (.int i2)], [], (heapOf g X N T K M dd)) (call PGM d yS_copyRow [.ref 47, .ref 61] (heapOf g X N T K M dd))
        else bif decide (i2 = nI 1) && true && true && true then aftK (sem PGM d yS_copy) 0 (30, [some (.ref 59), some (.ref 43), some (.int i2)], [], (heapOf g X N T K M dd)) (call PGM d yS_copyRow [.ref 47, .ref 62] (heapOf g X N T K M dd))
        else bif decide (i2 = nI 2) && true && true && true then aftK (sem PGM d yS_copy) 0 (30, [some (.ref 59), some (.ref 43), some (.int i2)], [], (heapOf g X N T K M dd)) (call PGM d yS_copyRow [.ref 47, .ref 63] (heapOf g X N T K M dd))
        else none
      else none := (ev_eq PGM d yS_copy [8, 10, 66, 118, 170, 178, 186] 400 _).trans rfl
set_option maxRecDepth 100000 in
theorem eS_copy_59_43_47 (d : Nat) (g : GT) (X : XS) (N T K : SS) (M : MS) (dd : AH) (u2 : Option Value) : sem PGM d yS_copy (47, [some (.ref 59), some (.ref 43), u2], [], (heapOf g X N T K M dd)) =
    aftK (sem PGM d yS_copy) 0 (58, [some (.ref 59), some (.ref 43), u2], [], (heapOf g X N T K M dd)) (call PGM d yS_copyRow [.ref 49, .ref 65] (heapOf g X N T K M dd)) := (ev_eq PGM d yS_copy [8, 10, 66, 118, 170, 178, 186] 400 _).trans rfl
set_option maxRecDepth 100000 in
theorem eS_copy_59_43_30 (d : Nat) (g : GT) (X : XS) (N T K : SS) (M : MS) (dd : AH) (i2 : Int32) : sem PGM d yS_copy (30, [some (.ref 59), some (.ref 43), some (.int i2)], [], (heapOf g X N T K M dd)) =
    sem PGM d yS_copy (10, [some (.ref 59), some (.ref 43), some (.int (i2 + 1))], [], (heapOf g X N T K M dd)) := (ev_eq PGM d yS_copy [8, 10, 66, 118, 170, 178, 186] 400 _).trans rfl
set_option maxRecDepth 100000 in
theorem eS_copy_59_43_58 (d : Nat) (g : GT) (X : XS) (N T K : SS) (M : MS) (dd : AH) (u2 : Option Value) : sem PGM d yS_copy (58, [some (.ref 59), some (.ref 43), u2], [], (heapOf g X N T K M dd)) =
    sem PGM d yS_copy (66, [some (.ref 59), some (.ref 43), u2], [], (heapOf g X N (sV T 1 (N.2.1 1)) K M dd)) := (ev_eq PGM d yS_copy [8, 10, 66, 118, 170, 178, 186] 400 _).trans rfl
set_option maxRecDepth 100000 in
theorem eS_copy_59_43_66 (d : Nat) (g : GT) (X : XS) (N T K : SS) (M : MS) (dd : AH) (u2 : Option Value) : sem PGM d yS_copy (66, [some (.ref 59), some (.ref 43), u2], [], (heapOf g X N T K M dd)) =
    aftK (sem PGM d yS_copy) 0 (77, [some (.ref 59), some (.ref 43), u2], [], (heapOf g X N T K M dd)) (call PGM d yS_copyRow [.ref 50, .ref 66] (heapOf g X N T K M dd)) := (ev_eq PGM d yS_copy [8, 10, 66, 118, 170, 178, 186] 400 _).trans rfl
set_option maxRecDepth 100000 in
theorem eS_copy_59_43_77 (d : Nat) (g : GT) (X : XS) (N T K : SS) (M : MS) (dd : AH) (u2 : Option Value) : sem PGM d yS_copy (77, [some (.ref 59), some (.ref 43), u2], [], (heapOf g X N T K M dd)) =
    aftK (sem PGM d yS_copy) 0 (88, [some (.ref 59), some (.ref 43), u2], [], (heapOf g X N T K M dd)) (call PGM d yS_copyRow [.ref 51, .ref 67] (heapOf g X N T K M dd)) := (ev_eq PGM d yS_copy [8, 10, 66, 118, 170, 178, 186] 400 _).trans rfl
set_option maxRecDepth 100000 in
theorem eS_copy_59_43_88 (d : Nat) (g : GT) (X : XS) (N T K : SS) (M : MS) (dd : AH) (u2 : Option Value) : sem PGM d yS_copy (88, [some (.ref 59), some (.ref 43), u2], [], (heapOf g X N T K M dd)) =
    aftK (sem PGM d yS_copy) 0 (99, [some (.ref 59), some (.ref 43), u2], [], (heapOf g X N T K M dd)) (call PGM d yS_copyRow [.ref 52, .ref 68] (heapOf g X N T K M dd)) := (ev_eq PGM d yS_copy [8, 10, 66, 118, 170, 178, 186] 400 _).trans rfl
set_option maxRecDepth 100000 in
theorem eS_copy_59_43_99 (d : Nat) (g : GT) (X : XS) (N T K : SS) (M : MS) (dd : AH) (u2 : Option Value) : sem PGM d yS_copy (99, [some (.ref 59), some (.ref 43), u2], [], (heapOf g X N T K M dd)) =
    aftK (sem PGM d yS_copy) 0 (110, [some (.ref 59), some (.ref 43), u2], [], (heapOf g X N T K M dd)) (call PGM d yS_copyRow [.ref 53, .ref 69] (heapOf g X N T K M dd)) := (ev_eq PGM d yS_copy [8, 10, 66, 118, 170, 178, 186] 400 _).trans rfl
set_option maxRecDepth 100000 in
theorem eS_copy_59_43_110 (d : Nat) (g : GT) (X : XS) (N T K : SS) (M : MS) (dd : AH) (u2 : Option Value) : sem PGM d yS_copy (110, [some (.ref 59), some (.ref 43), u2], [], (heapOf g X N T K M dd)) =
    sem PGM d yS_copy (118, [some (.ref 59), some (.ref 43), u2], [], (heapOf g X N (sV T 2 (N.2.1 2)) K M dd)) := (ev_eq PGM d yS_copy [8, 10, 66, 118, 170, 178, 186] 400 _).trans rfl
set_option maxRecDepth 100000 in
theorem eS_copy_59_43_118 (d : Nat) (g : GT) (X : XS) (N T K : SS) (M : MS) (dd : AH) (u2 : Option Value) : sem PGM d yS_copy (118, [some (.ref 59), some (.ref 43), u2], [], (heapOf g X N T K M dd)) =
    aftK (sem PGM d yS_copy) 0 (129, [some (.ref 59), some (.ref 43), u2], [], (heapOf g X N T K M dd)) (call PGM d yS_copyRow [.ref 54, .ref 70] (heapOf g X N T K M dd)) := (ev_eq PGM d yS_copy [8, 10, 66, 118, 170, 178, 186] 400 _).trans rfl
set_option maxRecDepth 100000 in
theorem eS_copy_59_43_129 (d : Nat) (g : GT) (X : XS) (N T K : SS) (M : MS) (dd : AH) (u2 : Option Value) : sem PGM d yS_copy (129, [some (.ref 59), some (.ref 43), u2], [], (heapOf g X N T K M dd)) =
    aftK (sem PGM d yS_copy) 0 (140, [some (.ref 59), some (.ref 43), u2], [], (heapOf g X N T K M dd)) (call PGM d yS_copyRow [.ref 55, .ref 71] (heapOf g X N T K M dd)) := (ev_eq PGM d yS_copy [8, 10, 66, 118, 170, 178, 186] 400 _).trans rfl
set_option maxRecDepth 100000 in
theorem eS_copy_59_43_140 (d : Nat) (g : GT) (X : XS) (N T K : SS) (M : MS) (dd : AH) (u2 : Option Value) : sem PGM d yS_copy (140, [some (.ref 59), some (.ref 43), u2], [], (heapOf g X N T K M dd)) =
    aftK (sem PGM d yS_copy) 0 (151, [some (.ref 59), some (.ref 43), u2], [], (heapOf g X N T K M dd)) (call PGM d yS_copyRow [.ref 56, .ref 72] (heapOf g X N T K M dd)) := (ev_eq PGM d yS_copy [8, 10, 66, 118, 170, 178, 186] 400 _).trans rfl
set_option maxRecDepth 100000 in
theorem eS_copy_59_43_151 (d : Nat) (g : GT) (X : XS) (N T K : SS) (M : MS) (dd : AH) (u2 : Option Value) : sem PGM d yS_copy (151, [some (.ref 59), some (.ref 43), u2], [], (heapOf g X N T K M dd)) =
    aftK (sem PGM d yS_copy) 0 (162, [some (.ref 59), some (.ref 43), u2], [], (heapOf g X N T K M dd)) (call PGM d yS_copyRow [.ref 57, .ref 73] (heapOf g X N T K M dd)) := (ev_eq PGM d yS_copy [8, 10, 66, 118, 170, 178, 186] 400 _).trans rfl
set_option maxRecDepth 100000 in
theorem eS_copy_59_43_162 (d : Nat) (g : GT) (X : XS) (N T K : SS) (M : MS) (dd : AH) (u2 : Option Value) : sem PGM d yS_copy (162, [some (.ref 59), some (.ref 43), u2], [], (heapOf g X N T K M dd)) =
    sem PGM d yS_copy (170, [some (.ref 59), some (.ref 43), u2], [], (heapOf g X N (sV T 3 (N.2.1 3)) K M dd)) := (ev_eq PGM d yS_copy [8, 10, 66, 118, 170, 178, 186] 400 _).trans rfl
set_option maxRecDepth 100000 in
theorem eS_copy_59_43_170 (d : Nat) (g : GT) (X : XS) (N T K : SS) (M : MS) (dd : AH) (u2 : Option Value) : sem PGM d yS_copy (170, [some (.ref 59), some (.ref 43), u2], [], (heapOf g X N T K M dd)) =
    sem PGM d yS_copy (178, [some (.ref 59), some (.ref 43), u2], [], (heapOf g X N (sV T 4 (N.2.1 4)) K M dd)) := (ev_eq PGM d yS_copy [8, 10, 66, 118, 170, 178, 186] 400 _).trans rfl
set_option maxRecDepth 100000 in
theorem eS_copy_59_43_178 (d : Nat) (g : GT) (X : XS) (N T K : SS) (M : MS) (dd : AH) (u2 : Option Value) : sem PGM d yS_copy (178, [some (.ref 59), some (.ref 43), u2], [], (heapOf g X N T K M dd)) =
    bif !(Nat.beq N.2.2 9) then sem PGM d yS_copy (186, [some (.ref 59), some (.ref 43), u2], [], (heapOf g X N (sL T N.2.2) K M dd))
    else none := (ev_eq PGM d yS_copy [8, 10, 66, 118, 170, 178, 186] 400 _).trans rfl
set_option maxRecDepth 100000 in
theorem eS_copy_59_43_186 (d : Nat) (g : GT) (X : XS) (N T K : SS) (M : MS) (dd : AH) (u2 : Option Value) : sem PGM d yS_copy (186, [some (.ref 59), some (.ref 43), u2], [], (heapOf g X N T K M dd)) =
    some (none, (heapOf g X N (sV T 5 (-9)) K M dd)) := (ev_eq PGM d yS_copy [8, 10, 66, 118, 170, 178, 186] 400 _).trans rfl
set_option maxRecDepth 100000 in
theorem eS_copy_75_43_0 (d : Nat) (g : GT) (X : XS) (N T K : SS) (M : MS) (dd : AH)  : sem PGM d yS_copy (0, [some (.ref 75), some (.ref 43), none], [], (heapOf g X N T K M dd)) =
    sem PGM d yS_copy (8, [some (.ref 75), some (.ref 43), none], [], (heapOf g X N T (sV K 0 (N.2.1 0)) M dd)) := (ev_eq PGM d yS_copy [8, 10, 66, 118, 170, 178, 186] 400 _).trans rfl
set_option maxRecDepth 100000 in
theorem eS_copy_75_43_8 (d : Nat) (g : GT) (X : XS) (N T K : SS) (M : MS) (dd : AH) (u2 : Option Value) : sem PGM d yS_copy (8, [some (.ref 75), some (.ref 43), u2], [], (heapOf g X N T K M dd)) =
    sem PGM d yS_copy (10, [some (.ref 75), some (.ref 43), some (.int 0)], [], (heapOf g X N T K M dd)) := (ev_eq PGM d yS_copy [8, 10, 66, 118, 170, 178, 186] 400 _).trans rfl
set_option maxRecDepth 100000 in
theorem eS_copy_75_43_10 (d : Nat) (g : GT) (X : XS) (N T K : SS) (M : MS) (dd : AH) (i2 : Int32) : sem PGM d yS_copy (10, [some (.ref 75), some (.ref 43), some (.int i2)], [], (heapOf g X N T K M dd)) =
    bif decide (2 < i2) then aftK (sem PGM d yS_copy) 0 (47, [some (.ref 75), some (.ref 43), some (.int i2)], [], (heapOf g X N T K M dd)) (call PGM d yS_copyRow [.ref 48, .ref 80] (heapOf g X N T K M dd))
    else bif decide (i2 = nI 0) && true && true && true then bif decide (i2 = nI 0) && true && true && true then aftK (sem PGM d yS_copy) 0 (30, [some (.ref 75), some (.ref 43), some (.int i2)], [], (heapOf g X N T K M dd)) (call PGM d yS_copyRow [.ref 45, .ref 77] (heapOf g X N T K M dd))
        else bif decide (i2 = nI 1) && true && true && true then aftK (sem PGM d yS_copy) 0 (30, [some (.ref 75), some (.ref 43), some (.int i2)], [], (heapOf g X N T K M dd)) (call PGM d yS_copyRow [.ref 45, .ref 78] (heapOf g X N T K M dd))
        else bif decide (i2 = nI 2) && true && true && true then aftK (sem PGM d yS_copy) 0 (30, [some (.ref 75), some (.ref 43), some (.int i2)], [], (heapOf g X N T K M dd)) (call PGM d yS_copyRow [.ref 45, .ref 79] (heapOf g X N T K M dd))
        else none
      else bif decide (i2 = nI 1) && true && true && true then bif decide (i2 = nI 0) && true && true && true then aftK (sem PGM d yS_copy) 0 (30, [some (.ref 75), some (.ref 43), some (.int i2)], [], (heapOf g X N T K M dd)) (call PGM d yS_copyRow [.ref 46, .ref 77] (heapOf g X N T K M dd))
        else bif decide (i2 = nI 1) && true && true && true then aftK (sem PGM d yS_copy) 0 (30, [some (.ref 75), some (.ref 43), some (.int i2)], [], (heapOf g X N T K M dd)) (call PGM d yS_copyRow [.ref 46, .ref 78] (heapOf g X N T K M dd))
        else bif decide (i2 = nI 2) && true && true && true then aftK (sem PGM d yS_copy) 0 (30, [some (.ref 75), some (.ref 43), some (.int i2)], [], (heapOf g X N T K M dd)) (call PGM d yS_copyRow [.ref 46, .ref 79] (heapOf g X N T K M dd))
        else none
      else bif decide (i2 = nI 2) && true && true && true then bif decide (i2 = nI 0) && true && true && true then aftK (sem PGM d yS_copy) 0 (30, [some (.ref 75), some (.ref 43), some (.int i2)], [], (heapOf g X N T K M dd)) (call PGM d yS_copyRow [.ref 47, .ref 77] (heapOf g X N T K M dd))
        else bif decide (i2 = nI 1) && true && true && true then aftK (sem PGM d yS_copy) 0 (30, [some (.ref 75), some (.ref 43), some (.int i2)], [], (heapOf g X N T K M dd)) (call PGM d yS_copyRow [.ref 47, .ref 78] (heapOf g X N T K M dd))
        else bif decide (i2 = nI 2) && true && true && true then aftK (sem PGM d yS_copy) 0 (30, [some (.ref 75), some (.ref 43), some (.int i2)], [], (heapOf g X N T K M dd)) (call PGM d yS_copyRow [.ref 47, .ref 79] (heapOf g X N T K M dd))
        else none
      else none := (ev_eq PGM d yS_copy [8, 10, 66, 118, 170, 178, 186] 400 _).trans rfl
set_option maxRecDepth 100000 in
theorem eS_copy_75_43_47 (d : Nat) (g : GT) (X : XS) (N T K : SS) (M : MS) (dd : AH) (u2 : Option Value) : sem PGM d yS_copy (47, [some (.ref 75), some (.ref 43), u2], [], (heapOf g X N T K M dd)) =
    aftK (sem PGM d yS_copy) 0 (58, [some (.ref 75), some (.ref 43), u2], [], (heapOf g X N T K M dd)) (call PGM d yS_copyRow [.ref 49, .ref 81] (heapOf g X N T K M dd)) := (ev_eq PGM d yS_copy [8, 10, 66, 118, 170, 178, 186] 400 _).trans rfl
set_option maxRecDepth 100000 in
theorem eS_copy_75_43_30 (d : Nat) (g : GT) (X : XS) (N T K : SS) (M : MS) (dd : AH) (i2 : Int32) : sem PGM d yS_copy (30, [some (.ref 75), some (.ref 43), some (.int i2)], [], (heapOf g X N T K M dd)) =
    sem PGM d yS_copy (10, [some (.ref 75), some (.ref 43), some (.int (i2 + 1))], [], (heapOf g X N T K M dd)) := (ev_eq PGM d yS_copy [8, 10, 66, 118, 170, 178, 186] 400 _).trans rfl
set_option maxRecDepth 100000 in
theorem eS_copy_75_43_58 (d : Nat) (g : GT) (X : XS) (N T K : SS) (M : MS) (dd : AH) (u2 : Option Value) : sem PGM d yS_copy (58, [some (.ref 75), some (.ref 43), u2], [], (heapOf g X N T K M dd)) =
    sem PGM d yS_copy (66, [some (.ref 75), some (.ref 43), u2], [], (heapOf g X N T (sV K 1 (N.2.1 1)) M dd)) := (ev_eq PGM d yS_copy [8, 10, 66, 118, 170, 178, 186] 400 _).trans rfl
set_option maxRecDepth 100000 in
theorem eS_copy_75_43_66 (d : Nat) (g : GT) (X : XS) (N T K : SS) (M : MS) (dd : AH) (u2 : Option Value) : sem PGM d yS_copy (66, [some (.ref 75), some (.ref 43), u2], [], (heapOf g X N T K M dd)) =
    aftK (sem PGM d yS_copy) 0 (77, [some (.ref 75), some (.ref 43), u2], [], (heapOf g X N T K M dd)) (call PGM d yS_copyRow [.ref 50, .ref 82] (heapOf g X N T K M dd)) := (ev_eq PGM d yS_copy [8, 10, 66, 118, 170, 178, 186] 400 _).trans rfl
set_option maxRecDepth 100000 in
theorem eS_copy_75_43_77 (d : Nat) (g : GT) (X : XS) (N T K : SS) (M : MS) (dd : AH) (u2 : Option Value) : sem PGM d yS_copy (77, [some (.ref 75), some (.ref 43), u2], [], (heapOf g X N T K M dd)) =
    aftK (sem PGM d yS_copy) 0 (88, [some (.ref 75), some (.ref 43), u2], [], (heapOf g X N T K M dd)) (call PGM d yS_copyRow [.ref 51, .ref 83] (heapOf g X N T K M dd)) := (ev_eq PGM d yS_copy [8, 10, 66, 118, 170, 178, 186] 400 _).trans rfl
set_option maxRecDepth 100000 in
theorem eS_copy_75_43_88 (d : Nat) (g : GT) (X : XS) (N T K : SS) (M : MS) (dd : AH) (u2 : Option Value) : sem PGM d yS_copy (88, [some (.ref 75), some (.ref 43), u2], [], (heapOf g X N T K M dd)) =
    aftK (sem PGM d yS_copy) 0 (99, [some (.ref 75), some (.ref 43), u2], [], (heapOf g X N T K M dd)) (call PGM d yS_copyRow [.ref 52, .ref 84] (heapOf g X N T K M dd)) := (ev_eq PGM d yS_copy [8, 10, 66, 118, 170, 178, 186] 400 _).trans rfl
set_option maxRecDepth 100000 in
theorem eS_copy_75_43_99 (d : Nat) (g : GT) (X : XS) (N T K : SS) (M : MS) (dd : AH) (u2 : Option Value) : sem PGM d yS_copy (99, [some (.ref 75), some (.ref 43), u2], [], (heapOf g X N T K M dd)) =
    aftK (sem PGM d yS_copy) 0 (110, [some (.ref 75), some (.ref 43), u2], [], (heapOf g X N T K M dd)) (call PGM d yS_copyRow [.ref 53, .ref 85] (heapOf g X N T K M dd)) := (ev_eq PGM d yS_copy [8, 10, 66, 118, 170, 178, 186] 400 _).trans rfl
set_option maxRecDepth 100000 in
theorem eS_copy_75_43_110 (d : Nat) (g : GT) (X : XS) (N T K : SS) (M : MS) (dd : AH) (u2 : Option Value) : sem PGM d yS_copy (110, [some (.ref 75), some (.ref 43), u2], [], (heapOf g X N T K M dd)) =
    sem PGM d yS_copy (118, [some (.ref 75), some (.ref 43), u2], [], (heapOf g X N T (sV K 2 (N.2.1 2)) M dd)) := (ev_eq PGM d yS_copy [8, 10, 66, 118, 170, 178, 186] 400 _).trans rfl
set_option maxRecDepth 100000 in
theorem eS_copy_75_43_118 (d : Nat) (g : GT) (X : XS) (N T K : SS) (M : MS) (dd : AH) (u2 : Option Value) : sem PGM d yS_copy (118, [some (.ref 75), some (.ref 43), u2], [], (heapOf g X N T K M dd)) =
    aftK (sem PGM d yS_copy) 0 (129, [some (.ref 75), some (.ref 43), u2], [], (heapOf g X N T K M dd)) (call PGM d yS_copyRow [.ref 54, .ref 86] (heapOf g X N T K M dd)) := (ev_eq PGM d yS_copy [8, 10, 66, 118, 170, 178, 186] 400 _).trans rfl
set_option maxRecDepth 100000 in
theorem eS_copy_75_43_129 (d : Nat) (g : GT) (X : XS) (N T K : SS) (M : MS) (dd : AH) (u2 : Option Value) : sem PGM d yS_copy (129, [some (.ref 75), some (.ref 43), u2], [], (heapOf g X N T K M dd)) =
    aftK (sem PGM d yS_copy) 0 (140, [some (.ref 75), some (.ref 43), u2], [], (heapOf g X N T K M dd)) (call PGM d yS_copyRow [.ref 55, .ref 87] (heapOf g X N T K M dd)) := (ev_eq PGM d yS_copy [8, 10, 66, 118, 170, 178, 186] 400 _).trans rfl
set_option maxRecDepth 100000 in
theorem eS_copy_75_43_140 (d : Nat) (g : GT) (X : XS) (N T K : SS) (M : MS) (dd : AH) (u2 : Option Value) : sem PGM d yS_copy (140, [some (.ref 75), some (.ref 43), u2], [], (heapOf g X N T K M dd)) =
    aftK (sem PGM d yS_copy) 0 (151, [some (.ref 75), some (.ref 43), u2], [], (heapOf g X N T K M dd)) (call PGM d yS_copyRow [.ref 56, .ref 88] (heapOf g X N T K M dd)) := (ev_eq PGM d yS_copy [8, 10, 66, 118, 170, 178, 186] 400 _).trans rfl
set_option maxRecDepth 100000 in
theorem eS_copy_75_43_151 (d : Nat) (g : GT) (X : XS) (N T K : SS) (M : MS) (dd : AH) (u2 : Option Value) : sem PGM d yS_copy (151, [some (.ref 75), some (.ref 43), u2], [], (heapOf g X N T K M dd)) =
    aftK (sem PGM d yS_copy) 0 (162, [some (.ref 75), some (.ref 43), u2], [], (heapOf g X N T K M dd)) (call PGM d yS_copyRow [.ref 57, .ref 89] (heapOf g X N T K M dd)) := (ev_eq PGM d yS_copy [8, 10, 66, 118, 170, 178, 186] 400 _).trans rfl
set_option maxRecDepth 100000 in
theorem eS_copy_75_43_162 (d : Nat) (g : GT) (X : XS) (N T K : SS) (M : MS) (dd : AH) (u2 : Option Value) : sem PGM d yS_copy (162, [some (.ref 75), some (.ref 43), u2], [], (heapOf g X N T K M dd)) =
    sem PGM d yS_copy (170, [some (.ref 75), some (.ref 43), u2], [], (heapOf g X N T (sV K 3 (N.2.1 3)) M dd)) := (ev_eq PGM d yS_copy [8, 10, 66, 118, 170, 178, 186] 400 _).trans rfl
set_option maxRecDepth 100000 in
theorem eS_copy_75_43_170 (d : Nat) (g : GT) (X : XS) (N T K : SS) (M : MS) (dd : AH) (u2 : Option Value) : sem PGM d yS_copy (170, [some (.ref 75), some (.ref 43), u2], [], (heapOf g X N T K M dd)) =
    sem PGM d yS_copy (178, [some (.ref 75), some (.ref 43), u2], [], (heapOf g X N T (sV K 4 (N.2.1 4)) M dd)) := (ev_eq PGM d yS_copy [8, 10, 66, 118, 170, 178, 186] 400 _).trans rfl
set_option maxRecDepth 100000 in
theorem eS_copy_75_43_178 (d : Nat) (g : GT) (X : XS) (N T K : SS) (M : MS) (dd : AH) (u2 : Option Value) : sem PGM d yS_copy (178, [some (.ref 75), some (.ref 43), u2], [], (heapOf g X N T K M dd)) =
    bif !(Nat.beq N.2.2 9) then sem PGM d yS_copy (186, [some (.ref 75), some (.ref 43), u2], [], (heapOf g X N T (sL K N.2.2) M dd))
    else none := (ev_eq PGM d yS_copy [8, 10, 66, 118, 170, 178, 186] 400 _).trans rfl
set_option maxRecDepth 100000 in
theorem eS_copy_75_43_186 (d : Nat) (g : GT) (X : XS) (N T K : SS) (M : MS) (dd : AH) (u2 : Option Value) : sem PGM d yS_copy (186, [some (.ref 75), some (.ref 43), u2], [], (heapOf g X N T K M dd)) =
    some (none, (heapOf g X N T (sV K 5 (-9)) M dd)) := (ev_eq PGM d yS_copy [8, 10, 66, 118, 170, 178, 186] 400 _).trans rfl
set_option maxRecDepth 100000 in
theorem eS_copy_43_75_0 (d : Nat) (g : GT) (X : XS) (N T K : SS) (M : MS) (dd : AH)  : sem PGM d yS_copy (0, [some (.ref 43), some (.ref 75), none], [], (heapOf g X N T K M dd)) =
    sem PGM d yS_copy (8, [some (.ref 43), some (.ref 75), none], [], (heapOf g X (sV N 0 (K.2.1 0)) T K M dd)) := (ev_eq PGM d yS_copy [8, 10, 66, 118, 170, 178, 186] 400 _).trans rfl
set_option maxRecDepth 100000 in
theorem eS_copy_43_75_8 (d : Nat) (g : GT) (X : XS) (N T K : SS) (M : MS) (dd : AH) (u2 : Option Value) : sem PGM d yS_copy (8, [some (.ref 43), some (.ref 75), u2], [], (heapOf g X N T K M dd)) =
    sem PGM d yS_copy (10, [some (.ref 43), some (.ref 75), some (.int 0)], [], (heapOf g X N T K M dd)) := (ev_eq PGM d yS_copy [8, 10, 66, 118, 170, 178, 186] 400 _).trans rfl
set_option maxRecDepth 100000 in
theorem eS_copy_43_75_10 (d : Nat) (g : GT) (X : XS) (N T K : SS) (M : MS) (dd : AH) (i2 : Int32) : sem PGM d yS_copy (10, [some (.ref 43), some (.ref 75), some (.int i2)], [], (heapOf g X N T K M dd)) =
    bif decide (2 < i2) then aftK (sem PGM d yS_copy) 0 (47, [some (.ref 43), some (.ref 75), some (.int i2)], [], (heapOf g X N T K M dd)) (call PGM d yS_copyRow [.ref 80, .ref 48] (heapOf g X N T K M dd))
    else bif decide (i2 = nI 0) && true && true && true then bif decide (i2 = nI 0) && true && true && true then aftK (sem PGM d yS_copy) 0 (30, [some (.ref 43), some (.ref 75), some (.int i2)], [], (heapOf g X N T K M dd)) (call PGM d yS_copyRow [.ref 77, .ref 45] (heapOf g X N T K M dd))
        else bif decide (i2 = nI 1) && true && true && true then aftK (sem PGM d yS_copy) 0 (30, [some (.ref 43), some (.ref 75), some (.int i2)], [], (heapOf g X N T K M dd)) (call PGM d yS_copyRow [.ref 77, .ref 46] (heapOf g X N T K M dd))
        else bif decide (i2 = nI 2) && true && true && true then aftK (sem PGM d yS_copy) 0 (30, [some (.ref 43), some (.ref 75), some (.int i2)], [], (heapOf g X N T K M dd)) (call PGM d yS_copyRow [.ref 77, .ref 47] (heapOf g X N T K M dd))
        else none
      else bif decide (i2 = nI 1) && true && true && true then bif decide (i2 = nI 0) && true && true && true then aftK (sem PGM d yS_copy) 0 (30, [some (.ref 43), some (.ref 75), some (.int i2)], [], (heapOf g X N T K M dd)) (call PGM d yS_copyRow [.ref 78, .ref 45] (heapOf g X N T K M dd))
        else bif decide (i2 = nI 1) && true && true && true then aftK (sem PGM d yS_copy) 0 (30, [some (.ref 43), some (.ref 75), some (.int i2)], [], (heapOf g X N T K M dd)) (call PGM d yS_copyRow [.ref 78, .ref 46] (heapOf g X N T K M dd))
        else bif decide (i2 = nI 2) && true && true && true then aftK (sem PGM d yS_copy) 0 (30, [some (.ref 43), some (.ref 75), some (.int i2)], [], (heapOf g X N T K M dd)) (call PGM d yS_copyRow [.ref 78, .ref 47] (heapOf g X N T K M dd))
        else none
      else bif decide (i2 = nI 2) && true && true && true then bif decide (i2 = nI 0) && true && true && true then aftK (sem PGM d yS_copy) 0 (30, [some (.ref 43), some (.ref 75), some (.int i2)], [], (heapOf g X N T K M dd)) (call PGM d yS_copyRow [.ref 79, .ref 45] (heapOf g X N T K M dd))
        else bif decide (i2 = nI 1) && true && true && true then aftK (sem PGM d yS_copy) 0 (30, [some (.ref 43), some (.ref 75), some (.int i2)], [], (heapOf g X N T K M dd)) (call PGM d yS_copyRow [.ref 79, .ref 46] (heapOf g X N T K M dd))
        else bif decide (i2 = nI 2) && true && true && true then aftK (sem PGM d yS_copy) 0 (30, [some (.ref 43), some (.ref 75), some (.int i2)], [], (heapOf g X N T K M dd)) (call PGM d yS_copyRow [.ref 79, .ref 47] (heapOf g X N T K M dd))
        else none
      else none := (ev_eq PGM d yS_copy [8, 10, 66, 118, 170, 178, 186] 400 _).trans rfl
set_option maxRecDepth 100000 in
theorem eS_copy_43_75_47 (d : Nat) (g : GT) (X : XS) (N T K : SS) (M : MS) (dd : AH) (u2 : Option Value) : sem PGM d yS_copy (47, [some (.ref 43), some (.ref 75), u2], [], (heapOf g X N T K M dd)) =
    aftK (sem PGM d yS_copy) 0 (58, [some (.ref 43), some (.ref 75), u2], [], (heapOf g X N T K M dd)) (call PGM d yS_copyRow [.ref 81, .ref 49] (heapOf g X N T K M dd)) := (ev_eq PGM d yS_copy [8, 10, 66, 118, 170, 178, 186] 400 _).trans rfl
set_option maxRecDepth 100000 in
theorem eS_copy_43_75_30 (d : Nat) (g : GT) (X : XS) (N T K : SS) (M : MS) (dd : AH) (i2 : Int32) : sem PGM d yS_copy (30, [some (.ref 43), some (.ref 75), some (.int i2)], [], (heapOf g X N T K M dd)) =
    sem PGM d yS_copy (10, [some (.ref 43), some (.ref 75), some (.int (i2 + 1))], [], (heapOf g X N T K M dd)) := (ev_eq PGM d yS_copy [8, 10, 66, 118, 170, 178, 186] 400 _).trans rfl
set_option maxRecDepth 100000 in
theorem eS_copy_43_75_58 (d : Nat) (g : GT) (X : XS) (N T K : SS) (M : MS) (dd : AH) (u2 : Option Value) : sem PGM d yS_copy (58, [some (.ref 43), some (.ref 75), u2], [], (heapOf g X N T K M dd)) =
    sem PGM d yS_copy (66, [some (.ref 43), some (.ref 75), u2], [], (heapOf g X (sV N 1 (K.2.1 1)) T K M dd)) := (ev_eq PGM d yS_copy [8, 10, 66, 118, 170, 178, 186] 400 _).trans rfl
set_option maxRecDepth 100000 in
theorem eS_copy_43_75_66 (d : Nat) (g : GT) (X : XS) (N T K : SS) (M : MS) (dd : AH) (u2 : Option Value) : sem PGM d yS_copy (66, [some (.ref 43), some (.ref 75), u2], [], (heapOf g X N T K M dd)) =
    aftK (sem PGM d yS_copy) 0 (77, [some (.ref 43), some (.ref 75), u2], [], (heapOf g X N T K M dd)) (call PGM d yS_copyRow [.ref 82, .ref 50] (heapOf g X N T K M dd)) := (ev_eq PGM d yS_copy [8, 10, 66, 118, 170, 178, 186] 400 _).trans rfl
set_option maxRecDepth 100000 in
theorem eS_copy_43_75_77 (d : Nat) (g : GT) (X : XS) (N T K : SS) (M : MS) (dd : AH) (u2 : Option Value) : sem PGM d yS_copy (77, [some (.ref 43), some (.ref 75), u2], [], (heapOf g X N T K M dd)) =
    aftK (sem PGM d yS_copy) 0 (88, [some (.ref 43), some (.ref 75), u2], [], (heapOf g X N T K M dd)) (call PGM d yS_copyRow [.ref 83, .ref 51] (heapOf g X N T K M dd)) := (ev_eq PGM d yS_copy [8, 10, 66, 118, 170, 178, 186] 400 _).trans rfl
set_option maxRecDepth 100000 in
theorem eS_copy_43_75_88 (d : Nat) (g : GT) (X : XS) (N T K : SS) (M : MS) (dd : AH) (u2 : Option Value) : sem PGM d yS_copy (88, [some (.ref 43), some (.ref 75), u2], [], (heapOf g X N T K M dd)) =
    aftK (sem PGM d yS_copy) 0 (99, [some (.ref 43), some (.ref 75), u2], [], (heapOf g X N T K M dd)) (call PGM d yS_copyRow [.ref 84, .ref 52] (heapOf g X N T K M dd)) := (ev_eq PGM d yS_copy [8, 10, 66, 118, 170, 178, 186] 400 _).trans rfl
set_option maxRecDepth 100000 in
theorem eS_copy_43_75_99 (d : Nat) (g : GT) (X : XS) (N T K : SS) (M : MS) (dd : AH) (u2 : Option Value) : sem PGM d yS_copy (99, [some (.ref 43), some (.ref 75), u2], [], (heapOf g X N T K M dd)) =
    aftK (sem PGM d yS_copy) 0 (110, [some (.ref 43), some (.ref 75), u2], [], (heapOf g X N T K M dd)) (call PGM d yS_copyRow [.ref 85, .ref 53] (heapOf g X N T K M dd)) := (ev_eq PGM d yS_copy [8, 10, 66, 118, 170, 178, 186] 400 _).trans rfl
set_option maxRecDepth 100000 in
theorem eS_copy_43_75_110 (d : Nat) (g : GT) (X : XS) (N T K : SS) (M : MS) (dd : AH) (u2 : Option Value) : sem PGM d yS_copy (110, [some (.ref 43), some (.ref 75), u2], [], (heapOf g X N T K M dd)) =
    sem PGM d yS_copy (118, [some (.ref 43), some (.ref 75), u2], [], (heapOf g X (sV N 2 (K.2.1 2)) T K M dd)) := (ev_eq PGM d yS_copy [8, 10, 66, 118, 170, 178, 186] 400 _).trans rfl
set_option maxRecDepth 100000 in
theorem eS_copy_43_75_118 (d : Nat) (g : GT) (X : XS) (N T K : SS) (M : MS) (dd : AH) (u2 : Option Value) : sem PGM d yS_copy (118, [some (.ref 43), some (.ref 75), u2], [], (heapOf g X N T K M dd)) =
    aftK (sem PGM d yS_copy) 0 (129, [some (.ref 43), some (.ref 75), u2], [], (heapOf g X N T K M dd)) (call PGM d yS_copyRow [.ref 86, .ref 54] (heapOf g X N T K M dd)) := (ev_eq PGM d yS_copy [8, 10, 66, 118, 170, 178, 186] 400 _).trans rfl
set_option maxRecDepth 100000 in
theorem eS_copy_43_75_129 (d : Nat) (g : GT) (X : XS) (N T K : SS) (M : MS) (dd : AH) (u2 : Option Value) : sem PGM d yS_copy (129, [some (.ref 43), some (.ref 75), u2], [], (heapOf g X N T K M dd)) =
    aftK (sem PGM d yS_copy) 0 (140, [some (.ref 43), some (.ref 75), u2], [], (heapOf g X N T K M dd)) (call PGM d yS_copyRow [.ref 87, .ref 55] (heapOf g X N T K M dd)) := (ev_eq PGM d yS_copy [8, 10, 66, 118, 170, 178, 186] 400 _).trans rfl
set_option maxRecDepth 100000 in
theorem eS_copy_43_75_140 (d : Nat) (g : GT) (X : XS) (N T K : SS) (M : MS) (dd : AH) (u2 : Option Value) : sem PGM d yS_copy (140, [some (.ref 43), some (.ref 75), u2], [], (heapOf g X N T K M dd)) =
    aftK (sem PGM d yS_copy) 0 (151, [some (.ref 43), some (.ref 75), u2], [], (heapOf g X N T K M dd)) (call PGM d yS_copyRow [.ref 88, .ref 56] (heapOf g X N T K M dd)) := (ev_eq PGM d yS_copy [8, 10, 66, 118, 170, 178, 186] 400 _).trans rfl
set_option maxRecDepth 100000 in
theorem eS_copy_43_75_151 (d : Nat) (g : GT) (X : XS) (N T K : SS) (M : MS) (dd : AH) (u2 : Option Value) : sem PGM d yS_copy (151, [some (.ref 43), some (.ref 75), u2], [], (heapOf g X N T K M dd)) =
    aftK (sem PGM d yS_copy) 0 (162, [some (.ref 43), some (.ref 75), u2], [], (heapOf g X N T K M dd)) (call PGM d yS_copyRow [.ref 89, .ref 57] (heapOf g X N T K M dd)) := (ev_eq PGM d yS_copy [8, 10, 66, 118, 170, 178, 186] 400 _).trans rfl
set_option maxRecDepth 100000 in
theorem eS_copy_43_75_162 (d : Nat) (g : GT) (X : XS) (N T K : SS) (M : MS) (dd : AH) (u2 : Option Value) : sem PGM d yS_copy (162, [some (.ref 43), some (.ref 75), u2], [], (heapOf g X N T K M dd)) =
    sem PGM d yS_copy (170, [some (.ref 43), some (.ref 75), u2], [], (heapOf g X (sV N 3 (K.2.1 3)) T K M dd)) := (ev_eq PGM d yS_copy [8, 10, 66, 118, 170, 178, 186] 400 _).trans rfl
set_option maxRecDepth 100000 in
theorem eS_copy_43_75_170 (d : Nat) (g : GT) (X : XS) (N T K : SS) (M : MS) (dd : AH) (u2 : Option Value) : sem PGM d yS_copy (170, [some (.ref 43), some (.ref 75), u2], [], (heapOf g X N T K M dd)) =
    sem PGM d yS_copy (178, [some (.ref 43), some (.ref 75), u2], [], (heapOf g X (sV N 4 (K.2.1 4)) T K M dd)) := (ev_eq PGM d yS_copy [8, 10, 66, 118, 170, 178, 186] 400 _).trans rfl
set_option maxRecDepth 100000 in
theorem eS_copy_43_75_178 (d : Nat) (g : GT) (X : XS) (N T K : SS) (M : MS) (dd : AH) (u2 : Option Value) : sem PGM d yS_copy (178, [some (.ref 43), some (.ref 75), u2], [], (heapOf g X N T K M dd)) =
    bif !(Nat.beq K.2.2 9) then sem PGM d yS_copy (186, [some (.ref 43), some (.ref 75), u2], [], (heapOf g X (sL N K.2.2) T K M dd))
    else none := (ev_eq PGM d yS_copy [8, 10, 66, 118, 170, 178, 186] 400 _).trans rfl
set_option maxRecDepth 100000 in
theorem eS_copy_43_75_186 (d : Nat) (g : GT) (X : XS) (N T K : SS) (M : MS) (dd : AH) (u2 : Option Value) : sem PGM d yS_copy (186, [some (.ref 43), some (.ref 75), u2], [], (heapOf g X N T K M dd)) =
    some (none, (heapOf g X (sV N 5 (-9)) T K M dd)) := (ev_eq PGM d yS_copy [8, 10, 66, 118, 170, 178, 186] 400 _).trans rfl
