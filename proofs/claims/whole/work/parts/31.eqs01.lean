/-! Equations of blocks, by wip/whole/gen/alleq.py. -/
set_option maxRecDepth 100000 in
theorem eS_tenthn_0 (d : Nat) (o : Nat) (ho : o = 43 ∨ o = 59) (S : SS) (Z : RT) (i1 : Int32) : sem PGM d yS_tenth (0, [some (.ref o), some (.int i1), some (.null), none, none, none], [], (hS o S Z)) =
    sem PGM d yS_tenth (10, [some (.ref o), some (.int i1), some (.null), none, none, none], [], (hS o (sV S 3 ((S.2.1 3) + 1)) Z)) := by rcases ho with rfl | rfl <;> exact (ev_eq PGM d yS_tenth [10, 12, 63, 100] 400 _).trans rfl
set_option maxRecDepth 100000 in
theorem eS_tenthn_10 (d : Nat) (o : Nat) (ho : o = 43 ∨ o = 59) (S : SS) (Z : RT) (i1 : Int32) (u5 : Option Value) : sem PGM d yS_tenth (10, [some (.ref o), some (.int i1), some (.null), none, none, u5], [], (hS o S Z)) =
    sem PGM d yS_tenth (12, [some (.ref o), some (.int i1), some (.null), some (.int 0), none, u5], [], (hS o S Z)) := by rcases ho with rfl | rfl <;> exact (ev_eq PGM d yS_tenth [10, 12, 63, 100] 400 _).trans rfl
set_option maxRecDepth 100000 in
theorem eS_tenthn_12 (d : Nat) (o : Nat) (ho : o = 43 ∨ o = 59) (S : SS) (Z : RT) (i1 : Int32) (i3 : Int32) (u5 : Option Value) : sem PGM d yS_tenth (12, [some (.ref o), some (.int i1), some (.null), some (.int i3), none, u5], [], (hS o S Z)) =
    bif decide ((S.2.1 2) ≤ i3) then sem PGM d yS_tenth (63, [some (.ref o), some (.int i1), some (.null), some (.int 0), none, u5], [], (hS o S Z))
    else bif inb i3 6 then bif decide (0 ≤ ((S.1 9) (i3).toNatClampNeg)) then bif inb i3 6 then bif !decide (((S.1 11) (i3).toNatClampNeg) = 1) then aftK (sem PGM d yS_tenth) 0 (55, [some (.ref o), some (.int i1), some (.null), some (.int i3), none, u5], [], (hS o S Z)) (call PGM d yS_gallop [.ref o, .int i3] (hS o S Z))
            else aftK (sem PGM d yS_tenth) 0 (47, [some (.ref o), some (.int i1), some (.null), some (.int i3), none, u5], [], (hS o S Z)) (call PGM d yS_hunt [.ref o, .int i3] (hS o S Z))
          else none
        else sem PGM d yS_tenth (12, [some (.ref o), some (.int i1), some (.null), some (.int (i3 + 1)), none, u5], [], (hS o S Z))
      else none := by rcases ho with rfl | rfl <;> exact (ev_eq PGM d yS_tenth [10, 12, 63, 100] 400 _).trans rfl
set_option maxRecDepth 100000 in
theorem eS_tenthn_63 (d : Nat) (o : Nat) (ho : o = 43 ∨ o = 59) (S : SS) (Z : RT) (i1 : Int32) (i3 : Int32) (u5 : Option Value) : sem PGM d yS_tenth (63, [some (.ref o), some (.int i1), some (.null), some (.int i3), none, u5], [], (hS o S Z)) =
    bif decide ((S.2.1 1) ≤ i3) then sem PGM d yS_tenth (100, [some (.ref o), some (.int i1), some (.null), some (.int 0), some (.int 0), u5], [], (hS o S Z))
    else aftK (sem PGM d yS_tenth) 1 (76, [some (.ref o), some (.int i1), some (.null), some (.int i3), none, u5], [], (hS o S Z)) (call PGM d yS_isOut [.ref o, .int i3] (hS o S Z)) := by rcases ho with rfl | rfl <;> exact (ev_eq PGM d yS_tenth [10, 12, 63, 100] 400 _).trans rfl
set_option maxRecDepth 100000 in
theorem eS_tenthn_55 (d : Nat) (o : Nat) (ho : o = 43 ∨ o = 59) (S : SS) (Z : RT) (i1 : Int32) (i3 : Int32) (u5 : Option Value) : sem PGM d yS_tenth (55, [some (.ref o), some (.int i1), some (.null), some (.int i3), none, u5], [], (hS o S Z)) =
    sem PGM d yS_tenth (12, [some (.ref o), some (.int i1), some (.null), some (.int (i3 + 1)), none, u5], [], (hS o S Z)) := by rcases ho with rfl | rfl <;> exact (ev_eq PGM d yS_tenth [10, 12, 63, 100] 400 _).trans rfl
set_option maxRecDepth 100000 in
theorem eS_tenthn_47 (d : Nat) (o : Nat) (ho : o = 43 ∨ o = 59) (S : SS) (Z : RT) (i1 : Int32) (i3 : Int32) (u5 : Option Value) : sem PGM d yS_tenth (47, [some (.ref o), some (.int i1), some (.null), some (.int i3), none, u5], [], (hS o S Z)) =
    sem PGM d yS_tenth (12, [some (.ref o), some (.int i1), some (.null), some (.int (i3 + 1)), none, u5], [], (hS o S Z)) := by rcases ho with rfl | rfl <;> exact (ev_eq PGM d yS_tenth [10, 12, 63, 100] 400 _).trans rfl
set_option maxRecDepth 100000 in
theorem eS_tenthn_100 (d : Nat) (o : Nat) (ho : o = 43 ∨ o = 59) (S : SS) (Z : RT) (i1 : Int32) (i3 : Int32) (i4 : Int32) (u5 : Option Value) : sem PGM d yS_tenth (100, [some (.ref o), some (.int i1), some (.null), some (.int i3), some (.int i4), u5], [], (hS o S Z)) =
    bif decide ((S.2.1 1) ≤ i4) then aftK (sem PGM d yS_tenth) 0 (168, [some (.ref o), some (.int i1), some (.null), some (.int i3), some (.int i4), u5], [], (hS o S Z)) (call PGM d yS_heapUp [.ref o] (hS o S Z))
    else aftK (sem PGM d yS_tenth) 1 (115, [some (.ref o), some (.int i1), some (.null), some (.int i3), some (.int i4), u5], [], (hS o S Z)) (call PGM d yS_isOut [.ref o, .int i4] (hS o S Z)) := by rcases ho with rfl | rfl <;> exact (ev_eq PGM d yS_tenth [10, 12, 63, 100] 400 _).trans rfl
set_option maxRecDepth 100000 in
theorem eS_tenthn_76 (d : Nat) (o : Nat) (ho : o = 43 ∨ o = 59) (S : SS) (Z : RT) (i1 : Int32) (i3 : Int32) (u5 : Option Value) (k0 : Int32) : sem PGM d yS_tenth (76, [some (.ref o), some (.int i1), some (.null), some (.int i3), none, u5], [.int k0], (hS o S Z)) =
    bif !decide (k0 = 0) then sem PGM d yS_tenth (63, [some (.ref o), some (.int i1), some (.null), some (.int (i3 + 1)), none, u5], [], (hS o S Z))
    else aftK (sem PGM d yS_tenth) 1 (86, [some (.ref o), some (.int i1), some (.null), some (.int i3), none, u5], [.int i3, .ref o], (hS o S Z)) (call PGM d yS_clauseFor [.ref o, .int i3] (hS o S Z)) := by rcases ho with rfl | rfl <;> exact (ev_eq PGM d yS_tenth [10, 12, 63, 100] 400 _).trans rfl
set_option maxRecDepth 100000 in
theorem eS_tenthn_168 (d : Nat) (o : Nat) (ho : o = 43 ∨ o = 59) (S : SS) (Z : RT) (u0 : Option Value) (u1 : Option Value) (i3 : Int32) (i4 : Int32) (u5 : Option Value) : sem PGM d yS_tenth (168, [u0, u1, some (.null), some (.int i3), some (.int i4), u5], [], (hS o S Z)) =
    some (some (.int i3), (hS o S Z)) := by rcases ho with rfl | rfl <;> exact (ev_eq PGM d yS_tenth [10, 12, 63, 100] 400 _).trans rfl
set_option maxRecDepth 100000 in
theorem eS_tenthn_115 (d : Nat) (o : Nat) (ho : o = 43 ∨ o = 59) (S : SS) (Z : RT) (i1 : Int32) (i3 : Int32) (i4 : Int32) (u5 : Option Value) (k0 : Int32) : sem PGM d yS_tenth (115, [some (.ref o), some (.int i1), some (.null), some (.int i3), some (.int i4), u5], [.int k0], (hS o S Z)) =
    bif decide (k0 = 0) then aftK (sem PGM d yS_tenth) 1 (128, [some (.ref o), some (.int i1), some (.null), some (.int i3), some (.int i4), u5], [], (hS o S Z)) (call PGM d yS_sufferedBy [.ref o, .int i4] (hS o S Z))
    else sem PGM d yS_tenth (100, [some (.ref o), some (.int i1), some (.null), some (.int (i3 + 0)), some (.int (i4 + 1)), some (.int 0)], [], (hS o S Z)) := by rcases ho with rfl | rfl <;> exact (ev_eq PGM d yS_tenth [10, 12, 63, 100] 400 _).trans rfl
set_option maxRecDepth 100000 in
theorem eS_tenthn_86 (d : Nat) (o : Nat) (ho : o = 43 ∨ o = 59) (S : SS) (Z : RT) (i1 : Int32) (i3 : Int32) (u5 : Option Value) (k1 : Int32) (k2 : Int32) : sem PGM d yS_tenth (86, [some (.ref o), some (.int i1), some (.null), some (.int i3), none, u5], [.int k2, .int k1, .ref o], (hS o S Z)) =
    aftK (sem PGM d yS_tenth) 0 (89, [some (.ref o), some (.int i1), some (.null), some (.int i3), none, u5], [], (hS o S Z)) (call PGM d yS_takeTurn [.ref o, .int k1, .int k2] (hS o S Z)) := by rcases ho with rfl | rfl <;> exact (ev_eq PGM d yS_tenth [10, 12, 63, 100] 400 _).trans rfl
set_option maxRecDepth 100000 in
theorem eS_tenthn_128 (d : Nat) (o : Nat) (ho : o = 43 ∨ o = 59) (S : SS) (Z : RT) (i1 : Int32) (i3 : Int32) (i4 : Int32) (u5 : Option Value) (k0 : Int32) : sem PGM d yS_tenth (128, [some (.ref o), some (.int i1), some (.null), some (.int i3), some (.int i4), u5], [.int k0], (hS o S Z)) =
    bif decide (k0 ≤ 0) then sem PGM d yS_tenth (100, [some (.ref o), some (.int i1), some (.null), some (.int (i3 + k0)), some (.int (i4 + 1)), some (.int k0)], [], (hS o S Z))
    else sem PGM d yS_tenth (100, [some (.ref o), some (.int i1), some (.null), some (.int (i3 + k0)), some (.int (i4 + 1)), some (.int k0)], [], (hS o S Z)) := by rcases ho with rfl | rfl <;> exact (ev_eq PGM d yS_tenth [10, 12, 63, 100] 400 _).trans rfl
set_option maxRecDepth 100000 in
theorem eS_tenthn_89 (d : Nat) (o : Nat) (ho : o = 43 ∨ o = 59) (S : SS) (Z : RT) (i1 : Int32) (i3 : Int32) (u5 : Option Value) : sem PGM d yS_tenth (89, [some (.ref o), some (.int i1), some (.null), some (.int i3), none, u5], [], (hS o S Z)) =
    sem PGM d yS_tenth (63, [some (.ref o), some (.int i1), some (.null), some (.int (i3 + 1)), none, u5], [], (hS o S Z)) := by rcases ho with rfl | rfl <;> exact (ev_eq PGM d yS_tenth [10, 12, 63, 100] 400 _).trans rfl
set_option maxRecDepth 100000 in
theorem eS_tenthl_0 (d : Nat) (o : Nat) (ho : o = 43 ∨ o = 59) (S : SS) (Z : RT) (i1 : Int32) (r2 : Nat) : sem PGM d yS_tenth (0, [some (.ref o), some (.int i1), some (.ref r2), none, none, none], [], (hS o S Z)) =
    sem PGM d yS_tenth (10, [some (.ref o), some (.int i1), some (.ref r2), none, none, none], [], (hS o (sV S 3 ((S.2.1 3) + 1)) Z)) := by rcases ho with rfl | rfl <;> exact (ev_eq PGM d yS_tenth [10, 12, 63, 100] 400 _).trans rfl
set_option maxRecDepth 100000 in
theorem eS_tenthl_10 (d : Nat) (o : Nat) (ho : o = 43 ∨ o = 59) (S : SS) (Z : RT) (i1 : Int32) (r2 : Nat) (u5 : Option Value) : sem PGM d yS_tenth (10, [some (.ref o), some (.int i1), some (.ref r2), none, none, u5], [], (hS o S Z)) =
    sem PGM d yS_tenth (12, [some (.ref o), some (.int i1), some (.ref r2), some (.int 0), none, u5], [], (hS o S Z)) := by rcases ho with rfl | rfl <;> exact (ev_eq PGM d yS_tenth [10, 12, 63, 100] 400 _).trans rfl
set_option maxRecDepth 100000 in
theorem eS_tenthl_12 (d : Nat) (o : Nat) (ho : o = 43 ∨ o = 59) (S : SS) (Z : RT) (i1 : Int32) (r2 : Nat) (i3 : Int32) (u5 : Option Value) : sem PGM d yS_tenth (12, [some (.ref o), some (.int i1), some (.ref r2), some (.int i3), none, u5], [], (hS o S Z)) =
    bif decide ((S.2.1 2) ≤ i3) then sem PGM d yS_tenth (63, [some (.ref o), some (.int i1), some (.ref r2), some (.int 0), none, u5], [], (hS o S Z))
    else bif inb i3 6 then bif decide (0 ≤ ((S.1 9) (i3).toNatClampNeg)) then bif inb i3 6 then bif !decide (((S.1 11) (i3).toNatClampNeg) = 1) then aftK (sem PGM d yS_tenth) 0 (55, [some (.ref o), some (.int i1), some (.ref r2), some (.int i3), none, u5], [], (hS o S Z)) (call PGM d yS_gallop [.ref o, .int i3] (hS o S Z))
            else aftK (sem PGM d yS_tenth) 0 (47, [some (.ref o), some (.int i1), some (.ref r2), some (.int i3), none, u5], [], (hS o S Z)) (call PGM d yS_hunt [.ref o, .int i3] (hS o S Z))
          else none
        else sem PGM d yS_tenth (12, [some (.ref o), some (.int i1), some (.ref r2), some (.int (i3 + 1)), none, u5], [], (hS o S Z))
      else none := by rcases ho with rfl | rfl <;> exact (ev_eq PGM d yS_tenth [10, 12, 63, 100] 400 _).trans rfl
set_option maxRecDepth 100000 in
theorem eS_tenthl_63 (d : Nat) (o : Nat) (ho : o = 43 ∨ o = 59) (S : SS) (Z : RT) (i1 : Int32) (r2 : Nat) (i3 : Int32) (u5 : Option Value) : sem PGM d yS_tenth (63, [some (.ref o), some (.int i1), some (.ref r2), some (.int i3), none, u5], [], (hS o S Z)) =
    bif decide ((S.2.1 1) ≤ i3) then sem PGM d yS_tenth (100, [some (.ref o), some (.int i1), some (.ref r2), some (.int 0), some (.int 0), u5], [], (hS o S Z))
    else aftK (sem PGM d yS_tenth) 1 (76, [some (.ref o), some (.int i1), some (.ref r2), some (.int i3), none, u5], [], (hS o S Z)) (call PGM d yS_isOut [.ref o, .int i3] (hS o S Z)) := by rcases ho with rfl | rfl <;> exact (ev_eq PGM d yS_tenth [10, 12, 63, 100] 400 _).trans rfl
set_option maxRecDepth 100000 in
theorem eS_tenthl_55 (d : Nat) (o : Nat) (ho : o = 43 ∨ o = 59) (S : SS) (Z : RT) (i1 : Int32) (r2 : Nat) (i3 : Int32) (u5 : Option Value) : sem PGM d yS_tenth (55, [some (.ref o), some (.int i1), some (.ref r2), some (.int i3), none, u5], [], (hS o S Z)) =
    sem PGM d yS_tenth (12, [some (.ref o), some (.int i1), some (.ref r2), some (.int (i3 + 1)), none, u5], [], (hS o S Z)) := by rcases ho with rfl | rfl <;> exact (ev_eq PGM d yS_tenth [10, 12, 63, 100] 400 _).trans rfl
set_option maxRecDepth 100000 in
theorem eS_tenthl_47 (d : Nat) (o : Nat) (ho : o = 43 ∨ o = 59) (S : SS) (Z : RT) (i1 : Int32) (r2 : Nat) (i3 : Int32) (u5 : Option Value) : sem PGM d yS_tenth (47, [some (.ref o), some (.int i1), some (.ref r2), some (.int i3), none, u5], [], (hS o S Z)) =
    sem PGM d yS_tenth (12, [some (.ref o), some (.int i1), some (.ref r2), some (.int (i3 + 1)), none, u5], [], (hS o S Z)) := by rcases ho with rfl | rfl <;> exact (ev_eq PGM d yS_tenth [10, 12, 63, 100] 400 _).trans rfl
set_option maxRecDepth 100000 in
theorem eS_tenthl_100 (d : Nat) (o : Nat) (ho : o = 43 ∨ o = 59) (S : SS) (Z : RT) (i1 : Int32) (r2 : Nat) (i3 : Int32) (i4 : Int32) (u5 : Option Value) : sem PGM d yS_tenth (100, [some (.ref o), some (.int i1), some (.ref r2), some (.int i3), some (.int i4), u5], [], (hS o S Z)) =
    bif decide ((S.2.1 1) ≤ i4) then aftK (sem PGM d yS_tenth) 0 (168, [some (.ref o), some (.int i1), some (.ref r2), some (.int i3), some (.int i4), u5], [], (hS o S Z)) (call PGM d yS_heapUp [.ref o] (hS o S Z))
    else aftK (sem PGM d yS_tenth) 1 (115, [some (.ref o), some (.int i1), some (.ref r2), some (.int i3), some (.int i4), u5], [], (hS o S Z)) (call PGM d yS_isOut [.ref o, .int i4] (hS o S Z)) := by rcases ho with rfl | rfl <;> exact (ev_eq PGM d yS_tenth [10, 12, 63, 100] 400 _).trans rfl
set_option maxRecDepth 100000 in
theorem eS_tenthl_76 (d : Nat) (o : Nat) (ho : o = 43 ∨ o = 59) (S : SS) (Z : RT) (i1 : Int32) (r2 : Nat) (i3 : Int32) (u5 : Option Value) (k0 : Int32) : sem PGM d yS_tenth (76, [some (.ref o), some (.int i1), some (.ref r2), some (.int i3), none, u5], [.int k0], (hS o S Z)) =
    bif !decide (k0 = 0) then sem PGM d yS_tenth (63, [some (.ref o), some (.int i1), some (.ref r2), some (.int (i3 + 1)), none, u5], [], (hS o S Z))
    else aftK (sem PGM d yS_tenth) 1 (86, [some (.ref o), some (.int i1), some (.ref r2), some (.int i3), none, u5], [.int i3, .ref o], (hS o S Z)) (call PGM d yS_clauseFor [.ref o, .int i3] (hS o S Z)) := by rcases ho with rfl | rfl <;> exact (ev_eq PGM d yS_tenth [10, 12, 63, 100] 400 _).trans rfl
set_option maxRecDepth 100000 in
theorem eS_tenthl_168 (d : Nat) (o : Nat) (ho : o = 43 ∨ o = 59) (S : SS) (Z : RT) (u0 : Option Value) (u1 : Option Value) (r2 : Nat) (i3 : Int32) (i4 : Int32) (u5 : Option Value) : sem PGM d yS_tenth (168, [u0, u1, some (.ref r2), some (.int i3), some (.int i4), u5], [], (hS o S Z)) =
    some (some (.int i3), (hS o S Z)) := by rcases ho with rfl | rfl <;> exact (ev_eq PGM d yS_tenth [10, 12, 63, 100] 400 _).trans rfl
set_option maxRecDepth 100000 in
theorem eS_tenthl_115 (d : Nat) (o : Nat) (ho : o = 43 ∨ o = 59) (S : SS) (Z : RT) (i1 : Int32) (r2 : Nat) (i3 : Int32) (i4 : Int32) (u5 : Option Value) (k0 : Int32) : sem PGM d yS_tenth (115, [some (.ref o), some (.int i1), some (.ref r2), some (.int i3), some (.int i4), u5], [.int k0], (hS o S Z)) =
    bif decide (k0 = 0) then aftK (sem PGM d yS_tenth) 1 (128, [some (.ref o), some (.int i1), some (.ref r2), some (.int i3), some (.int i4), u5], [], (hS o S Z)) (call PGM d yS_sufferedBy [.ref o, .int i4] (hS o S Z))
    else sem PGM d yS_tenth (100, [some (.ref o), some (.int i1), some (.ref r2), some (.int (i3 + 0)), some (.int (i4 + 1)), some (.int 0)], [], (hS o S Z)) := by rcases ho with rfl | rfl <;> exact (ev_eq PGM d yS_tenth [10, 12, 63, 100] 400 _).trans rfl
set_option maxRecDepth 100000 in
theorem eS_tenthl_86 (d : Nat) (o : Nat) (ho : o = 43 ∨ o = 59) (S : SS) (Z : RT) (i1 : Int32) (r2 : Nat) (i3 : Int32) (u5 : Option Value) (k1 : Int32) (k2 : Int32) : sem PGM d yS_tenth (86, [some (.ref o), some (.int i1), some (.ref r2), some (.int i3), none, u5], [.int k2, .int k1, .ref o], (hS o S Z)) =
    aftK (sem PGM d yS_tenth) 0 (89, [some (.ref o), some (.int i1), some (.ref r2), some (.int i3), none, u5], [], (hS o S Z)) (call PGM d yS_takeTurn [.ref o, .int k1, .int k2] (hS o S Z)) := by rcases ho with rfl | rfl <;> exact (ev_eq PGM d yS_tenth [10, 12, 63, 100] 400 _).trans rfl
set_option maxRecDepth 100000 in
theorem eS_tenthl_128 (d : Nat) (o : Nat) (ho : o = 43 ∨ o = 59) (S : SS) (Z : RT) (i1 : Int32) (r2 : Nat) (i3 : Int32) (i4 : Int32) (u5 : Option Value) (k0 : Int32) : sem PGM d yS_tenth (128, [some (.ref o), some (.int i1), some (.ref r2), some (.int i3), some (.int i4), u5], [.int k0], (hS o S Z)) =
    bif decide (k0 ≤ 0) then sem PGM d yS_tenth (100, [some (.ref o), some (.int i1), some (.ref r2), some (.int (i3 + k0)), some (.int (i4 + 1)), some (.int k0)], [], (hS o S Z))
    else bif !(Nat.beq r2 9) then bif inb i4 20 then bif okC (hS o S Z) r2 3 && true then aftK (sem PGM d yS_tenth) 0 (153, [some (.ref o), some (.int i1), some (.ref r2), some (.int i3), some (.int i4), some (.int k0)], [], (hS o S Z)) (call PGM d yW_add [.ref r2, .int i1, .int i4, .int ((S.1 6) (i4).toNatClampNeg)] (hS o S Z))
          else none
        else none
      else none := by rcases ho with rfl | rfl <;> exact (ev_eq PGM d yS_tenth [10, 12, 63, 100] 400 _).trans rfl
set_option maxRecDepth 100000 in
theorem eS_tenthl_89 (d : Nat) (o : Nat) (ho : o = 43 ∨ o = 59) (S : SS) (Z : RT) (i1 : Int32) (r2 : Nat) (i3 : Int32) (u5 : Option Value) : sem PGM d yS_tenth (89, [some (.ref o), some (.int i1), some (.ref r2), some (.int i3), none, u5], [], (hS o S Z)) =
    sem PGM d yS_tenth (63, [some (.ref o), some (.int i1), some (.ref r2), some (.int (i3 + 1)), none, u5], [], (hS o S Z)) := by rcases ho with rfl | rfl <;> exact (ev_eq PGM d yS_tenth [10, 12, 63, 100] 400 _).trans rfl
set_option maxRecDepth 100000 in
theorem eS_tenthl_153 (d : Nat) (o : Nat) (ho : o = 43 ∨ o = 59) (S : SS) (Z : RT) (i1 : Int32) (r2 : Nat) (i3 : Int32) (i4 : Int32) (i5 : Int32) : sem PGM d yS_tenth (153, [some (.ref o), some (.int i1), some (.ref r2), some (.int i3), some (.int i4), some (.int i5)], [], (hS o S Z)) =
    sem PGM d yS_tenth (100, [some (.ref o), some (.int i1), some (.ref r2), some (.int (i3 + i5)), some (.int (i4 + 1)), some (.int i5)], [], (hS o S Z)) := by rcases ho with rfl | rfl <;> exact (ev_eq PGM d yS_tenth [10, 12, 63, 100] 400 _).trans rfl
set_option maxRecDepth 100000 in
theorem eS_hunt_0 (d : Nat) (o : Nat) (ho : o = 43 ∨ o = 59) (S : SS) (Z : RT) (i1 : Int32) : sem PGM d yS_hunt (0, [some (.ref o), some (.int i1), none, none], [], (hS o S Z)) =
    bif inb i1 6 then aftK (sem PGM d yS_hunt) 1 (12, [some (.ref o), some (.int i1), some (.int ((S.1 9) (i1).toNatClampNeg)), none], [], (hS o S Z)) (call PGM d yS_crowdIn [.ref o, .int ((S.1 9) (i1).toNatClampNeg)] (hS o S Z))
    else none := by rcases ho with rfl | rfl <;> exact (ev_eq PGM d yS_hunt [18] 400 _).trans rfl
set_option maxRecDepth 100000 in
theorem eS_hunt_12 (d : Nat) (o : Nat) (ho : o = 43 ∨ o = 59) (S : SS) (Z : RT) (i1 : Int32) (i2 : Int32) (u3 : Option Value) (k0 : Int32) : sem PGM d yS_hunt (12, [some (.ref o), some (.int i1), some (.int i2), u3], [.int k0], (hS o S Z)) =
    bif decide (k0 ≤ 0) then sem PGM d yS_hunt (18, [some (.ref o), some (.int i1), some (.int i2), some (.int 1)], [], (hS o S Z))
    else some (none, (hS o S Z)) := by rcases ho with rfl | rfl <;> exact (ev_eq PGM d yS_hunt [18] 400 _).trans rfl
set_option maxRecDepth 100000 in
theorem eS_hunt_18 (d : Nat) (o : Nat) (ho : o = 43 ∨ o = 59) (S : SS) (Z : RT) (i1 : Int32) (i2 : Int32) (i3 : Int32) : sem PGM d yS_hunt (18, [some (.ref o), some (.int i1), some (.int i2), some (.int i3)], [], (hS o S Z)) =
    bif decide (((S.1 12) 0) < i3) then some (none, (hS o S Z))
    else aftK (sem PGM d yS_hunt) 1 (35, [some (.ref o), some (.int i1), some (.int i2), some (.int i3)], [], (hS o S Z)) (call PGM d yS_crowdIn [.ref o, .int (i2 + i3)] (hS o S Z)) := by rcases ho with rfl | rfl <;> exact (ev_eq PGM d yS_hunt [18] 400 _).trans rfl
set_option maxRecDepth 100000 in
theorem eS_hunt_35 (d : Nat) (o : Nat) (ho : o = 43 ∨ o = 59) (S : SS) (Z : RT) (i1 : Int32) (i2 : Int32) (i3 : Int32) (k0 : Int32) : sem PGM d yS_hunt (35, [some (.ref o), some (.int i1), some (.int i2), some (.int i3)], [.int k0], (hS o S Z)) =
    bif decide (k0 ≤ 0) then aftK (sem PGM d yS_hunt) 1 (55, [some (.ref o), some (.int i1), some (.int i2), some (.int i3)], [], (hS o S Z)) (call PGM d yS_crowdIn [.ref o, .int (i2 - i3)] (hS o S Z))
    else bif inb i1 6 then some (none, (hS o (sA S 9 (upd (S.1 9) (i1).toNatClampNeg (i2 + 1))) Z))
      else none := by rcases ho with rfl | rfl <;> exact (ev_eq PGM d yS_hunt [18] 400 _).trans rfl
set_option maxRecDepth 100000 in
theorem eS_hunt_55 (d : Nat) (o : Nat) (ho : o = 43 ∨ o = 59) (S : SS) (Z : RT) (i1 : Int32) (i2 : Int32) (i3 : Int32) (k0 : Int32) : sem PGM d yS_hunt (55, [some (.ref o), some (.int i1), some (.int i2), some (.int i3)], [.int k0], (hS o S Z)) =
    bif decide (k0 ≤ 0) then sem PGM d yS_hunt (18, [some (.ref o), some (.int i1), some (.int i2), some (.int (i3 + 1))], [], (hS o S Z))
    else bif inb i1 6 then some (none, (hS o (sA S 9 (upd (S.1 9) (i1).toNatClampNeg (i2 - 1))) Z))
      else none := by rcases ho with rfl | rfl <;> exact (ev_eq PGM d yS_hunt [18] 400 _).trans rfl
set_option maxRecDepth 100000 in
theorem eS_gallop_0 (d : Nat) (o : Nat) (ho : o = 43 ∨ o = 59) (S : SS) (Z : RT) (i1 : Int32) : sem PGM d yS_gallop (0, [some (.ref o), some (.int i1), none, none], [], (hS o S Z)) =
    sem PGM d yS_gallop (2, [some (.ref o), some (.int i1), some (.int 0), none], [], (hS o S Z)) := by rcases ho with rfl | rfl <;> exact (ev_eq PGM d yS_gallop [2, 45] 400 _).trans rfl
set_option maxRecDepth 100000 in
theorem eS_gallop_2 (d : Nat) (o : Nat) (ho : o = 43 ∨ o = 59) (S : SS) (Z : RT) (i1 : Int32) (i2 : Int32) (u3 : Option Value) : sem PGM d yS_gallop (2, [some (.ref o), some (.int i1), some (.int i2), u3], [], (hS o S Z)) =
    bif inb i1 6 then bif decide (((S.1 10) (i1).toNatClampNeg) ≤ i2) then some (none, (hS o S Z))
      else bif inb i1 6 then aftK (sem PGM d yS_gallop) 1 (26, [some (.ref o), some (.int i1), some (.int i2), some (.int (((S.1 9) (i1).toNatClampNeg) + 1))], [], (hS o S Z)) (call PGM d yS_hasCell [.ref o, .int (((S.1 9) (i1).toNatClampNeg) + 1)] (hS o S Z))
        else none
    else none := by rcases ho with rfl | rfl <;> exact (ev_eq PGM d yS_gallop [2, 45] 400 _).trans rfl
set_option maxRecDepth 100000 in
theorem eS_gallop_26 (d : Nat) (o : Nat) (ho : o = 43 ∨ o = 59) (S : SS) (Z : RT) (i1 : Int32) (i2 : Int32) (i3 : Int32) (k0 : Int32) : sem PGM d yS_gallop (26, [some (.ref o), some (.int i1), some (.int i2), some (.int i3)], [.int k0], (hS o S Z)) =
    bif !decide (k0 = 0) then bif inb i1 6 then sem PGM d yS_gallop (45, [some (.ref o), some (.int i1), some (.int i2), some (.int i3)], [], (hS o (sA S 9 (upd (S.1 9) (i1).toNatClampNeg i3)) Z))
      else none
    else bif inb i1 6 then some (none, (hS o (sA S 9 (upd (S.1 9) (i1).toNatClampNeg (-9))) Z))
      else none := by rcases ho with rfl | rfl <;> exact (ev_eq PGM d yS_gallop [2, 45] 400 _).trans rfl
set_option maxRecDepth 100000 in
theorem eS_gallop_45 (d : Nat) (o : Nat) (ho : o = 43 ∨ o = 59) (S : SS) (Z : RT) (i1 : Int32) (i2 : Int32) (i3 : Int32) : sem PGM d yS_gallop (45, [some (.ref o), some (.int i1), some (.int i2), some (.int i3)], [], (hS o S Z)) =
    bif inb i3 30 then aftK (sem PGM d yS_gallop) 1 (57, [some (.ref o), some (.int i1), some (.int i2), some (.int i3)], [], (hS o S Z)) (call PGM d yS_slips [.ref o, .int ((S.1 1) (i3).toNatClampNeg)] (hS o S Z))
    else none := by rcases ho with rfl | rfl <;> exact (ev_eq PGM d yS_gallop [2, 45] 400 _).trans rfl
set_option maxRecDepth 100000 in
theorem eS_gallop_57 (d : Nat) (o : Nat) (ho : o = 43 ∨ o = 59) (S : SS) (Z : RT) (i1 : Int32) (i2 : Int32) (u3 : Option Value) (k0 : Int32) : sem PGM d yS_gallop (57, [some (.ref o), some (.int i1), some (.int i2), u3], [.int k0], (hS o S Z)) =
    bif decide (k0 = 0) then sem PGM d yS_gallop (2, [some (.ref o), some (.int i1), some (.int (i2 + 1)), u3], [], (hS o S Z))
    else bif inb i1 6 then some (none, (hS o (sA S 11 (upd (S.1 11) (i1).toNatClampNeg 1)) Z))
      else none := by rcases ho with rfl | rfl <;> exact (ev_eq PGM d yS_gallop [2, 45] 400 _).trans rfl
set_option maxRecDepth 100000 in
theorem eS_slips_0 (d : Nat) (o : Nat) (ho : o = 43 ∨ o = 59) (S : SS) (Z : RT) (i1 : Int32) : sem PGM d yS_slips (0, [some (.ref o), some (.int i1)], [], (hS o S Z)) =
    bif decide (0 < i1) then sem PGM d yS_slips (21, [some (.ref o), some (.int i1)], [], (hS o (sV S 4 (((S.2.1 4) * 1103515245) + 12345)) Z))
    else some (some (.int 0), (hS o S Z)) := by rcases ho with rfl | rfl <;> exact (ev_eq PGM d yS_slips [21] 400 _).trans rfl
set_option maxRecDepth 100000 in
theorem eS_slips_21 (d : Nat) (o : Nat) (ho : o = 43 ∨ o = 59) (S : SS) (Z : RT) (i1 : Int32) : sem PGM d yS_slips (21, [some (.ref o), some (.int i1)], [], (hS o S Z)) =
    bif decide (i1 ≤ (((((S.2.1 4)).toUInt32 >>> (((16 : Int32)).toUInt32 &&& Int32.toUInt32 31)).toInt32) - ((((S.2.1 4)).toUInt32 >>> (((16 : Int32)).toUInt32 &&& Int32.toUInt32 31)).toInt32) / 8 * 8)) then some (some (.int 0), (hS o S Z))
    else some (some (.int 1), (hS o S Z)) := by rcases ho with rfl | rfl <;> exact (ev_eq PGM d yS_slips [21] 400 _).trans rfl
set_option maxRecDepth 100000 in
theorem eS_takeTurn_0 (d : Nat) (o : Nat) (ho : o = 43 ∨ o = 59) (S : SS) (Z : RT) (i1 : Int32) (i2 : Int32) : sem PGM d yS_takeTurn (0, [some (.ref o), some (.int i1), some (.int i2), none, none], [], (hS o S Z)) =
    bif inb i1 20 then aftK (sem PGM d yS_takeTurn) 1 (10, [some (.ref o), some (.int i1), some (.int i2), none, none], [], (hS o S Z)) (call PGM d yB_isA [.int ((S.1 5) (i1).toNatClampNeg), .int 1] (hS o S Z))
    else none := by rcases ho with rfl | rfl <;> exact (ev_eq PGM d yS_takeTurn [] 400 _).trans rfl
set_option maxRecDepth 100000 in
theorem eS_takeTurn_10 (d : Nat) (o : Nat) (ho : o = 43 ∨ o = 59) (S : SS) (Z : RT) (i1 : Int32) (i2 : Int32) (u4 : Option Value) (k0 : Int32) : sem PGM d yS_takeTurn (10, [some (.ref o), some (.int i1), some (.int i2), none, u4], [.int k0], (hS o S Z)) =
    bif decide (k0 = 0) then bif decide (i2 < 0) then bif inb i1 20 then aftK (sem PGM d yS_takeTurn) 1 (54, [some (.ref o), some (.int i1), some (.int i2), some (.int 1), u4], [], (hS o S Z)) (call PGM d yS_hasCell [.ref o, .int ((S.1 6) (i1).toNatClampNeg)] (hS o S Z))
        else none
      else bif okI (hS o S Z) S.2.2 1 0 then bif decide ((gI (hS o S Z) S.2.2 0) ≤ i2) then bif inb i1 20 then aftK (sem PGM d yS_takeTurn) 1 (54, [some (.ref o), some (.int i1), some (.int i2), some (.int 1), u4], [], (hS o S Z)) (call PGM d yS_hasCell [.ref o, .int ((S.1 6) (i1).toNatClampNeg)] (hS o S Z))
            else none
          else bif okN (hS o S Z) S.2.2 1 2 then none
            else bif okR (hS o S Z) S.2.2 1 2 then bif inA (hS o S Z) (gR (hS o S Z) S.2.2 2) 0 i2 then bif inb i1 20 then aftK (sem PGM d yS_takeTurn) 1 (54, [some (.ref o), some (.int i1), some (.int i2), some (.int (rA (hS o S Z) (gR (hS o S Z) S.2.2 2) i2)), u4], [], (hS o S Z)) (call PGM d yS_hasCell [.ref o, .int ((S.1 6) (i1).toNatClampNeg)] (hS o S Z))
                else none
              else none
            else none
        else none
    else bif decide (i2 < 0) then bif inb i1 20 then aftK (sem PGM d yS_takeTurn) 1 (54, [some (.ref o), some (.int i1), some (.int i2), some (.int 0), u4], [], (hS o S Z)) (call PGM d yS_hasCell [.ref o, .int ((S.1 6) (i1).toNatClampNeg)] (hS o S Z))
        else none
      else bif okI (hS o S Z) S.2.2 1 0 then bif decide ((gI (hS o S Z) S.2.2 0) ≤ i2) then bif inb i1 20 then aftK (sem PGM d yS_takeTurn) 1 (54, [some (.ref o), some (.int i1), some (.int i2), some (.int 0), u4], [], (hS o S Z)) (call PGM d yS_hasCell [.ref o, .int ((S.1 6) (i1).toNatClampNeg)] (hS o S Z))
            else none
          else bif okN (hS o S Z) S.2.2 1 2 then none
            else bif okR (hS o S Z) S.2.2 1 2 then bif inA (hS o S Z) (gR (hS o S Z) S.2.2 2) 0 i2 then bif inb i1 20 then aftK (sem PGM d yS_takeTurn) 1 (54, [some (.ref o), some (.int i1), some (.int i2), some (.int (rA (hS o S Z) (gR (hS o S Z) S.2.2 2) i2)), u4], [], (hS o S Z)) (call PGM d yS_hasCell [.ref o, .int ((S.1 6) (i1).toNatClampNeg)] (hS o S Z))
                else none
              else none
            else none
        else none := by rcases ho with rfl | rfl <;> exact (ev_eq PGM d yS_takeTurn [] 400 _).trans rfl
set_option maxRecDepth 100000 in
theorem eS_takeTurn_54 (d : Nat) (o : Nat) (ho : o = 43 ∨ o = 59) (S : SS) (Z : RT) (i1 : Int32) (i2 : Int32) (i3 : Int32) (u4 : Option Value) (k0 : Int32) : sem PGM d yS_takeTurn (54, [some (.ref o), some (.int i1), some (.int i2), some (.int i3), u4], [.int k0], (hS o S Z)) =
    bif decide (k0 = 0) then bif !decide (i3 = 2) then bif decide (i3 = 0) then bif inb i1 20 then aftK (sem PGM d yS_takeTurn) 1 (120, [some (.ref o), some (.int i1), some (.int i2), some (.int i3), some (.int 0)], [], (hS o S Z)) (call PGM d yB_isA [.int ((S.1 5) (i1).toNatClampNeg), .int 3] (hS o S Z))
          else none
        else bif !decide (i3 = 2) then bif !decide (i3 = 3) then some (none, (hS o S Z))
            else bif inb i1 20 then aftK (sem PGM d yS_takeTurn) 1 (154, [some (.ref o), some (.int i1), some (.int i2), some (.int i3), some (.int 0)], [], (hS o S Z)) (call PGM d yB_isA [.int ((S.1 5) (i1).toNatClampNeg), .int 3] (hS o S Z))
              else none
          else bif inb i1 20 then aftK (sem PGM d yS_takeTurn) 1 (120, [some (.ref o), some (.int i1), some (.int i2), some (.int i3), some (.int 0)], [], (hS o S Z)) (call PGM d yB_isA [.int ((S.1 5) (i1).toNatClampNeg), .int 3] (hS o S Z))
            else none
      else bif decide (i3 = 0) then bif inb i1 20 then aftK (sem PGM d yS_takeTurn) 1 (120, [some (.ref o), some (.int i1), some (.int i2), some (.int i3), some (.int 0)], [], (hS o S Z)) (call PGM d yB_isA [.int ((S.1 5) (i1).toNatClampNeg), .int 3] (hS o S Z))
          else none
        else bif !decide (i3 = 2) then bif !decide (i3 = 3) then some (none, (hS o S Z))
            else bif inb i1 20 then aftK (sem PGM d yS_takeTurn) 1 (154, [some (.ref o), some (.int i1), some (.int i2), some (.int i3), some (.int 0)], [], (hS o S Z)) (call PGM d yB_isA [.int ((S.1 5) (i1).toNatClampNeg), .int 3] (hS o S Z))
              else none
          else bif inb i1 20 then aftK (sem PGM d yS_takeTurn) 1 (120, [some (.ref o), some (.int i1), some (.int i2), some (.int i3), some (.int 0)], [], (hS o S Z)) (call PGM d yB_isA [.int ((S.1 5) (i1).toNatClampNeg), .int 3] (hS o S Z))
            else none
    else bif inb i1 20 then bif inb ((S.1 6) (i1).toNatClampNeg) 30 then bif !decide (((S.1 2) (((S.1 6) (i1).toNatClampNeg)).toNatClampNeg) = 1) then bif !decide (i3 = 2) then bif decide (i3 = 0) then bif inb i1 20 then aftK (sem PGM d yS_takeTurn) 1 (120, [some (.ref o), some (.int i1), some (.int i2), some (.int i3), some (.int 0)], [], (hS o S Z)) (call PGM d yB_isA [.int ((S.1 5) (i1).toNatClampNeg), .int 3] (hS o S Z))
                else none
              else bif !decide (i3 = 2) then bif !decide (i3 = 3) then some (none, (hS o S Z))
                  else bif inb i1 20 then aftK (sem PGM d yS_takeTurn) 1 (154, [some (.ref o), some (.int i1), some (.int i2), some (.int i3), some (.int 0)], [], (hS o S Z)) (call PGM d yB_isA [.int ((S.1 5) (i1).toNatClampNeg), .int 3] (hS o S Z))
                    else none
                else bif inb i1 20 then aftK (sem PGM d yS_takeTurn) 1 (120, [some (.ref o), some (.int i1), some (.int i2), some (.int i3), some (.int 0)], [], (hS o S Z)) (call PGM d yB_isA [.int ((S.1 5) (i1).toNatClampNeg), .int 3] (hS o S Z))
                  else none
            else bif decide (i3 = 0) then bif inb i1 20 then aftK (sem PGM d yS_takeTurn) 1 (120, [some (.ref o), some (.int i1), some (.int i2), some (.int i3), some (.int 0)], [], (hS o S Z)) (call PGM d yB_isA [.int ((S.1 5) (i1).toNatClampNeg), .int 3] (hS o S Z))
                else none
              else bif !decide (i3 = 2) then bif !decide (i3 = 3) then some (none, (hS o S Z))
                  else bif inb i1 20 then aftK (sem PGM d yS_takeTurn) 1 (154, [some (.ref o), some (.int i1), some (.int i2), some (.int i3), some (.int 0)], [], (hS o S Z)) (call PGM d yB_isA [.int ((S.1 5) (i1).toNatClampNeg), .int 3] (hS o S Z))
                    else none
                else bif inb i1 20 then aftK (sem PGM d yS_takeTurn) 1 (120, [some (.ref o), some (.int i1), some (.int i2), some (.int i3), some (.int 0)], [], (hS o S Z)) (call PGM d yB_isA [.int ((S.1 5) (i1).toNatClampNeg), .int 3] (hS o S Z))
                  else none
          else bif !decide (i3 = 2) then bif decide (i3 = 0) then bif inb i1 20 then aftK (sem PGM d yS_takeTurn) 1 (120, [some (.ref o), some (.int i1), some (.int i2), some (.int i3), some (.int 1)], [], (hS o S Z)) (call PGM d yB_isA [.int ((S.1 5) (i1).toNatClampNeg), .int 3] (hS o S Z))
                else none
              else bif !decide (i3 = 2) then bif !decide (i3 = 3) then some (none, (hS o S Z))
                  else bif inb i1 20 then aftK (sem PGM d yS_takeTurn) 1 (154, [some (.ref o), some (.int i1), some (.int i2), some (.int i3), some (.int 1)], [], (hS o S Z)) (call PGM d yB_isA [.int ((S.1 5) (i1).toNatClampNeg), .int 3] (hS o S Z))
                    else none
                else bif inb i1 20 then aftK (sem PGM d yS_takeTurn) 1 (120, [some (.ref o), some (.int i1), some (.int i2), some (.int i3), some (.int 1)], [], (hS o S Z)) (call PGM d yB_isA [.int ((S.1 5) (i1).toNatClampNeg), .int 3] (hS o S Z))
                  else none
            else aftK (sem PGM d yS_takeTurn) 0 (98, [some (.ref o), some (.int i1), some (.int i2), some (.int i3), some (.int 1)], [], (hS o S Z)) (call PGM d yS_seat [.ref o, .int i1, .int (-9)] (hS o S Z))
        else none
      else none := by rcases ho with rfl | rfl <;> exact (ev_eq PGM d yS_takeTurn [] 400 _).trans rfl
set_option maxRecDepth 100000 in
theorem eS_takeTurn_120 (d : Nat) (o : Nat) (ho : o = 43 ∨ o = 59) (S : SS) (Z : RT) (i1 : Int32) (i2 : Int32) (i3 : Int32) (u4 : Option Value) (k0 : Int32) : sem PGM d yS_takeTurn (120, [some (.ref o), some (.int i1), some (.int i2), some (.int i3), u4], [.int k0], (hS o S Z)) =
    bif decide (k0 = 0) then aftK (sem PGM d yS_takeTurn) 0 (136, [some (.ref o), some (.int i1), some (.int i2), some (.int i3), u4], [], (hS o S Z)) (call PGM d yS_goAhead [.ref o, .int i1] (hS o S Z))
    else aftK (sem PGM d yS_takeTurn) 0 (128, [some (.ref o), some (.int i1), some (.int i2), some (.int i3), u4], [], (hS o S Z)) (call PGM d yS_rise [.ref o, .int i1] (hS o S Z)) := by rcases ho with rfl | rfl <;> exact (ev_eq PGM d yS_takeTurn [] 400 _).trans rfl
set_option maxRecDepth 100000 in
theorem eS_takeTurn_154 (d : Nat) (o : Nat) (ho : o = 43 ∨ o = 59) (S : SS) (Z : RT) (i1 : Int32) (i2 : Int32) (i3 : Int32) (u4 : Option Value) (k0 : Int32) : sem PGM d yS_takeTurn (154, [some (.ref o), some (.int i1), some (.int i2), some (.int i3), u4], [.int k0], (hS o S Z)) =
    bif !decide (k0 = 0) then some (none, (hS o S Z))
    else aftK (sem PGM d yS_takeTurn) 0 (163, [some (.ref o), some (.int i1), some (.int i2), some (.int i3), u4], [], (hS o S Z)) (call PGM d yS_become [.ref o, .int i1, .int 3] (hS o S Z)) := by rcases ho with rfl | rfl <;> exact (ev_eq PGM d yS_takeTurn [] 400 _).trans rfl
set_option maxRecDepth 100000 in
theorem eS_takeTurn_98 (d : Nat) (o : Nat) (ho : o = 43 ∨ o = 59) (S : SS) (Z : RT) (u0 : Option Value) (u1 : Option Value) (i2 : Int32) (i3 : Int32) (u4 : Option Value) : sem PGM d yS_takeTurn (98, [u0, u1, some (.int i2), some (.int i3), u4], [], (hS o S Z)) =
    some (none, (hS o S Z)) := by rcases ho with rfl | rfl <;> exact (ev_eq PGM d yS_takeTurn [] 400 _).trans rfl
set_option maxRecDepth 100000 in
theorem eS_takeTurn_136 (d : Nat) (o : Nat) (ho : o = 43 ∨ o = 59) (S : SS) (Z : RT) (u0 : Option Value) (u1 : Option Value) (i2 : Int32) (i3 : Int32) (u4 : Option Value) : sem PGM d yS_takeTurn (136, [u0, u1, some (.int i2), some (.int i3), u4], [], (hS o S Z)) =
    some (none, (hS o S Z)) := by rcases ho with rfl | rfl <;> exact (ev_eq PGM d yS_takeTurn [] 400 _).trans rfl
set_option maxRecDepth 100000 in
theorem eS_takeTurn_128 (d : Nat) (o : Nat) (ho : o = 43 ∨ o = 59) (S : SS) (Z : RT) (u0 : Option Value) (u1 : Option Value) (i2 : Int32) (i3 : Int32) (u4 : Option Value) : sem PGM d yS_takeTurn (128, [u0, u1, some (.int i2), some (.int i3), u4], [], (hS o S Z)) =
    some (none, (hS o S Z)) := by rcases ho with rfl | rfl <;> exact (ev_eq PGM d yS_takeTurn [] 400 _).trans rfl
set_option maxRecDepth 100000 in
theorem eS_takeTurn_163 (d : Nat) (o : Nat) (ho : o = 43 ∨ o = 59) (S : SS) (Z : RT) (u0 : Option Value) (u1 : Option Value) (i2 : Int32) (i3 : Int32) (u4 : Option Value) : sem PGM d yS_takeTurn (163, [u0, u1, some (.int i2), some (.int i3), u4], [], (hS o S Z)) =
    some (none, (hS o S Z)) := by rcases ho with rfl | rfl <;> exact (ev_eq PGM d yS_takeTurn [] 400 _).trans rfl
set_option maxRecDepth 100000 in
theorem eS_rise_0 (d : Nat) (o : Nat) (ho : o = 43 ∨ o = 59) (S : SS) (Z : RT) (i1 : Int32) : sem PGM d yS_rise (0, [some (.ref o), some (.int i1), none], [], (hS o S Z)) =
    bif inb i1 20 then bif !decide (((S.1 5) (i1).toNatClampNeg) = 6) then aftK (sem PGM d yS_rise) 1 (59, [some (.ref o), some (.int i1), some (.int 0)], [], (hS o S Z)) (call PGM d yS_nearOf [.ref o, .int i1] (hS o S Z))
      else bif inb i1 20 then aftK (sem PGM d yS_rise) 1 (21, [some (.ref o), some (.int i1), none], [], (hS o S Z)) (call PGM d yS_hasCell [.ref o, .int ((S.1 6) (i1).toNatClampNeg)] (hS o S Z))
        else none
    else none := by rcases ho with rfl | rfl <;> exact (ev_eq PGM d yS_rise [] 400 _).trans rfl
set_option maxRecDepth 100000 in
theorem eS_rise_59 (d : Nat) (o : Nat) (ho : o = 43 ∨ o = 59) (S : SS) (Z : RT) (i1 : Int32) (u2 : Option Value) (k0 : Int32) : sem PGM d yS_rise (59, [some (.ref o), some (.int i1), u2], [.int k0], (hS o S Z)) =
    bif decide (k0 ≤ ((S.1 12) 1)) then some (none, (hS o S Z))
    else aftK (sem PGM d yS_rise) 0 (74, [some (.ref o), some (.int i1), u2], [], (hS o S Z)) (call PGM d yS_become [.ref o, .int i1, .int 1] (hS o S Z)) := by rcases ho with rfl | rfl <;> exact (ev_eq PGM d yS_rise [] 400 _).trans rfl
set_option maxRecDepth 100000 in
theorem eS_rise_21 (d : Nat) (o : Nat) (ho : o = 43 ∨ o = 59) (S : SS) (Z : RT) (i1 : Int32) (u2 : Option Value) (k0 : Int32) : sem PGM d yS_rise (21, [some (.ref o), some (.int i1), u2], [.int k0], (hS o S Z)) =
    bif decide (k0 = 0) then aftK (sem PGM d yS_rise) 1 (59, [some (.ref o), some (.int i1), some (.int 0)], [], (hS o S Z)) (call PGM d yS_nearOf [.ref o, .int i1] (hS o S Z))
    else bif inb i1 20 then bif inb ((S.1 6) (i1).toNatClampNeg) 30 then bif decide (((S.1 4) (((S.1 6) (i1).toNatClampNeg)).toNatClampNeg) < ((S.1 12) 2)) then aftK (sem PGM d yS_rise) 1 (59, [some (.ref o), some (.int i1), some (.int 0)], [], (hS o S Z)) (call PGM d yS_nearOf [.ref o, .int i1] (hS o S Z))
          else some (none, (hS o S Z))
        else none
      else none := by rcases ho with rfl | rfl <;> exact (ev_eq PGM d yS_rise [] 400 _).trans rfl
set_option maxRecDepth 100000 in
theorem eS_rise_74 (d : Nat) (o : Nat) (ho : o = 43 ∨ o = 59) (S : SS) (Z : RT) (u0 : Option Value) (i1 : Int32) (u2 : Option Value) : sem PGM d yS_rise (74, [u0, some (.int i1), u2], [], (hS o S Z)) =
    some (none, (hS o S Z)) := by rcases ho with rfl | rfl <;> exact (ev_eq PGM d yS_rise [] 400 _).trans rfl
set_option maxRecDepth 100000 in
theorem eS_goAhead_0 (d : Nat) (o : Nat) (ho : o = 43 ∨ o = 59) (S : SS) (Z : RT) (i1 : Int32) : sem PGM d yS_goAhead (0, [some (.ref o), some (.int i1), none, none, none], [], (hS o S Z)) =
    bif inb i1 20 then bif inb i1 20 then bif !decide (((S.1 5) (i1).toNatClampNeg) = 4) then bif inb i1 20 then bif !decide (((S.1 5) (i1).toNatClampNeg) = 5) then sem PGM d yS_goAhead (40, [some (.ref o), some (.int i1), some (.int ((S.1 7) (i1).toNatClampNeg)), some (.int 0), none], [], (hS o S Z))
            else sem PGM d yS_goAhead (40, [some (.ref o), some (.int i1), some (.int (if 1 < (((S.1 7) (i1).toNatClampNeg) - 1) then (((S.1 7) (i1).toNatClampNeg) - 1) else 1)), some (.int 0), none], [], (hS o S Z))
          else none
        else bif inb i1 20 then bif !decide (((S.1 5) (i1).toNatClampNeg) = 5) then sem PGM d yS_goAhead (40, [some (.ref o), some (.int i1), some (.int (((S.1 7) (i1).toNatClampNeg) + 1)), some (.int 0), none], [], (hS o S Z))
            else sem PGM d yS_goAhead (40, [some (.ref o), some (.int i1), some (.int (if 1 < ((((S.1 7) (i1).toNatClampNeg) + 1) - 1) then ((((S.1 7) (i1).toNatClampNeg) + 1) - 1) else 1)), some (.int 0), none], [], (hS o S Z))
          else none
      else none
    else none := by rcases ho with rfl | rfl <;> exact (ev_eq PGM d yS_goAhead [40] 400 _).trans rfl
set_option maxRecDepth 100000 in
theorem eS_goAhead_40 (d : Nat) (o : Nat) (ho : o = 43 ∨ o = 59) (S : SS) (Z : RT) (i1 : Int32) (i2 : Int32) (i3 : Int32) (u4 : Option Value) : sem PGM d yS_goAhead (40, [some (.ref o), some (.int i1), some (.int i2), some (.int i3), u4], [], (hS o S Z)) =
    bif decide (i2 ≤ i3) then some (none, (hS o S Z))
    else bif inb i1 20 then aftK (sem PGM d yS_goAhead) 1 (61, [some (.ref o), some (.int i1), some (.int i2), some (.int i3), some (.int (((S.1 6) (i1).toNatClampNeg) + 1))], [], (hS o S Z)) (call PGM d yS_hasCell [.ref o, .int (((S.1 6) (i1).toNatClampNeg) + 1)] (hS o S Z))
      else none := by rcases ho with rfl | rfl <;> exact (ev_eq PGM d yS_goAhead [40] 400 _).trans rfl
set_option maxRecDepth 100000 in
theorem eS_goAhead_61 (d : Nat) (o : Nat) (ho : o = 43 ∨ o = 59) (S : SS) (Z : RT) (i1 : Int32) (i2 : Int32) (i3 : Int32) (i4 : Int32) (k0 : Int32) : sem PGM d yS_goAhead (61, [some (.ref o), some (.int i1), some (.int i2), some (.int i3), some (.int i4)], [.int k0], (hS o S Z)) =
    bif !decide (k0 = 0) then bif inb i4 30 then bif inb i4 30 then bif decide (((S.1 0) (i4).toNatClampNeg) ≤ ((S.1 3) (i4).toNatClampNeg)) then some (none, (hS o S Z))
          else bif inb i4 30 then bif decide (((S.1 4) (i4).toNatClampNeg) < ((S.1 12) 2)) then aftK (sem PGM d yS_goAhead) 0 (115, [some (.ref o), some (.int i1), some (.int i2), some (.int i3), some (.int i4)], [], (hS o S Z)) (call PGM d yS_seat [.ref o, .int i1, .int i4] (hS o S Z))
              else some (none, (hS o S Z))
            else none
        else none
      else none
    else aftK (sem PGM d yS_goAhead) 0 (71, [some (.ref o), some (.int i1), some (.int i2), some (.int i3), some (.int i4)], [], (hS o S Z)) (call PGM d yS_seat [.ref o, .int i1, .int (-9)] (hS o S Z)) := by rcases ho with rfl | rfl <;> exact (ev_eq PGM d yS_goAhead [40] 400 _).trans rfl
set_option maxRecDepth 100000 in
theorem eS_goAhead_115 (d : Nat) (o : Nat) (ho : o = 43 ∨ o = 59) (S : SS) (Z : RT) (i1 : Int32) (i2 : Int32) (i3 : Int32) (u4 : Option Value) : sem PGM d yS_goAhead (115, [some (.ref o), some (.int i1), some (.int i2), some (.int i3), u4], [], (hS o S Z)) =
    sem PGM d yS_goAhead (40, [some (.ref o), some (.int i1), some (.int i2), some (.int (i3 + 1)), u4], [], (hS o S Z)) := by rcases ho with rfl | rfl <;> exact (ev_eq PGM d yS_goAhead [40] 400 _).trans rfl
set_option maxRecDepth 100000 in
theorem eS_goAhead_71 (d : Nat) (o : Nat) (ho : o = 43 ∨ o = 59) (S : SS) (Z : RT) (u0 : Option Value) (i1 : Int32) (i2 : Int32) (i3 : Int32) (u4 : Option Value) : sem PGM d yS_goAhead (71, [u0, some (.int i1), some (.int i2), some (.int i3), u4], [], (hS o S Z)) =
    some (none, (hS o S Z)) := by rcases ho with rfl | rfl <;> exact (ev_eq PGM d yS_goAhead [40] 400 _).trans rfl
set_option maxRecDepth 100000 in
theorem eS_sufferedBy_0 (d : Nat) (o : Nat) (ho : o = 43 ∨ o = 59) (S : SS) (Z : RT) (i1 : Int32) : sem PGM d yS_sufferedBy (0, [some (.ref o), some (.int i1), none, none, none], [], (hS o S Z)) =
    sem PGM d yS_sufferedBy (7, [some (.ref o), some (.int i1), some (.int 0), some (.int 0), some (.int 0)], [], (hS o S Z)) := by rcases ho with rfl | rfl <;> exact (ev_eq PGM d yS_sufferedBy [7, 95] 400 _).trans rfl
set_option maxRecDepth 100000 in
theorem eS_sufferedBy_7 (d : Nat) (o : Nat) (ho : o = 43 ∨ o = 59) (S : SS) (Z : RT) (i1 : Int32) (i2 : Int32) (i3 : Int32) (i4 : Int32) : sem PGM d yS_sufferedBy (7, [some (.ref o), some (.int i1), some (.int i2), some (.int i3), some (.int i4)], [], (hS o S Z)) =
    bif decide ((S.2.1 2) ≤ i4) then bif !decide (i2 = 0) then bif inb i1 20 then bif inb ((S.1 5) (i1).toNatClampNeg) 9 then bif decide (i3 = 0) then bif inb i1 20 then bif inb i1 20 then sem PGM d yS_sufferedBy (95, [some (.ref o), some (.int i1), some (.int i2), some (.int i3), some (.int (((gvA 2) (((S.1 5) (i1).toNatClampNeg)).toNatClampNeg) + 0))], [], (hS o (sA S 8 (upd (S.1 8) (i1).toNatClampNeg (((S.1 8) (i1).toNatClampNeg) + (((gvA 2) (((S.1 5) (i1).toNatClampNeg)).toNatClampNeg) + 0)))) Z))
                else none
              else none
            else bif inb i1 20 then bif inb i1 20 then sem PGM d yS_sufferedBy (95, [some (.ref o), some (.int i1), some (.int i2), some (.int i3), some (.int (((gvA 2) (((S.1 5) (i1).toNatClampNeg)).toNatClampNeg) + 1))], [], (hS o (sA S 8 (upd (S.1 8) (i1).toNatClampNeg (((S.1 8) (i1).toNatClampNeg) + (((gvA 2) (((S.1 5) (i1).toNatClampNeg)).toNatClampNeg) + 1)))) Z))
                else none
              else none
          else none
        else none
      else some (some (.int 0), (hS o S Z))
    else bif inb i4 6 then bif inb i1 20 then bif decide (((S.1 9) (i4).toNatClampNeg) = ((S.1 6) (i1).toNatClampNeg)) then bif inb i4 6 then bif !decide (((S.1 11) (i4).toNatClampNeg) = 1) then sem PGM d yS_sufferedBy (7, [some (.ref o), some (.int i1), some (.int 1), some (.int i3), some (.int (i4 + 1))], [], (hS o S Z))
              else sem PGM d yS_sufferedBy (7, [some (.ref o), some (.int i1), some (.int 1), some (.int 1), some (.int (i4 + 1))], [], (hS o S Z))
            else none
          else sem PGM d yS_sufferedBy (7, [some (.ref o), some (.int i1), some (.int i2), some (.int i3), some (.int (i4 + 1))], [], (hS o S Z))
        else none
      else none := by rcases ho with rfl | rfl <;> exact (ev_eq PGM d yS_sufferedBy [7, 95] 400 _).trans rfl
set_option maxRecDepth 100000 in
theorem eS_sufferedBy_95 (d : Nat) (o : Nat) (ho : o = 43 ∨ o = 59) (S : SS) (Z : RT) (i1 : Int32) (i2 : Int32) (i3 : Int32) (i4 : Int32) : sem PGM d yS_sufferedBy (95, [some (.ref o), some (.int i1), some (.int i2), some (.int i3), some (.int i4)], [], (hS o S Z)) =
    bif decide (i4 ≤ 0) then some (some (.int i4), (hS o S Z))
    else bif inb i1 20 then aftK (sem PGM d yS_sufferedBy) 1 (110, [some (.ref o), some (.int i1), some (.int i2), some (.int i3), some (.int i4)], [], (hS o S Z)) (call PGM d yB_isA [.int ((S.1 5) (i1).toNatClampNeg), .int 1] (hS o S Z))
      else none := by rcases ho with rfl | rfl <;> exact (ev_eq PGM d yS_sufferedBy [7, 95] 400 _).trans rfl
set_option maxRecDepth 100000 in
theorem eS_sufferedBy_110 (d : Nat) (o : Nat) (ho : o = 43 ∨ o = 59) (S : SS) (Z : RT) (i1 : Int32) (i2 : Int32) (i3 : Int32) (i4 : Int32) (k0 : Int32) : sem PGM d yS_sufferedBy (110, [some (.ref o), some (.int i1), some (.int i2), some (.int i3), some (.int i4)], [.int k0], (hS o S Z)) =
    bif decide (k0 = 0) then some (some (.int i4), (hS o S Z))
    else aftK (sem PGM d yS_sufferedBy) 0 (119, [some (.ref o), some (.int i1), some (.int i2), some (.int i3), some (.int i4)], [], (hS o S Z)) (call PGM d yS_become [.ref o, .int i1, .int 3] (hS o S Z)) := by rcases ho with rfl | rfl <;> exact (ev_eq PGM d yS_sufferedBy [7, 95] 400 _).trans rfl
set_option maxRecDepth 100000 in
theorem eS_sufferedBy_119 (d : Nat) (o : Nat) (ho : o = 43 ∨ o = 59) (S : SS) (Z : RT) (u0 : Option Value) (i1 : Int32) (i2 : Int32) (i3 : Int32) (i4 : Int32) : sem PGM d yS_sufferedBy (119, [u0, some (.int i1), some (.int i2), some (.int i3), some (.int i4)], [], (hS o S Z)) =
    some (some (.int i4), (hS o S Z)) := by rcases ho with rfl | rfl <;> exact (ev_eq PGM d yS_sufferedBy [7, 95] 400 _).trans rfl
