/-! Equations of blocks, by wip/whole/gen/alleq.py. -/
set_option maxRecDepth 100000 in
theorem eM_law_0 (d : Nat) (Z : ZT) (M : MS) (i1 : Int32) (i2 : Int32) : sem PGM d yM_law (0, [some (.ref 91), some (.int i1), some (.int i2), none, none], [], (hM Z M)) =
    aftK (sem PGM d yM_law) 1 (16, [some (.ref 91), some (.int i1), some (.int i2), none, none], [], (hM Z M)) (call PGM d yM_in [.long ((i1).toInt64), .long 0, .long (((((M.1 0) 8) - 1)).toInt64)] (hM Z M)) := (ev_eq PGM d yM_law [] 400 _).trans rfl
set_option maxRecDepth 100000 in
theorem eM_law_16 (d : Nat) (Z : ZT) (M : MS) (i1 : Int32) (i2 : Int32) (u4 : Option Value) (k0 : Int32) : sem PGM d yM_law (16, [some (.ref 91), some (.int i1), some (.int i2), none, u4], [.int k0], (hM Z M)) =
    bif decide (k0 = 0) then some (some (.int (-1)), (hM Z M))
    else aftK (sem PGM d yM_law) 1 (23, [some (.ref 91), some (.int i1), some (.int i2), none, u4], [], (hM Z M)) (call PGM d yM_isLong [.int i2] (hM Z M)) := (ev_eq PGM d yM_law [] 400 _).trans rfl
set_option maxRecDepth 100000 in
theorem eM_law_23 (d : Nat) (Z : ZT) (M : MS) (i1 : Int32) (i2 : Int32) (u4 : Option Value) (k0 : Int32) : sem PGM d yM_law (23, [some (.ref 91), some (.int i1), some (.int i2), none, u4], [.int k0], (hM Z M)) =
    bif !decide (k0 = 0) then aftK (sem PGM d yM_law) 1 (33, [some (.ref 91), some (.int i1), some (.int i2), none, u4], [], (hM Z M)) (call PGM d yM_harmIn [.ref 91, .int i2] (hM Z M))
    else some (some (.int (-1)), (hM Z M)) := (ev_eq PGM d yM_law [] 400 _).trans rfl
set_option maxRecDepth 100000 in
theorem eM_law_33 (d : Nat) (Z : ZT) (M : MS) (i1 : Int32) (i2 : Int32) (u4 : Option Value) (k0 : Int32) : sem PGM d yM_law (33, [some (.ref 91), some (.int i1), some (.int i2), none, u4], [.int k0], (hM Z M)) =
    aftK (sem PGM d yM_law) 1 (44, [some (.ref 91), some (.int i1), some (.int i2), some (.int k0), u4], [], (hM Z (mV M 8 i1))) (call PGM d yM_harmIn [.ref 91, .int i2] (hM Z (mV M 8 i1))) := (ev_eq PGM d yM_law [] 400 _).trans rfl
set_option maxRecDepth 100000 in
theorem eM_law_44 (d : Nat) (Z : ZT) (M : MS) (u1 : Option Value) (i2 : Int32) (i3 : Int32) (u4 : Option Value) (k0 : Int32) : sem PGM d yM_law (44, [some (.ref 91), u1, some (.int i2), some (.int i3), u4], [.int k0], (hM Z M)) =
    some (some (.int ((k0 - i3) + 1000)), (hM Z (mV M 8 (-1)))) := (ev_eq PGM d yM_law [] 400 _).trans rfl
set_option maxRecDepth 100000 in
theorem eM_together_0 (d : Nat) (Z : ZT) (M : MS) (i1 : Int32) : sem PGM d yM_together (0, [some (.ref 91), some (.int i1), none, none, none], [], (hM Z M)) =
    aftK (sem PGM d yM_together) 1 (4, [some (.ref 91), some (.int i1), none, none, none], [], (hM Z M)) (call PGM d yM_isLong [.int i1] (hM Z M)) := (ev_eq PGM d yM_together [18, 22] 400 _).trans rfl
set_option maxRecDepth 100000 in
theorem eM_together_4 (d : Nat) (Z : ZT) (M : MS) (i1 : Int32) (u4 : Option Value) (k0 : Int32) : sem PGM d yM_together (4, [some (.ref 91), some (.int i1), none, none, u4], [.int k0], (hM Z M)) =
    bif !decide (k0 = 0) then aftK (sem PGM d yM_together) 0 (13, [some (.ref 91), some (.int i1), none, none, u4], [], (hM Z M)) (call PGM d yM_puts [.ref 91] (hM Z M))
    else some (some (.int (-1)), (hM Z M)) := (ev_eq PGM d yM_together [18, 22] 400 _).trans rfl
set_option maxRecDepth 100000 in
theorem eM_together_13 (d : Nat) (Z : ZT) (M : MS) (i1 : Int32) (u4 : Option Value) : sem PGM d yM_together (13, [some (.ref 91), some (.int i1), none, none, u4], [], (hM Z M)) =
    sem PGM d yM_together (18, [some (.ref 91), some (.int i1), none, none, u4], [], (hM Z (mV M 9 0))) := (ev_eq PGM d yM_together [18, 22] 400 _).trans rfl
set_option maxRecDepth 100000 in
theorem eM_together_18 (d : Nat) (Z : ZT) (M : MS) (i1 : Int32) (u4 : Option Value) : sem PGM d yM_together (18, [some (.ref 91), some (.int i1), none, none, u4], [], (hM Z M)) =
    sem PGM d yM_together (22, [some (.ref 91), some (.int i1), some (.int 0), some (.int 0), u4], [], (hM Z M)) := (ev_eq PGM d yM_together [18, 22] 400 _).trans rfl
set_option maxRecDepth 100000 in
theorem eM_together_22 (d : Nat) (Z : ZT) (M : MS) (i1 : Int32) (i2 : Int32) (i3 : Int32) (u4 : Option Value) : sem PGM d yM_together (22, [some (.ref 91), some (.int i1), some (.int i2), some (.int i3), u4], [], (hM Z M)) =
    bif decide (i1 ≤ i3) then aftK (sem PGM d yM_together) 0 (58, [some (.ref 91), some (.int i1), some (.int i2), some (.int i3), u4], [], (hM Z M)) (call PGM d yM_putsBack [.ref 91] (hM Z M))
    else aftK (sem PGM d yM_together) 1 (31, [some (.ref 91), some (.int i1), some (.int i2), some (.int i3), u4], [], (hM Z M)) (call PGM d yM_goes [.ref 91] (hM Z M)) := (ev_eq PGM d yM_together [18, 22] 400 _).trans rfl
set_option maxRecDepth 100000 in
theorem eM_together_58 (d : Nat) (Z : ZT) (M : MS) (u0 : Option Value) (i1 : Int32) (i2 : Int32) (i3 : Int32) (u4 : Option Value) : sem PGM d yM_together (58, [u0, some (.int i1), some (.int i2), some (.int i3), u4], [], (hM Z M)) =
    some (some (.int i2), (hM Z M)) := (ev_eq PGM d yM_together [18, 22] 400 _).trans rfl
set_option maxRecDepth 100000 in
theorem eM_together_31 (d : Nat) (Z : ZT) (M : MS) (i1 : Int32) (i2 : Int32) (i3 : Int32) (u4 : Option Value) (k0 : Int32) : sem PGM d yM_together (31, [some (.ref 91), some (.int i1), some (.int i2), some (.int i3), u4], [.int k0], (hM Z M)) =
    aftK (sem PGM d yM_together) 1 (38, [some (.ref 91), some (.int i1), some (.int i2), some (.int i3), some (.int k0)], [.int i2], (hM Z M)) (call PGM d yM_lone [.ref 91] (hM Z M)) := (ev_eq PGM d yM_together [18, 22] 400 _).trans rfl
set_option maxRecDepth 100000 in
theorem eM_together_38 (d : Nat) (Z : ZT) (M : MS) (i1 : Int32) (i2 : Int32) (i3 : Int32) (u4 : Option Value) (k0 : Int32) (k1 : Int32) : sem PGM d yM_together (38, [some (.ref 91), some (.int i1), some (.int i2), some (.int i3), u4], [.int k1, .int k0], (hM Z M)) =
    bif !decide (k1 = 0) then sem PGM d yM_together (22, [some (.ref 91), some (.int i1), some (.int (k0 + 0)), some (.int (i3 + 1)), u4], [], (hM Z M))
    else sem PGM d yM_together (22, [some (.ref 91), some (.int i1), some (.int (k0 + 1)), some (.int (i3 + 1)), u4], [], (hM Z M)) := (ev_eq PGM d yM_together [18, 22] 400 _).trans rfl
set_option maxRecDepth 100000 in
theorem eM_harm_0 (d : Nat) (Z : ZT) (M : MS) (i1 : Int32) : sem PGM d yM_harm (0, [some (.ref 91), some (.int i1)], [], (hM Z M)) =
    aftK (sem PGM d yM_harm) 1 (4, [some (.ref 91), some (.int i1)], [], (hM Z M)) (call PGM d yM_isLong [.int i1] (hM Z M)) := (ev_eq PGM d yM_harm [] 400 _).trans rfl
set_option maxRecDepth 100000 in
theorem eM_harm_4 (d : Nat) (Z : ZT) (M : MS) (i1 : Int32) (k0 : Int32) : sem PGM d yM_harm (4, [some (.ref 91), some (.int i1)], [.int k0], (hM Z M)) =
    bif decide (k0 = 0) then some (some (.int (-1)), (hM Z M))
    else aftK (sem PGM d yM_harm) 1 (12, [some (.ref 91), some (.int i1)], [], (hM Z M)) (call PGM d yM_harmIn [.ref 91, .int i1] (hM Z M)) := (ev_eq PGM d yM_harm [] 400 _).trans rfl
set_option maxRecDepth 100000 in
theorem eM_harm_12 (d : Nat) (Z : ZT) (M : MS) (u0 : Option Value) (u1 : Option Value) (k0 : Int32) : sem PGM d yM_harm (12, [u0, u1], [.int k0], (hM Z M)) =
    some (some (.int k0), (hM Z M)) := (ev_eq PGM d yM_harm [] 400 _).trans rfl
set_option maxRecDepth 100000 in
theorem eM_prove_0 (d : Nat) (Z : ZT) (M : MS) (i1 : Int32) : sem PGM d yM_prove (0, [some (.ref 91), some (.int i1), none, none], [], (hM Z M)) =
    aftK (sem PGM d yM_prove) 1 (4, [some (.ref 91), some (.int i1), none, none], [], (hM Z M)) (call PGM d yM_isLong [.int i1] (hM Z M)) := (ev_eq PGM d yM_prove [51, 53, 75] 400 _).trans rfl
set_option maxRecDepth 100000 in
theorem eM_prove_4 (d : Nat) (Z : ZT) (M : MS) (i1 : Int32) (u3 : Option Value) (k0 : Int32) : sem PGM d yM_prove (4, [some (.ref 91), some (.int i1), none, u3], [.int k0], (hM Z M)) =
    bif !decide (k0 = 0) then aftK (sem PGM d yM_prove) 0 (13, [some (.ref 91), some (.int i1), none, u3], [], (hM Z M)) (call PGM d yM_puts [.ref 91] (hM Z M))
    else some (some (.int (-1)), (hM Z M)) := (ev_eq PGM d yM_prove [51, 53, 75] 400 _).trans rfl
set_option maxRecDepth 100000 in
theorem eM_prove_13 (d : Nat) (Z : ZT) (M : MS) (i1 : Int32) (u3 : Option Value) : sem PGM d yM_prove (13, [some (.ref 91), some (.int i1), none, u3], [], (hM Z M)) =
    aftK (sem PGM d yM_prove) 1 (24, [some (.ref 91), some (.int i1), none, u3], [], (hM Z (mV M 9 24))) (call PGM d yM_trial [.ref 91, .int i1] (hM Z (mV M 9 24))) := (ev_eq PGM d yM_prove [51, 53, 75] 400 _).trans rfl
set_option maxRecDepth 100000 in
theorem eM_prove_24 (d : Nat) (Z : ZT) (M : MS) (i1 : Int32) (u3 : Option Value) (k0 : Int32) : sem PGM d yM_prove (24, [some (.ref 91), some (.int i1), none, u3], [.int k0], (hM Z M)) =
    aftK (sem PGM d yM_prove) 0 (29, [some (.ref 91), some (.int i1), some (.int k0), u3], [], (hM Z M)) (call PGM d yM_putsBack [.ref 91] (hM Z M)) := (ev_eq PGM d yM_prove [51, 53, 75] 400 _).trans rfl
set_option maxRecDepth 100000 in
theorem eM_prove_29 (d : Nat) (Z : ZT) (M : MS) (i1 : Int32) (i2 : Int32) (u3 : Option Value) : sem PGM d yM_prove (29, [some (.ref 91), some (.int i1), some (.int i2), u3], [], (hM Z M)) =
    bif decide (24 ≤ (M.2 10)) then sem PGM d yM_prove (51, [some (.ref 91), some (.int i1), some (.int i2), u3], [], (hM Z (mV M 14 24)))
    else sem PGM d yM_prove (51, [some (.ref 91), some (.int i1), some (.int i2), u3], [], (hM Z (mV M 14 (M.2 10)))) := (ev_eq PGM d yM_prove [51, 53, 75] 400 _).trans rfl
set_option maxRecDepth 100000 in
theorem eM_prove_51 (d : Nat) (Z : ZT) (M : MS) (i1 : Int32) (i2 : Int32) (u3 : Option Value) : sem PGM d yM_prove (51, [some (.ref 91), some (.int i1), some (.int i2), u3], [], (hM Z M)) =
    sem PGM d yM_prove (53, [some (.ref 91), some (.int i1), some (.int i2), some (.int 0)], [], (hM Z M)) := (ev_eq PGM d yM_prove [51, 53, 75] 400 _).trans rfl
set_option maxRecDepth 100000 in
theorem eM_prove_53 (d : Nat) (Z : ZT) (M : MS) (i1 : Int32) (i2 : Int32) (i3 : Int32) : sem PGM d yM_prove (53, [some (.ref 91), some (.int i1), some (.int i2), some (.int i3)], [], (hM Z M)) =
    bif decide ((3 * (M.2 14)) ≤ i3) then some (some (.int (M.2 14)), (hM Z M))
    else bif inb i3 72 then bif inb i3 72 then sem PGM d yM_prove (75, [some (.ref 91), some (.int i1), some (.int i2), some (.int i3)], [], (hM Z (mA M 8 (upd (M.1 8) (i3).toNatClampNeg ((M.1 7) (i3).toNatClampNeg)))))
        else none
      else none := (ev_eq PGM d yM_prove [51, 53, 75] 400 _).trans rfl
set_option maxRecDepth 100000 in
theorem eM_prove_75 (d : Nat) (Z : ZT) (M : MS) (i1 : Int32) (i2 : Int32) (i3 : Int32) : sem PGM d yM_prove (75, [some (.ref 91), some (.int i1), some (.int i2), some (.int i3)], [], (hM Z M)) =
    sem PGM d yM_prove (53, [some (.ref 91), some (.int i1), some (.int i2), some (.int (i3 + 1))], [], (hM Z M)) := (ev_eq PGM d yM_prove [51, 53, 75] 400 _).trans rfl
set_option maxRecDepth 100000 in
theorem eM_row_0 (d : Nat) (Z : ZT) (M : MS) (i1 : Int32) (i2 : Int32) : sem PGM d yM_row (0, [some (.ref 91), some (.int i1), some (.int i2)], [], (hM Z M)) =
    aftK (sem PGM d yM_row) 1 (13, [some (.ref 91), some (.int i1), some (.int i2)], [], (hM Z M)) (call PGM d yM_in [.long ((i1).toInt64), .long 0, .long ((((M.2 14) - 1)).toInt64)] (hM Z M)) := (ev_eq PGM d yM_row [] 400 _).trans rfl
set_option maxRecDepth 100000 in
theorem eM_row_13 (d : Nat) (Z : ZT) (M : MS) (i1 : Int32) (i2 : Int32) (k0 : Int32) : sem PGM d yM_row (13, [some (.ref 91), some (.int i1), some (.int i2)], [.int k0], (hM Z M)) =
    bif decide (k0 = 0) then some (some (.int (-9)), (hM Z M))
    else aftK (sem PGM d yM_row) 1 (25, [some (.ref 91), some (.int i1), some (.int i2)], [], (hM Z M)) (call PGM d yM_in [.long ((i2).toInt64), .long 0, .long 2] (hM Z M)) := (ev_eq PGM d yM_row [] 400 _).trans rfl
set_option maxRecDepth 100000 in
theorem eM_row_25 (d : Nat) (Z : ZT) (M : MS) (i1 : Int32) (i2 : Int32) (k0 : Int32) : sem PGM d yM_row (25, [some (.ref 91), some (.int i1), some (.int i2)], [.int k0], (hM Z M)) =
    bif decide (k0 = 0) then some (some (.int (-9)), (hM Z M))
    else bif inb ((3 * i1) + i2) 72 then some (some (.int ((M.1 8) (((3 * i1) + i2)).toNatClampNeg)), (hM Z M))
      else none := (ev_eq PGM d yM_row [] 400 _).trans rfl
set_option maxRecDepth 100000 in
theorem eM_alterRow_0 (d : Nat) (Z : ZT) (M : MS) (i1 : Int32) (i2 : Int32) (i3 : Int32) : sem PGM d yM_alterRow (0, [some (.ref 91), some (.int i1), some (.int i2), some (.int i3), none], [], (hM Z M)) =
    aftK (sem PGM d yM_alterRow) 1 (13, [some (.ref 91), some (.int i1), some (.int i2), some (.int i3), none], [], (hM Z M)) (call PGM d yM_in [.long ((i1).toInt64), .long 0, .long ((((M.2 14) - 1)).toInt64)] (hM Z M)) := (ev_eq PGM d yM_alterRow [] 400 _).trans rfl
set_option maxRecDepth 100000 in
theorem eM_alterRow_13 (d : Nat) (Z : ZT) (M : MS) (i1 : Int32) (i2 : Int32) (i3 : Int32) (u4 : Option Value) (k0 : Int32) : sem PGM d yM_alterRow (13, [some (.ref 91), some (.int i1), some (.int i2), some (.int i3), u4], [.int k0], (hM Z M)) =
    bif decide (k0 = 0) then some (some (.int (-9)), (hM Z M))
    else aftK (sem PGM d yM_alterRow) 1 (25, [some (.ref 91), some (.int i1), some (.int i2), some (.int i3), u4], [], (hM Z M)) (call PGM d yM_in [.long ((i2).toInt64), .long 0, .long 2] (hM Z M)) := (ev_eq PGM d yM_alterRow [] 400 _).trans rfl
set_option maxRecDepth 100000 in
theorem eM_alterRow_25 (d : Nat) (Z : ZT) (M : MS) (i1 : Int32) (i2 : Int32) (i3 : Int32) (u4 : Option Value) (k0 : Int32) : sem PGM d yM_alterRow (25, [some (.ref 91), some (.int i1), some (.int i2), some (.int i3), u4], [.int k0], (hM Z M)) =
    bif !decide (k0 = 0) then bif inb ((3 * i1) + i2) 72 then bif inb ((3 * i1) + i2) 72 then some (some (.int ((M.1 8) (((3 * i1) + i2)).toNatClampNeg)), (hM Z (mA M 8 (upd (M.1 8) (((3 * i1) + i2)).toNatClampNeg i3))))
        else none
      else none
    else some (some (.int (-9)), (hM Z M)) := (ev_eq PGM d yM_alterRow [] 400 _).trans rfl
set_option maxRecDepth 100000 in
theorem eM_judge_0 (d : Nat) (Z : ZT) (M : MS)  : sem PGM d yM_judge (0, [some (.ref 91), none], [], (hM Z M)) =
    aftK (sem PGM d yM_judge) 0 (4, [some (.ref 91), none], [], (hM Z M)) (call PGM d yM_puts [.ref 91] (hM Z M)) := (ev_eq PGM d yM_judge [9, 14] 400 _).trans rfl
set_option maxRecDepth 100000 in
theorem eM_judge_4 (d : Nat) (Z : ZT) (M : MS) (u1 : Option Value) : sem PGM d yM_judge (4, [some (.ref 91), u1], [], (hM Z M)) =
    sem PGM d yM_judge (9, [some (.ref 91), u1], [], (hM Z (mV M 9 0))) := (ev_eq PGM d yM_judge [9, 14] 400 _).trans rfl
set_option maxRecDepth 100000 in
theorem eM_judge_9 (d : Nat) (Z : ZT) (M : MS) (u1 : Option Value) : sem PGM d yM_judge (9, [some (.ref 91), u1], [], (hM Z M)) =
    sem PGM d yM_judge (14, [some (.ref 91), u1], [], (hM Z (mV M 12 1))) := (ev_eq PGM d yM_judge [9, 14] 400 _).trans rfl
set_option maxRecDepth 100000 in
theorem eM_judge_14 (d : Nat) (Z : ZT) (M : MS) (u1 : Option Value) : sem PGM d yM_judge (14, [some (.ref 91), u1], [], (hM Z M)) =
    aftK (sem PGM d yM_judge) 1 (25, [some (.ref 91), u1], [], (hM Z (mV M 13 0))) (call PGM d yM_trial [.ref 91, .int 60] (hM Z (mV M 13 0))) := (ev_eq PGM d yM_judge [9, 14] 400 _).trans rfl
set_option maxRecDepth 100000 in
theorem eM_judge_25 (d : Nat) (Z : ZT) (M : MS) (u1 : Option Value) (k0 : Int32) : sem PGM d yM_judge (25, [some (.ref 91), u1], [.int k0], (hM Z M)) =
    aftK (sem PGM d yM_judge) 0 (35, [some (.ref 91), some (.int k0)], [], (hM Z (mV M 12 0))) (call PGM d yM_putsBack [.ref 91] (hM Z (mV M 12 0))) := (ev_eq PGM d yM_judge [9, 14] 400 _).trans rfl
set_option maxRecDepth 100000 in
theorem eM_judge_35 (d : Nat) (Z : ZT) (M : MS) (u1 : Option Value) : sem PGM d yM_judge (35, [some (.ref 91), u1], [], (hM Z M)) =
    bif decide ((M.2 13) ≤ 0) then bif decide ((M.2 14) ≤ (M.2 10)) then some (some (.int 0), (hM Z M))
      else some (some (.int ((M.2 10) + 1)), (hM Z M))
    else some (some (.int (M.2 13)), (hM Z M)) := (ev_eq PGM d yM_judge [9, 14] 400 _).trans rfl
set_option maxRecDepth 100000 in
theorem eM_sheet_0 (d : Nat) (Z : ZT) (M : MS) (i1 : Int32) (i2 : Int32) (i3 : Int32) : sem PGM d yM_sheet (0, [some (.ref 91), some (.int i1), some (.int i2), some (.int i3), none], [], (hM Z M)) =
    aftK (sem PGM d yM_sheet) 1 (4, [some (.ref 91), some (.int i1), some (.int i2), some (.int i3), none], [], (hM Z M)) (call PGM d yM_isOne [.int i1] (hM Z M)) := (ev_eq PGM d yM_sheet [51, 66, 69, 89] 400 _).trans rfl
set_option maxRecDepth 100000 in
theorem eM_sheet_4 (d : Nat) (Z : ZT) (M : MS) (i1 : Int32) (i2 : Int32) (i3 : Int32) (u4 : Option Value) (k0 : Int32) : sem PGM d yM_sheet (4, [some (.ref 91), some (.int i1), some (.int i2), some (.int i3), u4], [.int k0], (hM Z M)) =
    bif decide (k0 = 0) then some (some (.int (-1)), (hM Z M))
    else aftK (sem PGM d yM_sheet) 1 (18, [some (.ref 91), some (.int i1), some (.int i2), some (.int i3), u4], [], (hM Z M)) (call PGM d yM_in [.long ((i2).toInt64), .long (-1), .long 4] (hM Z M)) := (ev_eq PGM d yM_sheet [51, 66, 69, 89] 400 _).trans rfl
set_option maxRecDepth 100000 in
theorem eM_sheet_18 (d : Nat) (Z : ZT) (M : MS) (i1 : Int32) (i2 : Int32) (i3 : Int32) (u4 : Option Value) (k0 : Int32) : sem PGM d yM_sheet (18, [some (.ref 91), some (.int i1), some (.int i2), some (.int i3), u4], [.int k0], (hM Z M)) =
    bif decide (k0 = 0) then some (some (.int (-1)), (hM Z M))
    else bif decide (i2 < 0) then bif decide (i2 < 0) then bif inb i1 4 then sem PGM d yM_sheet (51, [some (.ref 91), some (.int i1), some (.int i2), some (.int i3), u4], [], (hM Z (mA M 9 (upd (M.1 9) (i1).toNatClampNeg i2))))
          else none
        else bif decide (0 ≤ i3) then bif inb i1 4 then sem PGM d yM_sheet (51, [some (.ref 91), some (.int i1), some (.int i2), some (.int i3), u4], [], (hM Z (mA M 9 (upd (M.1 9) (i1).toNatClampNeg i2))))
            else none
          else some (some (.int (-14)), (hM Z M))
      else bif decide (i3 ≤ 40) then bif decide (i2 < 0) then bif inb i1 4 then sem PGM d yM_sheet (51, [some (.ref 91), some (.int i1), some (.int i2), some (.int i3), u4], [], (hM Z (mA M 9 (upd (M.1 9) (i1).toNatClampNeg i2))))
            else none
          else bif decide (0 ≤ i3) then bif inb i1 4 then sem PGM d yM_sheet (51, [some (.ref 91), some (.int i1), some (.int i2), some (.int i3), u4], [], (hM Z (mA M 9 (upd (M.1 9) (i1).toNatClampNeg i2))))
              else none
            else some (some (.int (-14)), (hM Z M))
        else some (some (.int (-1)), (hM Z M)) := (ev_eq PGM d yM_sheet [51, 66, 69, 89] 400 _).trans rfl
set_option maxRecDepth 100000 in
theorem eM_sheet_51 (d : Nat) (Z : ZT) (M : MS) (i1 : Int32) (i2 : Int32) (i3 : Int32) (u4 : Option Value) : sem PGM d yM_sheet (51, [some (.ref 91), some (.int i1), some (.int i2), some (.int i3), u4], [], (hM Z M)) =
    bif decide (0 ≤ i2) then bif inb i1 4 then sem PGM d yM_sheet (66, [some (.ref 91), some (.int i1), some (.int i2), some (.int i3), u4], [], (hM Z (mA M 10 (upd (M.1 10) (i1).toNatClampNeg i3))))
      else none
    else bif inb i1 4 then sem PGM d yM_sheet (66, [some (.ref 91), some (.int i1), some (.int i2), some (.int i3), u4], [], (hM Z (mA M 10 (upd (M.1 10) (i1).toNatClampNeg 0))))
      else none := (ev_eq PGM d yM_sheet [51, 66, 69, 89] 400 _).trans rfl
set_option maxRecDepth 100000 in
theorem eM_sheet_66 (d : Nat) (Z : ZT) (M : MS) (i1 : Int32) (u2 : Option Value) (i3 : Int32) (u4 : Option Value) : sem PGM d yM_sheet (66, [some (.ref 91), some (.int i1), u2, some (.int i3), u4], [], (hM Z M)) =
    sem PGM d yM_sheet (69, [some (.ref 91), some (.int i1), u2, some (.int i3), some (.int 0)], [], (hM Z M)) := (ev_eq PGM d yM_sheet [51, 66, 69, 89] 400 _).trans rfl
set_option maxRecDepth 100000 in
theorem eM_sheet_69 (d : Nat) (Z : ZT) (M : MS) (i1 : Int32) (u2 : Option Value) (i3 : Int32) (i4 : Int32) : sem PGM d yM_sheet (69, [some (.ref 91), some (.int i1), u2, some (.int i3), some (.int i4)], [], (hM Z M)) =
    bif decide (40 ≤ i4) then some (some (.int 1), (hM Z M))
    else bif inb ((40 * i1) + i4) 160 then sem PGM d yM_sheet (89, [some (.ref 91), some (.int i1), u2, some (.int i3), some (.int i4)], [], (hM Z (mA M 11 (upd (M.1 11) (((40 * i1) + i4)).toNatClampNeg 0))))
      else none := (ev_eq PGM d yM_sheet [51, 66, 69, 89] 400 _).trans rfl
set_option maxRecDepth 100000 in
theorem eM_sheet_89 (d : Nat) (Z : ZT) (M : MS) (i1 : Int32) (u2 : Option Value) (i3 : Int32) (i4 : Int32) : sem PGM d yM_sheet (89, [some (.ref 91), some (.int i1), u2, some (.int i3), some (.int i4)], [], (hM Z M)) =
    sem PGM d yM_sheet (69, [some (.ref 91), some (.int i1), u2, some (.int i3), some (.int (i4 + 1))], [], (hM Z M)) := (ev_eq PGM d yM_sheet [51, 66, 69, 89] 400 _).trans rfl
set_option maxRecDepth 100000 in
theorem eM_isOne_0 (d : Nat) (h : AH) (i0 : Int32) : sem PGM d yM_isOne (0, [some (.int i0)], [], h) =
    aftK (sem PGM d yM_isOne) 1 (9, [some (.int i0)], [], h) (call PGM d yM_in [.long ((i0).toInt64), .long 0, .long 3] h) := (ev_eq PGM d yM_isOne [] 400 _).trans rfl
set_option maxRecDepth 100000 in
theorem eM_isOne_9 (d : Nat) (h : AH) (u0 : Option Value) (k0 : Int32) : sem PGM d yM_isOne (9, [u0], [.int k0], h) =
    bif isB k0 then some (some (.int k0), h) else none := (ev_eq PGM d yM_isOne [] 400 _).trans rfl
set_option maxRecDepth 100000 in
theorem eM_put_0 (d : Nat) (Z : ZT) (M : MS) (i1 : Int32) (i2 : Int32) (i3 : Int32) : sem PGM d yM_put (0, [some (.ref 91), some (.int i1), some (.int i2), some (.int i3)], [], (hM Z M)) =
    aftK (sem PGM d yM_put) 1 (4, [some (.ref 91), some (.int i1), some (.int i2), some (.int i3)], [], (hM Z M)) (call PGM d yM_isOne [.int i1] (hM Z M)) := (ev_eq PGM d yM_put [] 400 _).trans rfl
set_option maxRecDepth 100000 in
theorem eM_put_4 (d : Nat) (Z : ZT) (M : MS) (i1 : Int32) (i2 : Int32) (i3 : Int32) (k0 : Int32) : sem PGM d yM_put (4, [some (.ref 91), some (.int i1), some (.int i2), some (.int i3)], [.int k0], (hM Z M)) =
    bif !decide (k0 = 0) then bif inb i1 4 then bif decide (0 ≤ ((M.1 9) (i1).toNatClampNeg)) then bif inb i1 4 then aftK (sem PGM d yM_put) 1 (36, [some (.ref 91), some (.int i1), some (.int i2), some (.int i3)], [], (hM Z M)) (call PGM d yM_in [.long ((i2).toInt64), .long 0, .long (((((M.1 10) (i1).toNatClampNeg) - 1)).toInt64)] (hM Z M))
          else none
        else some (some (.int (-11)), (hM Z M))
      else none
    else some (some (.int (-1)), (hM Z M)) := (ev_eq PGM d yM_put [] 400 _).trans rfl
set_option maxRecDepth 100000 in
theorem eM_put_36 (d : Nat) (Z : ZT) (M : MS) (i1 : Int32) (i2 : Int32) (i3 : Int32) (k0 : Int32) : sem PGM d yM_put (36, [some (.ref 91), some (.int i1), some (.int i2), some (.int i3)], [.int k0], (hM Z M)) =
    bif !decide (k0 = 0) then bif inb i1 4 then aftK (sem PGM d yM_put) 1 (62, [some (.ref 91), some (.int i1), some (.int i2), some (.int i3)], [.int ((40 * i1) + i2), .ref 103], (hM Z M)) (call PGM d yM_narrowed [.int ((M.1 9) (i1).toNatClampNeg), .int i3] (hM Z M))
      else none
    else some (some (.int (-12)), (hM Z M)) := (ev_eq PGM d yM_put [] 400 _).trans rfl
set_option maxRecDepth 100000 in
theorem eM_put_62 (d : Nat) (Z : ZT) (M : MS) (u0 : Option Value) (u1 : Option Value) (u2 : Option Value) (u3 : Option Value) (k1 : Int32) (k2 : Int32) : sem PGM d yM_put (62, [u0, u1, u2, u3], [.int k2, .int k1, .ref 103], (hM Z M)) =
    bif inb k1 160 then some (some (.int 1), (hM Z (mA M 11 (upd (M.1 11) (k1).toNatClampNeg k2))))
    else none := (ev_eq PGM d yM_put [] 400 _).trans rfl
set_option maxRecDepth 100000 in
theorem eM_narrowed_0 (d : Nat) (h : AH) (i0 : Int32) (i1 : Int32) : sem PGM d yM_narrowed (0, [some (.int i0), some (.int i1)], [], h) =
    bif !decide (i0 = 0) then bif !decide (i0 = 1) then bif !decide (i0 = 4) then some (some (.int i1), h)
        else bif !decide (i1 = 0) then some (some (.int 1), h)
          else some (some (.int 0), h)
      else some (some (.int ((i1).toInt16.toInt32)), h)
    else some (some (.int ((i1).toInt8.toInt32)), h) := (ev_eq PGM d yM_narrowed [] 400 _).trans rfl
set_option maxRecDepth 100000 in
theorem eM_item_0 (d : Nat) (Z : ZT) (M : MS) (i1 : Int32) (i2 : Int32) (i3 : Int32) : sem PGM d yM_item (0, [some (.ref 91), some (.int i1), some (.int i2), some (.int i3), none], [], (hM Z M)) =
    aftK (sem PGM d yM_item) 1 (4, [some (.ref 91), some (.int i1), some (.int i2), some (.int i3), none], [], (hM Z M)) (call PGM d yM_isOne [.int i1] (hM Z M)) := (ev_eq PGM d yM_item [] 400 _).trans rfl
set_option maxRecDepth 100000 in
theorem eM_item_4 (d : Nat) (Z : ZT) (M : MS) (i1 : Int32) (i2 : Int32) (i3 : Int32) (u4 : Option Value) (k0 : Int32) : sem PGM d yM_item (4, [some (.ref 91), some (.int i1), some (.int i2), some (.int i3), u4], [.int k0], (hM Z M)) =
    bif decide (k0 = 0) then some (some (.int (-1)), (hM Z M))
    else aftK (sem PGM d yM_item) 1 (16, [some (.ref 91), some (.int i1), some (.int i2), some (.int i3), u4], [], (hM Z M)) (call PGM d yM_in [.long ((i2).toInt64), .long 0, .long 4] (hM Z M)) := (ev_eq PGM d yM_item [] 400 _).trans rfl
set_option maxRecDepth 100000 in
theorem eM_item_16 (d : Nat) (Z : ZT) (M : MS) (i1 : Int32) (i2 : Int32) (i3 : Int32) (u4 : Option Value) (k0 : Int32) : sem PGM d yM_item (16, [some (.ref 91), some (.int i1), some (.int i2), some (.int i3), u4], [.int k0], (hM Z M)) =
    bif !decide (k0 = 0) then aftK (sem PGM d yM_item) 1 (27, [some (.ref 91), some (.int i1), some (.int i2), some (.int i3), u4], [], (hM Z M)) (call PGM d yM_taking [.ref 91, .int i1, .int i2] (hM Z M))
    else some (some (.int (-1)), (hM Z M)) := (ev_eq PGM d yM_item [] 400 _).trans rfl
set_option maxRecDepth 100000 in
theorem eM_item_27 (d : Nat) (Z : ZT) (M : MS) (i1 : Int32) (u2 : Option Value) (i3 : Int32) (u4 : Option Value) (k0 : Int32) : sem PGM d yM_item (27, [some (.ref 91), some (.int i1), u2, some (.int i3), u4], [.int k0], (hM Z M)) =
    bif decide (k0 = 0) then bif inb i1 4 then aftK (sem PGM d yM_item) 1 (52, [some (.ref 91), some (.int i1), u2, some (.int i3), some (.int k0)], [], (hM Z M)) (call PGM d yM_in [.long ((i3).toInt64), .long 0, .long (((((M.1 10) (i1).toNatClampNeg) - 1)).toInt64)] (hM Z M))
      else none
    else some (some (.int k0), (hM Z M)) := (ev_eq PGM d yM_item [] 400 _).trans rfl
set_option maxRecDepth 100000 in
theorem eM_item_52 (d : Nat) (Z : ZT) (M : MS) (i1 : Int32) (u2 : Option Value) (i3 : Int32) (u4 : Option Value) (k0 : Int32) : sem PGM d yM_item (52, [some (.ref 91), some (.int i1), u2, some (.int i3), u4], [.int k0], (hM Z M)) =
    bif decide (k0 = 0) then some (some (.int (-12)), (hM Z M))
    else bif inb ((40 * i1) + i3) 160 then some (some (.int ((M.1 11) (((40 * i1) + i3)).toNatClampNeg)), (hM Z M))
      else none := (ev_eq PGM d yM_item [] 400 _).trans rfl
set_option maxRecDepth 100000 in
theorem eM_taking_0 (d : Nat) (Z : ZT) (M : MS) (i1 : Int32) (i2 : Int32) : sem PGM d yM_taking (0, [some (.ref 91), some (.int i1), some (.int i2)], [], (hM Z M)) =
    bif inb i1 4 then bif decide (0 ≤ ((M.1 9) (i1).toNatClampNeg)) then bif inb i1 4 then bif decide (((M.1 9) (i1).toNatClampNeg) = i2) then some (some (.int 0), (hM Z M))
          else some (some (.int (-13)), (hM Z M))
        else none
      else some (some (.int (-11)), (hM Z M))
    else none := (ev_eq PGM d yM_taking [] 400 _).trans rfl
set_option maxRecDepth 100000 in
theorem eM_widths_0 (d : Nat) (Z : ZT) (M : MS) (i1 : Int32) (i2 : Int32) (i3 : Int32) : sem PGM d yM_widths (0, [some (.ref 91), some (.int i1), some (.int i2), some (.int i3), none, none, none, none, none, none], [], (hM Z M)) =
    aftK (sem PGM d yM_widths) 1 (4, [some (.ref 91), some (.int i1), some (.int i2), some (.int i3), none, none, none, none, none, none], [], (hM Z M)) (call PGM d yM_isOne [.int i1] (hM Z M)) := (ev_eq PGM d yM_widths [43, 129] 400 _).trans rfl
set_option maxRecDepth 100000 in
theorem eM_widths_4 (d : Nat) (Z : ZT) (M : MS) (i1 : Int32) (i2 : Int32) (i3 : Int32) (u7 : Option Value) (u9 : Option Value) (k0 : Int32) : sem PGM d yM_widths (4, [some (.ref 91), some (.int i1), some (.int i2), some (.int i3), none, none, none, u7, none, u9], [.int k0], (hM Z M)) =
    bif decide (k0 = 0) then some (some (.int (-1)), (hM Z M))
    else aftK (sem PGM d yM_widths) 1 (16, [some (.ref 91), some (.int i1), some (.int i2), some (.int i3), none, none, none, u7, none, u9], [], (hM Z M)) (call PGM d yM_in [.long ((i3).toInt64), .long 0, .long 30] (hM Z M)) := (ev_eq PGM d yM_widths [43, 129] 400 _).trans rfl
set_option maxRecDepth 100000 in
theorem eM_widths_16 (d : Nat) (Z : ZT) (M : MS) (i1 : Int32) (i2 : Int32) (i3 : Int32) (u7 : Option Value) (u9 : Option Value) (k0 : Int32) : sem PGM d yM_widths (16, [some (.ref 91), some (.int i1), some (.int i2), some (.int i3), none, none, none, u7, none, u9], [.int k0], (hM Z M)) =
    bif !decide (k0 = 0) then aftK (sem PGM d yM_widths) 1 (27, [some (.ref 91), some (.int i1), some (.int i2), some (.int i3), none, none, none, u7, none, u9], [], (hM Z M)) (call PGM d yM_taking [.ref 91, .int i1, .int 0] (hM Z M))
    else some (some (.int (-1)), (hM Z M)) := (ev_eq PGM d yM_widths [43, 129] 400 _).trans rfl
set_option maxRecDepth 100000 in
theorem eM_widths_27 (d : Nat) (Z : ZT) (M : MS) (i1 : Int32) (i2 : Int32) (i3 : Int32) (u7 : Option Value) (u9 : Option Value) (k0 : Int32) : sem PGM d yM_widths (27, [some (.ref 91), some (.int i1), some (.int i2), some (.int i3), none, none, none, u7, none, u9], [.int k0], (hM Z M)) =
    bif decide (k0 = 0) then sem PGM d yM_widths (43, [some (.ref 91), some (.int i1), some (.int i2), some (.int i3), some (.int k0), some (.int 0), some (.int 0), u7, none, u9], [], (hM Z M))
    else some (some (.int k0), (hM Z M)) := (ev_eq PGM d yM_widths [43, 129] 400 _).trans rfl
set_option maxRecDepth 100000 in
theorem eM_widths_43 (d : Nat) (Z : ZT) (M : MS) (i1 : Int32) (i2 : Int32) (i3 : Int32) (i4 : Int32) (i5 : Int32) (i6 : Int32) (u7 : Option Value) (u9 : Option Value) : sem PGM d yM_widths (43, [some (.ref 91), some (.int i1), some (.int i2), some (.int i3), some (.int i4), some (.int i5), some (.int i6), u7, none, u9], [], (hM Z M)) =
    bif decide (i3 ≤ i6) then some (some (.int i5), (hM Z M))
    else bif inb i1 4 then aftK (sem PGM d yM_widths) 1 (72, [some (.ref 91), some (.int i1), some (.int i2), some (.int i3), some (.int i4), some (.int i5), some (.int i6), some (.long (((i2).toInt64) + ((i6).toInt64))), none, u9], [], (hM Z M)) (call PGM d yM_in [.long (((i2).toInt64) + ((i6).toInt64)), .long 0, .long (((((M.1 10) (i1).toNatClampNeg) - 1)).toInt64)] (hM Z M))
      else none := (ev_eq PGM d yM_widths [43, 129] 400 _).trans rfl
set_option maxRecDepth 100000 in
theorem eM_widths_72 (d : Nat) (Z : ZT) (M : MS) (i1 : Int32) (i2 : Int32) (i3 : Int32) (i4 : Int32) (i5 : Int32) (i6 : Int32) (l7 : Int64) (u9 : Option Value) (k0 : Int32) : sem PGM d yM_widths (72, [some (.ref 91), some (.int i1), some (.int i2), some (.int i3), some (.int i4), some (.int i5), some (.int i6), some (.long l7), none, u9], [.int k0], (hM Z M)) =
    bif !decide (k0 = 0) then bif inb ((40 * i1) + ((l7).toInt32)) 160 then aftK (sem PGM d yM_widths) 1 (99, [some (.ref 91), some (.int i1), some (.int i2), some (.int i3), some (.int i4), some (.int i5), some (.int i6), some (.long l7), none, some (.int ((M.1 11) (((40 * i1) + ((l7).toInt32))).toNatClampNeg))], [], (hM Z M)) (call PGM d yM_isCell [.ref 91, .int i6] (hM Z M))
      else none
    else some (some (.int (-12)), (hM Z M)) := (ev_eq PGM d yM_widths [43, 129] 400 _).trans rfl
set_option maxRecDepth 100000 in
theorem eM_widths_99 (d : Nat) (Z : ZT) (M : MS) (i1 : Int32) (i2 : Int32) (i3 : Int32) (i4 : Int32) (i5 : Int32) (i6 : Int32) (u7 : Option Value) (i9 : Int32) (k0 : Int32) : sem PGM d yM_widths (99, [some (.ref 91), some (.int i1), some (.int i2), some (.int i3), some (.int i4), some (.int i5), some (.int i6), u7, none, some (.int i9)], [.int k0], (hM Z M)) =
    bif decide (k0 = 0) then sem PGM d yM_widths (43, [some (.ref 91), some (.int i1), some (.int i2), some (.int i3), some (.int i4), some (.int i5), some (.int (i6 + 1)), u7, none, some (.int i9)], [], (hM Z M))
    else aftK (sem PGM d yM_widths) 1 (112, [some (.ref 91), some (.int i1), some (.int i2), some (.int i3), some (.int i4), some (.int i5), some (.int i6), u7, none, some (.int i9)], [], (hM Z M)) (call PGM d yM_in [.long ((i9).toInt64), .long 1, .long 9] (hM Z M)) := (ev_eq PGM d yM_widths [43, 129] 400 _).trans rfl
set_option maxRecDepth 100000 in
theorem eM_widths_112 (d : Nat) (Z : ZT) (M : MS) (i1 : Int32) (i2 : Int32) (i3 : Int32) (i4 : Int32) (i5 : Int32) (i6 : Int32) (u7 : Option Value) (i9 : Int32) (k0 : Int32) : sem PGM d yM_widths (112, [some (.ref 91), some (.int i1), some (.int i2), some (.int i3), some (.int i4), some (.int i5), some (.int i6), u7, none, some (.int i9)], [.int k0], (hM Z M)) =
    bif decide (k0 = 0) then sem PGM d yM_widths (43, [some (.ref 91), some (.int i1), some (.int i2), some (.int i3), some (.int i4), some (.int i5), some (.int (i6 + 1)), u7, none, some (.int i9)], [], (hM Z M))
    else bif inb (9 + (3 * i6)) 437 then sem PGM d yM_widths (129, [some (.ref 91), some (.int i1), some (.int i2), some (.int i3), some (.int i4), some (.int i5), some (.int i6), u7, none, some (.int i9)], [], (hM Z (mA M 0 (upd (M.1 0) ((9 + (3 * i6))).toNatClampNeg i9))))
      else none := (ev_eq PGM d yM_widths [43, 129] 400 _).trans rfl
set_option maxRecDepth 100000 in
theorem eM_widths_129 (d : Nat) (Z : ZT) (M : MS) (i1 : Int32) (i2 : Int32) (i3 : Int32) (i4 : Int32) (i5 : Int32) (i6 : Int32) (u7 : Option Value) (u9 : Option Value) : sem PGM d yM_widths (129, [some (.ref 91), some (.int i1), some (.int i2), some (.int i3), some (.int i4), some (.int i5), some (.int i6), u7, none, u9], [], (hM Z M)) =
    sem PGM d yM_widths (43, [some (.ref 91), some (.int i1), some (.int i2), some (.int i3), some (.int i4), some (.int (i5 + 1)), some (.int (i6 + 1)), u7, none, u9], [], (hM Z M)) := (ev_eq PGM d yM_widths [43, 129] 400 _).trans rfl
