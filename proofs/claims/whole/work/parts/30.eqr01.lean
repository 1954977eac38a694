/-! Equations of blocks, by wip/whole/gen/alleq.py. -/
set_option maxRecDepth 100000 in
theorem eR_allOf_0 (d : Nat) (Z : WT) (X : XS) (i1 : Int32) : sem PGM d yR_allOf (0, [some (.ref 14), some (.int i1), none], [], (hR Z X)) =
    aftK (sem PGM d yR_allOf) 1 (5, [some (.ref 14), some (.int i1), none], [], (hR Z X)) (call PGM d yR_oneOf [.ref 14, .int i1] (hR Z X)) := (ev_eq PGM d yR_allOf [12] 400 _).trans rfl
set_option maxRecDepth 100000 in
theorem eR_allOf_5 (d : Nat) (Z : WT) (X : XS) (i1 : Int32) (u2 : Option Value) (k0 : Int32) : sem PGM d yR_allOf (5, [some (.ref 14), some (.int i1), u2], [.int k0], (hR Z X)) =
    bif !decide (k0 = 0) then sem PGM d yR_allOf (12, [some (.ref 14), some (.int i1), some (.int 0)], [], (hR Z X))
    else some (some (.int 0), (hR Z X)) := (ev_eq PGM d yR_allOf [12] 400 _).trans rfl
set_option maxRecDepth 100000 in
theorem eR_allOf_12 (d : Nat) (Z : WT) (X : XS) (i1 : Int32) (i2 : Int32) : sem PGM d yR_allOf (12, [some (.ref 14), some (.int i1), some (.int i2)], [], (hR Z X)) =
    bif decide ((X.2.1 2) ≤ i2) then some (some (.int 1), (hR Z X))
    else aftK (sem PGM d yR_allOf) 1 (27, [some (.ref 14), some (.int i1), some (.int i2)], [], (hR Z X)) (call PGM d yR_passes [.ref 14, .int 10020] (hR Z X)) := (ev_eq PGM d yR_allOf [12] 400 _).trans rfl
set_option maxRecDepth 100000 in
theorem eR_allOf_27 (d : Nat) (Z : WT) (X : XS) (i1 : Int32) (i2 : Int32) (k0 : Int32) : sem PGM d yR_allOf (27, [some (.ref 14), some (.int i1), some (.int i2)], [.int k0], (hR Z X)) =
    bif decide (k0 = 0) then some (some (.int 1), (hR Z X))
    else aftK (sem PGM d yR_allOf) 1 (35, [some (.ref 14), some (.int i1), some (.int i2)], [], (hR Z X)) (call PGM d yR_oneOf [.ref 14, .int i1] (hR Z X)) := (ev_eq PGM d yR_allOf [12] 400 _).trans rfl
set_option maxRecDepth 100000 in
theorem eR_allOf_35 (d : Nat) (Z : WT) (X : XS) (i1 : Int32) (i2 : Int32) (k0 : Int32) : sem PGM d yR_allOf (35, [some (.ref 14), some (.int i1), some (.int i2)], [.int k0], (hR Z X)) =
    bif !decide (k0 = 0) then aftK (sem PGM d yR_allOf) 0 (47, [some (.ref 14), some (.int i1), some (.int i2)], [], (hR Z X)) (call PGM d yR_addStep [.ref 14, .int 3, .int 0, .int 0] (hR Z X))
    else some (some (.int 0), (hR Z X)) := (ev_eq PGM d yR_allOf [12] 400 _).trans rfl
set_option maxRecDepth 100000 in
theorem eR_allOf_47 (d : Nat) (Z : WT) (X : XS) (i1 : Int32) (i2 : Int32) : sem PGM d yR_allOf (47, [some (.ref 14), some (.int i1), some (.int i2)], [], (hR Z X)) =
    sem PGM d yR_allOf (12, [some (.ref 14), some (.int i1), some (.int (i2 + 1))], [], (hR Z X)) := (ev_eq PGM d yR_allOf [12] 400 _).trans rfl
set_option maxRecDepth 100000 in
theorem eR_oneOf_0 (d : Nat) (Z : WT) (X : XS) (i1 : Int32) : sem PGM d yR_oneOf (0, [some (.ref 14), some (.int i1), none, none], [], (hR Z X)) =
    sem PGM d yR_oneOf (4, [some (.ref 14), some (.int i1), some (.int 0), some (.int 0)], [], (hR Z X)) := (ev_eq PGM d yR_oneOf [4] 400 _).trans rfl
set_option maxRecDepth 100000 in
theorem eR_oneOf_4 (d : Nat) (Z : WT) (X : XS) (i1 : Int32) (i2 : Int32) (i3 : Int32) : sem PGM d yR_oneOf (4, [some (.ref 14), some (.int i1), some (.int i2), some (.int i3)], [], (hR Z X)) =
    bif decide ((X.2.1 2) ≤ i3) then aftK (sem PGM d yR_oneOf) 1 (42, [some (.ref 14), some (.int i1), some (.int i2), some (.int i3)], [], (hR Z X)) (call PGM d yR_token [.ref 14] (hR Z X))
    else aftK (sem PGM d yR_oneOf) 1 (19, [some (.ref 14), some (.int i1), some (.int i2), some (.int i3)], [], (hR Z X)) (call PGM d yR_passes [.ref 14, .int 10021] (hR Z X)) := (ev_eq PGM d yR_oneOf [4] 400 _).trans rfl
set_option maxRecDepth 100000 in
theorem eR_oneOf_42 (d : Nat) (Z : WT) (X : XS) (i1 : Int32) (i2 : Int32) (u3 : Option Value) (k0 : Int32) : sem PGM d yR_oneOf (42, [some (.ref 14), some (.int i1), some (.int i2), u3], [.int k0], (hR Z X)) =
    bif !decide (k0 = 20040) then aftK (sem PGM d yR_oneOf) 1 (85, [some (.ref 14), some (.int i1), some (.int i2), u3], [], (hR Z X)) (call PGM d yR_comparison [.ref 14] (hR Z X))
    else bif decide (i1 < 3) then aftK (sem PGM d yR_oneOf) 0 (59, [some (.ref 14), some (.int i1), some (.int i2), u3], [], (hR Z X)) (call PGM d yR_pass [.ref 14] (hR Z X))
      else some (some (.int 0), (hR Z X)) := (ev_eq PGM d yR_oneOf [4] 400 _).trans rfl
set_option maxRecDepth 100000 in
theorem eR_oneOf_19 (d : Nat) (Z : WT) (X : XS) (i1 : Int32) (i2 : Int32) (i3 : Int32) (k0 : Int32) : sem PGM d yR_oneOf (19, [some (.ref 14), some (.int i1), some (.int i2), some (.int i3)], [.int k0], (hR Z X)) =
    bif decide (k0 = 0) then aftK (sem PGM d yR_oneOf) 1 (42, [some (.ref 14), some (.int i1), some (.int i2), some (.int i3)], [], (hR Z X)) (call PGM d yR_token [.ref 14] (hR Z X))
    else bif !decide (i2 = 0) then sem PGM d yR_oneOf (4, [some (.ref 14), some (.int i1), some (.int 0), some (.int (i3 + 1))], [], (hR Z X))
      else sem PGM d yR_oneOf (4, [some (.ref 14), some (.int i1), some (.int 1), some (.int (i3 + 1))], [], (hR Z X)) := (ev_eq PGM d yR_oneOf [4] 400 _).trans rfl
set_option maxRecDepth 100000 in
theorem eR_oneOf_85 (d : Nat) (Z : WT) (X : XS) (i1 : Int32) (i2 : Int32) (u3 : Option Value) (k0 : Int32) : sem PGM d yR_oneOf (85, [some (.ref 14), some (.int i1), some (.int i2), u3], [.int k0], (hR Z X)) =
    bif !decide (k0 = 0) then bif decide (i2 = 0) then some (some (.int 1), (hR Z X))
      else aftK (sem PGM d yR_oneOf) 0 (101, [some (.ref 14), some (.int i1), some (.int i2), u3], [], (hR Z X)) (call PGM d yR_addStep [.ref 14, .int 5, .int 0, .int 0] (hR Z X))
    else some (some (.int 0), (hR Z X)) := (ev_eq PGM d yR_oneOf [4] 400 _).trans rfl
set_option maxRecDepth 100000 in
theorem eR_oneOf_59 (d : Nat) (Z : WT) (X : XS) (i1 : Int32) (i2 : Int32) (u3 : Option Value) : sem PGM d yR_oneOf (59, [some (.ref 14), some (.int i1), some (.int i2), u3], [], (hR Z X)) =
    aftK (sem PGM d yR_oneOf) 1 (66, [some (.ref 14), some (.int i1), some (.int i2), u3], [], (hR Z X)) (call PGM d yR_condition [.ref 14, .int (i1 + 1)] (hR Z X)) := (ev_eq PGM d yR_oneOf [4] 400 _).trans rfl
set_option maxRecDepth 100000 in
theorem eR_oneOf_101 (d : Nat) (Z : WT) (X : XS) (u0 : Option Value) (i1 : Int32) (i2 : Int32) (u3 : Option Value) : sem PGM d yR_oneOf (101, [u0, some (.int i1), some (.int i2), u3], [], (hR Z X)) =
    some (some (.int 1), (hR Z X)) := (ev_eq PGM d yR_oneOf [4] 400 _).trans rfl
set_option maxRecDepth 100000 in
theorem eR_oneOf_66 (d : Nat) (Z : WT) (X : XS) (i1 : Int32) (i2 : Int32) (u3 : Option Value) (k0 : Int32) : sem PGM d yR_oneOf (66, [some (.ref 14), some (.int i1), some (.int i2), u3], [.int k0], (hR Z X)) =
    bif decide (k0 = 0) then some (some (.int 0), (hR Z X))
    else aftK (sem PGM d yR_oneOf) 1 (76, [some (.ref 14), some (.int i1), some (.int i2), u3], [], (hR Z X)) (call PGM d yR_passes [.ref 14, .int 20041] (hR Z X)) := (ev_eq PGM d yR_oneOf [4] 400 _).trans rfl
set_option maxRecDepth 100000 in
theorem eR_oneOf_76 (d : Nat) (Z : WT) (X : XS) (i1 : Int32) (i2 : Int32) (u3 : Option Value) (k0 : Int32) : sem PGM d yR_oneOf (76, [some (.ref 14), some (.int i1), some (.int i2), u3], [.int k0], (hR Z X)) =
    bif !decide (k0 = 0) then bif decide (i2 = 0) then some (some (.int 1), (hR Z X))
      else aftK (sem PGM d yR_oneOf) 0 (101, [some (.ref 14), some (.int i1), some (.int i2), u3], [], (hR Z X)) (call PGM d yR_addStep [.ref 14, .int 5, .int 0, .int 0] (hR Z X))
    else some (some (.int 0), (hR Z X)) := (ev_eq PGM d yR_oneOf [4] 400 _).trans rfl
set_option maxRecDepth 100000 in
theorem eR_comparison_0 (d : Nat) (Z : WT) (X : XS)  : sem PGM d yR_comparison (0, [some (.ref 14), none, none, none], [], (hR Z X)) =
    aftK (sem PGM d yR_comparison) 1 (4, [some (.ref 14), none, none, none], [], (hR Z X)) (call PGM d yR_token [.ref 14] (hR Z X)) := (ev_eq PGM d yR_comparison [] 400 _).trans rfl
set_option maxRecDepth 100000 in
theorem eR_comparison_4 (d : Nat) (Z : WT) (X : XS) (u3 : Option Value) (k0 : Int32) : sem PGM d yR_comparison (4, [some (.ref 14), none, none, u3], [.int k0], (hR Z X)) =
    aftK (sem PGM d yR_comparison) 1 (9, [some (.ref 14), some (.int k0), none, u3], [], (hR Z X)) (call PGM d yR_isValue [.int k0] (hR Z X)) := (ev_eq PGM d yR_comparison [] 400 _).trans rfl
set_option maxRecDepth 100000 in
theorem eR_comparison_9 (d : Nat) (Z : WT) (X : XS) (i1 : Int32) (u3 : Option Value) (k0 : Int32) : sem PGM d yR_comparison (9, [some (.ref 14), some (.int i1), none, u3], [.int k0], (hR Z X)) =
    bif !decide (k0 = 0) then aftK (sem PGM d yR_comparison) 0 (18, [some (.ref 14), some (.int i1), none, u3], [], (hR Z X)) (call PGM d yR_pass [.ref 14] (hR Z X))
    else some (some (.int 0), (hR Z X)) := (ev_eq PGM d yR_comparison [] 400 _).trans rfl
set_option maxRecDepth 100000 in
theorem eR_comparison_18 (d : Nat) (Z : WT) (X : XS) (i1 : Int32) (u3 : Option Value) : sem PGM d yR_comparison (18, [some (.ref 14), some (.int i1), none, u3], [], (hR Z X)) =
    aftK (sem PGM d yR_comparison) 1 (22, [some (.ref 14), some (.int i1), none, u3], [], (hR Z X)) (call PGM d yR_token [.ref 14] (hR Z X)) := (ev_eq PGM d yR_comparison [] 400 _).trans rfl
set_option maxRecDepth 100000 in
theorem eR_comparison_22 (d : Nat) (Z : WT) (X : XS) (i1 : Int32) (u3 : Option Value) (k0 : Int32) : sem PGM d yR_comparison (22, [some (.ref 14), some (.int i1), none, u3], [.int k0], (hR Z X)) =
    bif decide (((k0 - 20000) - 60) < 0) then some (some (.int 0), (hR Z X))
    else bif decide (((k0 - 20000) - 60) ≤ 2) then aftK (sem PGM d yR_comparison) 0 (45, [some (.ref 14), some (.int i1), some (.int ((k0 - 20000) - 60)), u3], [], (hR Z X)) (call PGM d yR_pass [.ref 14] (hR Z X))
      else some (some (.int 0), (hR Z X)) := (ev_eq PGM d yR_comparison [] 400 _).trans rfl
set_option maxRecDepth 100000 in
theorem eR_comparison_45 (d : Nat) (Z : WT) (X : XS) (i1 : Int32) (i2 : Int32) (u3 : Option Value) : sem PGM d yR_comparison (45, [some (.ref 14), some (.int i1), some (.int i2), u3], [], (hR Z X)) =
    aftK (sem PGM d yR_comparison) 1 (49, [some (.ref 14), some (.int i1), some (.int i2), u3], [], (hR Z X)) (call PGM d yR_token [.ref 14] (hR Z X)) := (ev_eq PGM d yR_comparison [] 400 _).trans rfl
set_option maxRecDepth 100000 in
theorem eR_comparison_49 (d : Nat) (Z : WT) (X : XS) (i1 : Int32) (i2 : Int32) (u3 : Option Value) (k0 : Int32) : sem PGM d yR_comparison (49, [some (.ref 14), some (.int i1), some (.int i2), u3], [.int k0], (hR Z X)) =
    aftK (sem PGM d yR_comparison) 1 (54, [some (.ref 14), some (.int i1), some (.int i2), some (.int k0)], [], (hR Z X)) (call PGM d yR_isValue [.int k0] (hR Z X)) := (ev_eq PGM d yR_comparison [] 400 _).trans rfl
set_option maxRecDepth 100000 in
theorem eR_comparison_54 (d : Nat) (Z : WT) (X : XS) (i1 : Int32) (i2 : Int32) (i3 : Int32) (k0 : Int32) : sem PGM d yR_comparison (54, [some (.ref 14), some (.int i1), some (.int i2), some (.int i3)], [.int k0], (hR Z X)) =
    bif !decide (k0 = 0) then aftK (sem PGM d yR_comparison) 0 (63, [some (.ref 14), some (.int i1), some (.int i2), some (.int i3)], [], (hR Z X)) (call PGM d yR_pass [.ref 14] (hR Z X))
    else some (some (.int 0), (hR Z X)) := (ev_eq PGM d yR_comparison [] 400 _).trans rfl
set_option maxRecDepth 100000 in
theorem eR_comparison_63 (d : Nat) (Z : WT) (X : XS) (i1 : Int32) (i2 : Int32) (i3 : Int32) : sem PGM d yR_comparison (63, [some (.ref 14), some (.int i1), some (.int i2), some (.int i3)], [], (hR Z X)) =
    aftK (sem PGM d yR_comparison) 0 (70, [some (.ref 14), some (.int i1), some (.int i2), some (.int i3)], [], (hR Z X)) (call PGM d yR_addStep [.ref 14, .int i2, .int i1, .int i3] (hR Z X)) := (ev_eq PGM d yR_comparison [] 400 _).trans rfl
set_option maxRecDepth 100000 in
theorem eR_comparison_70 (d : Nat) (Z : WT) (X : XS) (i1 : Int32) (i2 : Int32) (u3 : Option Value) : sem PGM d yR_comparison (70, [some (.ref 14), some (.int i1), some (.int i2), u3], [], (hR Z X)) =
    some (some (.int 1), (hR Z X)) := (ev_eq PGM d yR_comparison [] 400 _).trans rfl
set_option maxRecDepth 100000 in
theorem eR_isValue_0 (d : Nat) (Z : WT) (X : XS) (i0 : Int32) : sem PGM d yR_isValue (0, [some (.int i0)], [], (hR Z X)) =
    bif decide (i0 < 0) then some (some (.int 0), (hR Z X))
    else bif decide (10006 ≤ i0) then some (some (.int 0), (hR Z X))
      else some (some (.int 1), (hR Z X)) := (ev_eq PGM d yR_isValue [] 400 _).trans rfl
set_option maxRecDepth 100000 in
theorem eR_addStep_0 (d : Nat) (Z : WT) (X : XS) (i1 : Int32) (i2 : Int32) (i3 : Int32) : sem PGM d yR_addStep (0, [some (.ref 14), some (.int i1), some (.int i2), some (.int i3)], [], (hR Z X)) =
    bif decide ((X.2.1 5) < (nI 200)) then bif inb (X.2.1 5) 200 then sem PGM d yR_addStep (33, [some (.ref 14), some (.int i1), some (.int i2), some (.int i3)], [], (hR Z (xA X 7 (upd (X.1 7) ((X.2.1 5)).toNatClampNeg (((i1 <<< (28 &&& 31)) ||| (i2 <<< (14 &&& 31))) ||| i3)))))
      else none
    else some (none, (hR Z X)) := (ev_eq PGM d yR_addStep [33] 400 _).trans rfl
set_option maxRecDepth 100000 in
theorem eR_addStep_33 (d : Nat) (Z : WT) (X : XS) (u1 : Option Value) (u2 : Option Value) (u3 : Option Value) : sem PGM d yR_addStep (33, [some (.ref 14), u1, u2, u3], [], (hR Z X)) =
    some (none, (hR Z (xV X 5 ((X.2.1 5) + 1)))) := (ev_eq PGM d yR_addStep [33] 400 _).trans rfl
set_option maxRecDepth 100000 in
theorem eR_fault_0 (d : Nat) (Z : WT) (X : XS)  : sem PGM d yR_fault (0, [some (.ref 14)], [], (hR Z X)) =
    bif inb (X.2.1 3) 201 then some (some (.int ((X.1 2) ((X.2.1 3)).toNatClampNeg)), (hR Z X))
    else none := (ev_eq PGM d yR_fault [] 400 _).trans rfl
set_option maxRecDepth 100000 in
theorem eR_lawsRead_0 (d : Nat) (Z : WT) (X : XS)  : sem PGM d yR_lawsRead (0, [some (.ref 14)], [], (hR Z X)) =
    sem PGM d yR_lawsRead (3, [some (.ref 14)], [.ref (List.length (hR Z X))], ((hR Z X) ++ [objOf dfls 1])) := (ev_eq PGM d yR_lawsRead [3, 15, 25, 35] 400 _).trans rfl
set_option maxRecDepth 100000 in
theorem eR_lawsRead_3 (d : Nat) (Z : WT) (X : XS) (q0 : Nat) : sem PGM d yR_lawsRead (3, [some (.ref 14)], [.ref q0], (hR Z X)) =
    bif isI (hR Z X) 18 && Nat.ble 12 18 && true then sem PGM d yR_lawsRead (15, [some (.ref 14)], [.ref (List.length (hR Z X)), .int (X.2.1 4), .ref q0, .ref q0], (cloA (hR Z X) 18))
    else none := (ev_eq PGM d yR_lawsRead [3, 15, 25, 35] 400 _).trans rfl
set_option maxRecDepth 100000 in
theorem eR_lawsRead_15 (d : Nat) (Z : WT) (X : XS) (q0 : Nat) (q1 : Nat) (k2 : Int32) (q3 : Nat) : sem PGM d yR_lawsRead (15, [some (.ref 14)], [.ref q3, .int k2, .ref q1, .ref q0], (hR Z X)) =
    bif isI (hR Z X) q3 && Nat.ble 12 q3 then bif isI (hR Z X) 19 && Nat.ble 12 19 && true then sem PGM d yR_lawsRead (25, [some (.ref 14)], [.ref (List.length (hR Z X)), .ref q3, .int k2, .ref q1, .ref q0], (cloA (hR Z X) 19))
      else none
    else none := (ev_eq PGM d yR_lawsRead [3, 15, 25, 35] 400 _).trans rfl
set_option maxRecDepth 100000 in
theorem eR_lawsRead_25 (d : Nat) (Z : WT) (X : XS) (q0 : Nat) (q1 : Nat) (k2 : Int32) (q3 : Nat) (q4 : Nat) : sem PGM d yR_lawsRead (25, [some (.ref 14)], [.ref q4, .ref q3, .int k2, .ref q1, .ref q0], (hR Z X)) =
    bif isI (hR Z X) q4 && Nat.ble 12 q4 then bif isI (hR Z X) 20 && Nat.ble 12 20 && true then sem PGM d yR_lawsRead (35, [some (.ref 14)], [.ref (List.length (hR Z X)), .ref q4, .ref q3, .int k2, .ref q1, .ref q0], (cloA (hR Z X) 20))
      else none
    else none := (ev_eq PGM d yR_lawsRead [3, 15, 25, 35] 400 _).trans rfl
set_option maxRecDepth 100000 in
theorem eR_lawsRead_35 (d : Nat) (Z : WT) (X : XS) (q0 : Nat) (q1 : Nat) (k2 : Int32) (q3 : Nat) (q4 : Nat) (q5 : Nat) : sem PGM d yR_lawsRead (35, [some (.ref 14)], [.ref q5, .ref q4, .ref q3, .int k2, .ref q1, .ref q0], (hR Z X)) =
    bif isI (hR Z X) q5 && Nat.ble 12 q5 then aftK (sem PGM d yR_lawsRead) 2 (49, [some (.ref 14)], [.ref q5, .ref q4, .ref q3, .int k2, .ref q1, .ref q0], (hR Z X)) (call PGM d yJ_Arrays_copyOf [.ref 21, .int (X.2.1 5)] (hR Z X))
    else none := (ev_eq PGM d yR_lawsRead [3, 15, 25, 35] 400 _).trans rfl
set_option maxRecDepth 100000 in
theorem eR_lawsRead_49 (d : Nat) (Z : WT) (X : XS) (u0 : Option Value) (q0 : Nat) (q1 : Nat) (k2 : Int32) (q3 : Nat) (q4 : Nat) (q5 : Nat) (q6 : Nat) : sem PGM d yR_lawsRead (49, [u0], [.ref q6, .ref q5, .ref q4, .ref q3, .int k2, .ref q1, .ref q0], (hR Z X)) =
    bif Nat.ble 12 q1 && true then aftK (sem PGM d yR_lawsRead) 0 (52, [u0], [.ref q0], (hR Z X)) (call PGM d yL_init [.ref q1, .int k2, .ref q3, .ref q4, .ref q5, .ref q6] (hR Z X))
    else none := (ev_eq PGM d yR_lawsRead [3, 15, 25, 35] 400 _).trans rfl
set_option maxRecDepth 100000 in
theorem eR_lawsRead_52 (d : Nat) (Z : WT) (X : XS) (u0 : Option Value) (q0 : Nat) : sem PGM d yR_lawsRead (52, [u0], [.ref q0], (hR Z X)) =
    bif !(Nat.beq q0 9) then some (some (.ref q0), (hR Z X)) else none := (ev_eq PGM d yR_lawsRead [3, 15, 25, 35] 400 _).trans rfl
set_option maxRecDepth 100000 in
theorem eJ_Arrays_copyOf_0 (d : Nat) (Z : WT) (X : XS) (i1 : Int32) : sem PGM d yJ_Arrays_copyOf (0, [some (.ref 21), some (.int i1), none], [], (hR Z X)) =
    bif !decide (i1 = (nI 200)) then bif small i1 then sem PGM d yJ_Arrays_copyOf (17, [some (.ref 21), some (.int i1), none], [.ref (List.length (hR Z X))], ((hR Z X) ++ [.inl (tyN 0, ints ((i1).toNatClampNeg))]))
      else none
    else bif isI (hR Z X) 21 && Nat.ble 12 21 && true then bif isI (cloA (hR Z X) 21) (List.length (hR Z X)) && Nat.ble 12 (List.length (hR Z X)) then bif !(Nat.beq (List.length (hR Z X)) 9) then some (some (.ref (List.length (hR Z X))), (cloA (hR Z X) 21)) else none
        else none
      else none := (ev_eq PGM d yJ_Arrays_copyOf [17] 400 _).trans rfl
set_option maxRecDepth 100000 in
theorem eJ_Arrays_copyOf_17 (d : Nat) (Z : WT) (X : XS) (i1 : Int32) (u2 : Option Value) (q0 : Nat) : sem PGM d yJ_Arrays_copyOf (17, [some (.ref 21), some (.int i1), u2], [.ref q0], (hR Z X)) =
    bif okCop (hR Z X) 21 q0 0 0 (if i1 < (nI 200) then i1 else (nI 200)) && true then bif !(Nat.beq q0 9) then some (some (.ref q0), (copA (hR Z X) 21 q0 0 0 (if i1 < (nI 200) then i1 else (nI 200)))) else none
    else none := (ev_eq PGM d yJ_Arrays_copyOf [17] 400 _).trans rfl
set_option maxRecDepth 100000 in
theorem eL_holds_0 (d : Nat) (o : Nat) (ho : o = 43 ∨ o = 59) (S : SS) (Z : RT) (r0 : Nat) (i1 : Int32) : sem PGM d yL_holds (0, [some (.ref r0), some (.int i1), some (.ref (o + 15)), none, none, none], [], (hS o S Z)) =
    bif okN (hS o S Z) r0 1 3 then none
    else bif okR (hS o S Z) r0 1 3 then bif inA (hS o S Z) (gR (hS o S Z) r0 3) 0 i1 then bif okN (hS o S Z) r0 1 4 then none
        else bif okR (hS o S Z) r0 1 4 then bif okL (hS o S Z) (gR (hS o S Z) r0 4) then bif !decide (i1 = 0) then bif okN (hS o S Z) r0 1 3 then none
              else bif okR (hS o S Z) r0 1 3 then bif inA (hS o S Z) (gR (hS o S Z) r0 3) 0 (i1 - 1) then sem PGM d yL_holds (36, [some (.ref r0), some (.int i1), some (.ref (o + 15)), some (.int 1), some (.int (if (nI (lenA (hS o S Z) (gR (hS o S Z) r0 4))) < (rA (hS o S Z) (gR (hS o S Z) r0 3) i1) then (nI (lenA (hS o S Z) (gR (hS o S Z) r0 4))) else (rA (hS o S Z) (gR (hS o S Z) r0 3) i1))), some (.int (rA (hS o S Z) (gR (hS o S Z) r0 3) (i1 - 1)))], [], (hS o S Z))
                else none
              else none
            else sem PGM d yL_holds (36, [some (.ref r0), some (.int i1), some (.ref (o + 15)), some (.int 1), some (.int (if (nI (lenA (hS o S Z) (gR (hS o S Z) r0 4))) < (rA (hS o S Z) (gR (hS o S Z) r0 3) i1) then (nI (lenA (hS o S Z) (gR (hS o S Z) r0 4))) else (rA (hS o S Z) (gR (hS o S Z) r0 3) i1))), some (.int 0)], [], (hS o S Z))
          else none
        else none
      else none
    else none := by rcases ho with rfl | rfl <;> exact (ev_eq PGM d yL_holds [36] 400 _).trans rfl
set_option maxRecDepth 100000 in
theorem eL_holds_36 (d : Nat) (o : Nat) (ho : o = 43 ∨ o = 59) (S : SS) (Z : RT) (r0 : Nat) (u1 : Option Value) (i3 : Int32) (i4 : Int32) (i5 : Int32) : sem PGM d yL_holds (36, [some (.ref r0), u1, some (.ref (o + 15)), some (.int i3), some (.int i4), some (.int i5)], [], (hS o S Z)) =
    bif decide (i4 ≤ i5) then bif !decide ((i3 &&& 1) = 1) then some (some (.int 0), (hS o S Z))
      else some (some (.int 1), (hS o S Z))
    else bif okN (hS o S Z) r0 1 4 then none
      else bif okR (hS o S Z) r0 1 4 then bif inA (hS o S Z) (gR (hS o S Z) r0 4) 0 i5 then aftK (sem PGM d yL_holds) 1 (55, [some (.ref r0), u1, some (.ref (o + 15)), some (.int i3), some (.int i4), some (.int i5)], [], (hS o S Z)) (call PGM d yL_after [.int (rA (hS o S Z) (gR (hS o S Z) r0 4) i5), .int i3, .ref (o + 15)] (hS o S Z))
        else none
      else none := by rcases ho with rfl | rfl <;> exact (ev_eq PGM d yL_holds [36] 400 _).trans rfl
set_option maxRecDepth 100000 in
theorem eL_holds_55 (d : Nat) (o : Nat) (ho : o = 43 ∨ o = 59) (S : SS) (Z : RT) (r0 : Nat) (u1 : Option Value) (i3 : Int32) (i4 : Int32) (i5 : Int32) (k0 : Int32) : sem PGM d yL_holds (55, [some (.ref r0), u1, some (.ref (o + 15)), some (.int i3), some (.int i4), some (.int i5)], [.int k0], (hS o S Z)) =
    sem PGM d yL_holds (36, [some (.ref r0), u1, some (.ref (o + 15)), some (.int k0), some (.int i4), some (.int (i5 + 1))], [], (hS o S Z)) := by rcases ho with rfl | rfl <;> exact (ev_eq PGM d yL_holds [36] 400 _).trans rfl
set_option maxRecDepth 100000 in
theorem eL_after_0 (d : Nat) (o : Nat) (ho : o = 43 ∨ o = 59) (S : SS) (Z : RT) (i0 : Int32) (i1 : Int32) : sem PGM d yL_after (0, [some (.int i0), some (.int i1), some (.ref (o + 15)), none, none, none, none], [], (hS o S Z)) =
    bif !decide ((((i0).toUInt32 >>> (((28 : Int32)).toUInt32 &&& Int32.toUInt32 31)).toInt32) = 5) then bif !decide ((((i0).toUInt32 >>> (((28 : Int32)).toUInt32 &&& Int32.toUInt32 31)).toInt32) = 3) then bif !decide ((((i0).toUInt32 >>> (((28 : Int32)).toUInt32 &&& Int32.toUInt32 31)).toInt32) = 4) then aftK (sem PGM d yL_after) 1 (53, [some (.int i0), some (.int i1), some (.ref (o + 15)), some (.int (((i0).toUInt32 >>> (((28 : Int32)).toUInt32 &&& Int32.toUInt32 31)).toInt32)), none, none, none], [], (hS o S Z)) (call PGM d yL_valueOf [.int ((((i0).toUInt32 >>> (((14 : Int32)).toUInt32 &&& Int32.toUInt32 31)).toInt32) &&& 16383), .ref (o + 15)] (hS o S Z))
        else some (some (.int ((((i1).toUInt32 >>> (((1 : Int32)).toUInt32 &&& Int32.toUInt32 31)).toInt32) ||| (i1 &&& 1))), (hS o S Z))
      else some (some (.int ((((i1).toUInt32 >>> (((1 : Int32)).toUInt32 &&& Int32.toUInt32 31)).toInt32) &&& (i1 ||| (-2)))), (hS o S Z))
    else some (some (.int (i1 ^^^ 1)), (hS o S Z)) := by rcases ho with rfl | rfl <;> exact (ev_eq PGM d yL_after [] 400 _).trans rfl
set_option maxRecDepth 100000 in
theorem eL_after_53 (d : Nat) (o : Nat) (ho : o = 43 ∨ o = 59) (S : SS) (Z : RT) (i0 : Int32) (i1 : Int32) (i3 : Int32) (u6 : Option Value) (k0 : Int32) : sem PGM d yL_after (53, [some (.int i0), some (.int i1), some (.ref (o + 15)), some (.int i3), none, none, u6], [.int k0], (hS o S Z)) =
    aftK (sem PGM d yL_after) 1 (64, [some (.int i0), some (.int i1), some (.ref (o + 15)), some (.int i3), some (.int k0), none, u6], [], (hS o S Z)) (call PGM d yL_valueOf [.int (i0 &&& 16383), .ref (o + 15)] (hS o S Z)) := by rcases ho with rfl | rfl <;> exact (ev_eq PGM d yL_after [] 400 _).trans rfl
set_option maxRecDepth 100000 in
theorem eL_after_64 (d : Nat) (o : Nat) (ho : o = 43 ∨ o = 59) (S : SS) (Z : RT) (u0 : Option Value) (i1 : Int32) (i3 : Int32) (i4 : Int32) (u6 : Option Value) (k0 : Int32) : sem PGM d yL_after (64, [u0, some (.int i1), some (.ref (o + 15)), some (.int i3), some (.int i4), none, u6], [.int k0], (hS o S Z)) =
    bif !decide (i3 = 0) then bif !decide (i3 = 1) then bif decide (i4 ≤ k0) then some (some (.int ((i1 <<< (1 &&& 31)) ||| 0)), (hS o S Z))
        else some (some (.int ((i1 <<< (1 &&& 31)) ||| 1)), (hS o S Z))
      else bif !decide (i4 = k0) then some (some (.int ((i1 <<< (1 &&& 31)) ||| 0)), (hS o S Z))
        else some (some (.int ((i1 <<< (1 &&& 31)) ||| 1)), (hS o S Z))
    else bif decide (k0 ≤ i4) then some (some (.int ((i1 <<< (1 &&& 31)) ||| 0)), (hS o S Z))
      else some (some (.int ((i1 <<< (1 &&& 31)) ||| 1)), (hS o S Z)) := by rcases ho with rfl | rfl <;> exact (ev_eq PGM d yL_after [] 400 _).trans rfl
set_option maxRecDepth 100000 in
theorem eL_valueOf_0 (d : Nat) (o : Nat) (ho : o = 43 ∨ o = 59) (S : SS) (Z : RT) (i0 : Int32) : sem PGM d yL_valueOf (0, [some (.int i0), some (.ref (o + 15)), none], [], (hS o S Z)) =
    bif decide ((i0 - 10000) < 0) then some (some (.int i0), (hS o S Z))
    else bif decide ((nI 6) ≤ (i0 - 10000)) then some (some (.int i0), (hS o S Z))
      else bif inb (i0 - 10000) 6 then some (some (.int ((S.1 13) ((i0 - 10000)).toNatClampNeg)), (hS o S Z))
        else none := by rcases ho with rfl | rfl <;> exact (ev_eq PGM d yL_valueOf [] 400 _).trans rfl
set_option maxRecDepth 100000 in
theorem eJ_Math_max_0 (d : Nat) (h : AH) (i0 : Int32) (i1 : Int32) : sem PGM d yJ_Math_max (0, [some (.int i0), some (.int i1)], [], h) =
    bif decide (i0 < i1) then some (some (.int i1), h)
    else some (some (.int i0), h) := (ev_eq PGM d yJ_Math_max [] 400 _).trans rfl
set_option maxRecDepth 100000 in
theorem eW_add_22_0 (d : Nat) (Z : WT) (X : XS) (i1 : Int32) (i2 : Int32) (i3 : Int32) : sem PGM d yW_add (0, [some (.ref 22), some (.int i1), some (.int i2), some (.int i3)], [], (hR Z X)) =
    bif decide ((X.2.1 6) < 24) then bif inb (X.2.1 6) 24 then sem PGM d yW_add (22, [some (.ref 22), some (.int i1), some (.int i2), some (.int i3)], [], (hR Z (xA X 8 (upd (X.1 8) ((X.2.1 6)).toNatClampNeg i1))))
      else none
    else some (none, (hR Z X)) := (ev_eq PGM d yW_add [22, 34, 46] 400 _).trans rfl
set_option maxRecDepth 100000 in
theorem eW_add_22_22 (d : Nat) (Z : WT) (X : XS) (u1 : Option Value) (i2 : Int32) (i3 : Int32) : sem PGM d yW_add (22, [some (.ref 22), u1, some (.int i2), some (.int i3)], [], (hR Z X)) =
    bif inb (X.2.1 6) 24 then sem PGM d yW_add (34, [some (.ref 22), u1, some (.int i2), some (.int i3)], [], (hR Z (xA X 9 (upd (X.1 9) ((X.2.1 6)).toNatClampNeg i2))))
    else none := (ev_eq PGM d yW_add [22, 34, 46] 400 _).trans rfl
set_option maxRecDepth 100000 in
theorem eW_add_22_34 (d : Nat) (Z : WT) (X : XS) (u1 : Option Value) (u2 : Option Value) (i3 : Int32) : sem PGM d yW_add (34, [some (.ref 22), u1, u2, some (.int i3)], [], (hR Z X)) =
    bif inb (X.2.1 6) 24 then sem PGM d yW_add (46, [some (.ref 22), u1, u2, some (.int i3)], [], (hR Z (xA X 10 (upd (X.1 10) ((X.2.1 6)).toNatClampNeg i3))))
    else none := (ev_eq PGM d yW_add [22, 34, 46] 400 _).trans rfl
set_option maxRecDepth 100000 in
theorem eW_add_22_46 (d : Nat) (Z : WT) (X : XS) (u1 : Option Value) (u2 : Option Value) (u3 : Option Value) : sem PGM d yW_add (46, [some (.ref 22), u1, u2, u3], [], (hR Z X)) =
    some (none, (hR Z (xV X 6 ((X.2.1 6) + 1)))) := (ev_eq PGM d yW_add [22, 34, 46] 400 _).trans rfl
set_option maxRecDepth 100000 in
theorem eW_add_27_0 (d : Nat) (Z : WT) (X : XS) (i1 : Int32) (i2 : Int32) (i3 : Int32) : sem PGM d yW_add (0, [some (.ref 27), some (.int i1), some (.int i2), some (.int i3)], [], (hR Z X)) =
    bif decide ((X.2.1 7) < 24) then bif inb (X.2.1 7) 24 then sem PGM d yW_add (22, [some (.ref 27), some (.int i1), some (.int i2), some (.int i3)], [], (hR Z (xA X 11 (upd (X.1 11) ((X.2.1 7)).toNatClampNeg i1))))
      else none
    else some (none, (hR Z X)) := (ev_eq PGM d yW_add [22, 34, 46] 400 _).trans rfl
set_option maxRecDepth 100000 in
theorem eW_add_27_22 (d : Nat) (Z : WT) (X : XS) (u1 : Option Value) (i2 : Int32) (i3 : Int32) : sem PGM d yW_add (22, [some (.ref 27), u1, some (.int i2), some (.int i3)], [], (hR Z X)) =
    bif inb (X.2.1 7) 24 then sem PGM d yW_add (34, [some (.ref 27), u1, some (.int i2), some (.int i3)], [], (hR Z (xA X 12 (upd (X.1 12) ((X.2.1 7)).toNatClampNeg i2))))
    else none := (ev_eq PGM d yW_add [22, 34, 46] 400 _).trans rfl
set_option maxRecDepth 100000 in
theorem eW_add_27_34 (d : Nat) (Z : WT) (X : XS) (u1 : Option Value) (u2 : Option Value) (i3 : Int32) : sem PGM d yW_add (34, [some (.ref 27), u1, u2, some (.int i3)], [], (hR Z X)) =
    bif inb (X.2.1 7) 24 then sem PGM d yW_add (46, [some (.ref 27), u1, u2, some (.int i3)], [], (hR Z (xA X 13 (upd (X.1 13) ((X.2.1 7)).toNatClampNeg i3))))
    else none := (ev_eq PGM d yW_add [22, 34, 46] 400 _).trans rfl
set_option maxRecDepth 100000 in
theorem eW_add_27_46 (d : Nat) (Z : WT) (X : XS) (u1 : Option Value) (u2 : Option Value) (u3 : Option Value) : sem PGM d yW_add (46, [some (.ref 27), u1, u2, u3], [], (hR Z X)) =
    some (none, (hR Z (xV X 7 ((X.2.1 7) + 1)))) := (ev_eq PGM d yW_add [22, 34, 46] 400 _).trans rfl
set_option maxRecDepth 100000 in
theorem eJ_Integer_bitCount_0 (d : Nat) (h : AH) (i0 : Int32) : sem PGM d yJ_Integer_bitCount (0, [some (.int i0)], [], h) =
    some (some (.int ((((((((i0 - ((((i0).toUInt32 >>> (((1 : Int32)).toUInt32 &&& Int32.toUInt32 31)).toInt32) &&& 1431655765)) &&& 858993459) + (((((i0 - ((((i0).toUInt32 >>> (((1 : Int32)).toUInt32 &&& Int32.toUInt32 31)).toInt32) &&& 1431655765))).toUInt32 >>> (((2 : Int32)).toUInt32 &&& Int32.toUInt32 31)).toInt32) &&& 858993459)) + ((((((i0 - ((((i0).toUInt32 >>> (((1 : Int32)).toUInt32 &&& Int32.toUInt32 31)).toInt32) &&& 1431655765)) &&& 858993459) + (((((i0 - ((((i0).toUInt32 >>> (((1 : Int32)).toUInt32 &&& Int32.toUInt32 31)).toInt32) &&& 1431655765))).toUInt32 >>> (((2 : Int32)).toUInt32 &&& Int32.toUInt32 31)).toInt32) &&& 858993459))).toUInt32 >>> (((4 : Int32)).toUInt32 &&& Int32.toUInt32 31)).toInt32)) &&& 252645135) + ((((((((i0 - ((((i0).toUInt32 >>> (((1 : Int32)).toUInt32 &&& Int32.toUInt32 31)).toInt32) &&& 1431655765)) &&& 858993459) + (((((i0 - ((((i0).toUInt32 >>> (((1 : Int32)).toUInt32 &&& Int32.toUInt32 31)).toInt32) &&& 1431655765))).toUInt32 >>> (((2 : Int32)).toUInt32 &&& Int32.toUInt32 31)).toInt32) &&& 858993459)) + ((((((i0 - ((((i0).toUInt32 >>> (((1 : Int32)).toUInt32 &&& Int32.toUInt32 31)).toInt32) &&& 1431655765)) &&& 858993459) + (((((i0 - ((((i0).toUInt32 >>> (((1 : Int32)).toUInt32 &&& Int32.toUInt32 31)).toInt32) &&& 1431655765))).toUInt32 >>> (((2 : Int32)).toUInt32 &&& Int32.toUInt32 31)).toInt32) &&& 858993459))).toUInt32 >>> (((4 : Int32)).toUInt32 &&& Int32.toUInt32 31)).toInt32)) &&& 252645135)).toUInt32 >>> (((8 : Int32)).toUInt32 &&& Int32.toUInt32 31)).toInt32)) + (((((((((i0 - ((((i0).toUInt32 >>> (((1 : Int32)).toUInt32 &&& Int32.toUInt32 31)).toInt32) &&& 1431655765)) &&& 858993459) + (((((i0 - ((((i0).toUInt32 >>> (((1 : Int32)).toUInt32 &&& Int32.toUInt32 31)).toInt32) &&& 1431655765))).toUInt32 >>> (((2 : Int32)).toUInt32 &&& Int32.toUInt32 31)).toInt32) &&& 858993459)) + ((((((i0 - ((((i0).toUInt32 >>> (((1 : Int32)).toUInt32 &&& Int32.toUInt32 31)).toInt32) &&& 1431655765)) &&& 858993459) + (((((i0 - ((((i0).toUInt32 >>> (((1 : Int32)).toUInt32 &&& Int32.toUInt32 31)).toInt32) &&& 1431655765))).toUInt32 >>> (((2 : Int32)).toUInt32 &&& Int32.toUInt32 31)).toInt32) &&& 858993459))).toUInt32 >>> (((4 : Int32)).toUInt32 &&& Int32.toUInt32 31)).toInt32)) &&& 252645135) + ((((((((i0 - ((((i0).toUInt32 >>> (((1 : Int32)).toUInt32 &&& Int32.toUInt32 31)).toInt32) &&& 1431655765)) &&& 858993459) + (((((i0 - ((((i0).toUInt32 >>> (((1 : Int32)).toUInt32 &&& Int32.toUInt32 31)).toInt32) &&& 1431655765))).toUInt32 >>> (((2 : Int32)).toUInt32 &&& Int32.toUInt32 31)).toInt32) &&& 858993459)) + ((((((i0 - ((((i0).toUInt32 >>> (((1 : Int32)).toUInt32 &&& Int32.toUInt32 31)).toInt32) &&& 1431655765)) &&& 858993459) + (((((i0 - ((((i0).toUInt32 >>> (((1 : Int32)).toUInt32 &&& Int32.toUInt32 31)).toInt32) &&& 1431655765))).toUInt32 >>> (((2 : Int32)).toUInt32 &&& Int32.toUInt32 31)).toInt32) &&& 858993459))).toUInt32 >>> (((4 : Int32)).toUInt32 &&& Int32.toUInt32 31)).toInt32)) &&& 252645135)).toUInt32 >>> (((8 : Int32)).toUInt32 &&& Int32.toUInt32 31)).toInt32))).toUInt32 >>> (((16 : Int32)).toUInt32 &&& Int32.toUInt32 31)).toInt32)) &&& 63)), h) := (ev_eq PGM d yJ_Integer_bitCount [] 400 _).trans rfl
set_option maxRecDepth 100000 in
theorem eW_has_22_0 (d : Nat) (Z : WT) (X : XS) (i1 : Int32) (i2 : Int32) : sem PGM d yW_has (0, [some (.ref 22), some (.int i1), some (.int i2)], [], (hR Z X)) =
    bif decide (i1 < 0) then some (some (.int 0), (hR Z X))
    else bif decide ((X.2.1 6) ≤ i1) then some (some (.int 0), (hR Z X))
      else bif decide (i2 < 0) then some (some (.int 0), (hR Z X))
        else bif decide ((nI 3) ≤ i2) then some (some (.int 0), (hR Z X))
          else some (some (.int 1), (hR Z X)) := (ev_eq PGM d yW_has [] 400 _).trans rfl
set_option maxRecDepth 100000 in
theorem eW_has_27_0 (d : Nat) (Z : WT) (X : XS) (i1 : Int32) (i2 : Int32) : sem PGM d yW_has (0, [some (.ref 27), some (.int i1), some (.int i2)], [], (hR Z X)) =
    bif decide (i1 < 0) then some (some (.int 0), (hR Z X))
    else bif decide ((X.2.1 7) ≤ i1) then some (some (.int 0), (hR Z X))
      else bif decide (i2 < 0) then some (some (.int 0), (hR Z X))
        else bif decide ((nI 3) ≤ i2) then some (some (.int 0), (hR Z X))
          else some (some (.int 1), (hR Z X)) := (ev_eq PGM d yW_has [] 400 _).trans rfl
set_option maxRecDepth 100000 in
theorem eW_sameAt_22_0 (d : Nat) (Z : WT) (X : XS) (i1 : Int32) : sem PGM d yW_sameAt (0, [some (.ref 22), some (.int i1), some (.ref 27), none], [], (hR Z X)) =
    bif decide ((X.2.1 6) ≤ i1) then some (some (.int 0), (hR Z X))
    else bif decide (i1 < (X.2.1 7)) then sem PGM d yW_sameAt (20, [some (.ref 22), some (.int i1), some (.ref 27), some (.int 0)], [], (hR Z X))
      else some (some (.int 0), (hR Z X)) := (ev_eq PGM d yW_sameAt [20] 400 _).trans rfl
set_option maxRecDepth 100000 in
theorem eW_sameAt_22_20 (d : Nat) (Z : WT) (X : XS) (i1 : Int32) (i3 : Int32) : sem PGM d yW_sameAt (20, [some (.ref 22), some (.int i1), some (.ref 27), some (.int i3)], [], (hR Z X)) =
    bif decide ((nI 3) ≤ i3) then some (some (.int 1), (hR Z X))
    else bif decide (i3 = nI 0) && true && true && true then bif inb i1 24 then bif decide (i3 = nI 0) && true && true && true then bif inb i1 24 then bif decide (((X.1 8) (i1).toNatClampNeg) = ((X.1 11) (i1).toNatClampNeg)) then sem PGM d yW_sameAt (20, [some (.ref 22), some (.int i1), some (.ref 27), some (.int (i3 + 1))], [], (hR Z X))
              else some (some (.int 0), (hR Z X))
            else none
          else bif decide (i3 = nI 1) && true && true && true then bif inb i1 24 then bif decide (((X.1 8) (i1).toNatClampNeg) = ((X.1 12) (i1).toNatClampNeg)) then sem PGM d yW_sameAt (20, [some (.ref 22), some (.int i1), some (.ref 27), some (.int (i3 + 1))], [], (hR Z X))
              else some (some (.int 0), (hR Z X))
            else none
          else bif decide (i3 = nI 2) && true && true && true then bif inb i1 24 then bif decide (((X.1 8) (i1).toNatClampNeg) = ((X.1 13) (i1).toNatClampNeg)) then sem PGM d yW_sameAt (20, [some (.ref 22), some (.int i1), some (.ref 27), some (.int (i3 + 1))], [], (hR Z X))
              else some (some (.int 0), (hR Z X))
            else none
          else none
        else none
      else bif decide (i3 = nI 1) && true && true && true then bif inb i1 24 then bif decide (i3 = nI 0) && true && true && true then bif inb i1 24 then bif decide (((X.1 9) (i1).toNatClampNeg) = ((X.1 11) (i1).toNatClampNeg)) then sem PGM d yW_sameAt (20, [some (.ref 22), some (.int i1), some (.ref 27), some (.int (i3 + 1))], [], (hR Z X))
              else some (some (.int 0), (hR Z X))
            else none
          else bif decide (i3 = nI 1) && true && true && true then bif inb i1 24 then bif decide (((X.1 9) (i1).toNatClampNeg) = ((X.1 12) (i1).toNatClampNeg)) then sem PGM d yW_sameAt (20, [some (.ref 22), some (.int i1), some (.ref 27), some (.int (i3 + 1))], [], (hR Z X))
              else some (some (.int 0), (hR Z X))
            else none
          else bif decide (i3 = nI 2) && true && true && true then bif inb i1 24 then bif decide (((X.1 9) (i1).toNatClampNeg) = ((X.1 13) (i1).toNatClampNeg)) then sem PGM d yW_sameAt (20, [some (.ref 22), some (.int i1), some (.ref 27), some (.int (i3 + 1))], [], (hR Z X))
              else some (some (.int 0), (hR Z X))
            else none
          else none
        else none
      else bif decide (i3 = nI 2) && true && true && true then bif inb i1 24 then bif decide (i3 = nI 0) && true && true && true then bif inb i1 24 then bif decide (((X.1 10) (i1).toNatClampNeg) = ((X.1 11) (i1).toNatClampNeg)) then sem PGM d yW_sameAt (20, [some (.ref 22), some (.int i1), some (.ref 27), some (.int (i3 + 1))], [], (hR Z X))
              else some (some (.int 0), (hR Z X))
            else none
          else bif decide (i3 = nI 1) && true && true && true then bif inb i1 24 then bif decide (((X.1 10) (i1).toNatClampNeg) = ((X.1 12) (i1).toNatClampNeg)) then sem PGM d yW_sameAt (20, [some (.ref 22), some (.int i1), some (.ref 27), some (.int (i3 + 1))], [], (hR Z X))
              else some (some (.int 0), (hR Z X))
            else none
          else bif decide (i3 = nI 2) && true && true && true then bif inb i1 24 then bif decide (((X.1 10) (i1).toNatClampNeg) = ((X.1 13) (i1).toNatClampNeg)) then sem PGM d yW_sameAt (20, [some (.ref 22), some (.int i1), some (.ref 27), some (.int (i3 + 1))], [], (hR Z X))
              else some (some (.int 0), (hR Z X))
            else none
          else none
        else none
      else none := (ev_eq PGM d yW_sameAt [20] 400 _).trans rfl
set_option maxRecDepth 100000 in
theorem eW_sameAt_27_0 (d : Nat) (Z : WT) (X : XS) (i1 : Int32) : sem PGM d yW_sameAt (0, [some (.ref 27), some (.int i1), some (.ref 27), none], [], (hR Z X)) =
    bif decide ((X.2.1 7) ≤ i1) then some (some (.int 0), (hR Z X))
    else bif decide (i1 < (X.2.1 7)) then sem PGM d yW_sameAt (20, [some (.ref 27), some (.int i1), some (.ref 27), some (.int 0)], [], (hR Z X))
      else some (some (.int 0), (hR Z X)) := (ev_eq PGM d yW_sameAt [20] 400 _).trans rfl
set_option maxRecDepth 100000 in
theorem eW_sameAt_27_20 (d : Nat) (Z : WT) (X : XS) (i1 : Int32) (i3 : Int32) : sem PGM d yW_sameAt (20, [some (.ref 27), some (.int i1), some (.ref 27), some (.int i3)], [], (hR Z X)) =
    bif decide ((nI 3) ≤ i3) then some (some (.int 1), (hR Z X))
    else bif decide (i3 = nI 0) && true && true && true then bif inb i1 24 then bif decide (i3 = nI 0) && true && true && true then bif inb i1 24 then bif decide (((X.1 11) (i1).toNatClampNeg) = ((X.1 11) (i1).toNatClampNeg)) then sem PGM d yW_sameAt (20, [some (.ref 27), some (.int i1), some (.ref 27), some (.int (i3 + 1))], [], (hR Z X))
              else some (some (.int 0), (hR Z X))
            else none
          else bif decide (i3 = nI 1) && true && true && true then bif inb i1 24 then bif decide (((X.1 11) (i1).toNatClampNeg) = ((X.1 12) (i1).toNatClampNeg)) then sem PGM d yW_sameAt (20, [some (.ref 27), some (.int i1), some (.ref 27), some (.int (i3 + 1))], [], (hR Z X))
              else some (some (.int 0), (hR Z X))
            else none
          else bif decide (i3 = nI 2) && true && true && true then bif inb i1 24 then bif decide (((X.1 11) (i1).toNatClampNeg) = ((X.1 13) (i1).toNatClampNeg)) then sem PGM d yW_sameAt (20, [some (.ref 27), some (.int i1), some (.ref 27), some (.int (i3 + 1))], [], (hR Z X))
              else some (some (.int 0), (hR Z X))
            else none
          else none
        else none
      else bif decide (i3 = nI 1) && true && true && true then bif inb i1 24 then bif decide (i3 = nI 0) && true && true && true then bif inb i1 24 then bif decide (((X.1 12) (i1).toNatClampNeg) = ((X.1 11) (i1).toNatClampNeg)) then sem PGM d yW_sameAt (20, [some (.ref 27), some (.int i1), some (.ref 27), some (.int (i3 + 1))], [], (hR Z X))
              else some (some (.int 0), (hR Z X))
            else none
          else bif decide (i3 = nI 1) && true && true && true then bif inb i1 24 then bif decide (((X.1 12) (i1).toNatClampNeg) = ((X.1 12) (i1).toNatClampNeg)) then sem PGM d yW_sameAt (20, [some (.ref 27), some (.int i1), some (.ref 27), some (.int (i3 + 1))], [], (hR Z X))
              else some (some (.int 0), (hR Z X))
            else none
          else bif decide (i3 = nI 2) && true && true && true then bif inb i1 24 then bif decide (((X.1 12) (i1).toNatClampNeg) = ((X.1 13) (i1).toNatClampNeg)) then sem PGM d yW_sameAt (20, [some (.ref 27), some (.int i1), some (.ref 27), some (.int (i3 + 1))], [], (hR Z X))
              else some (some (.int 0), (hR Z X))
            else none
          else none
        else none
      else bif decide (i3 = nI 2) && true && true && true then bif inb i1 24 then bif decide (i3 = nI 0) && true && true && true then bif inb i1 24 then bif decide (((X.1 13) (i1).toNatClampNeg) = ((X.1 11) (i1).toNatClampNeg)) then sem PGM d yW_sameAt (20, [some (.ref 27), some (.int i1), some (.ref 27), some (.int (i3 + 1))], [], (hR Z X))
              else some (some (.int 0), (hR Z X))
            else none
          else bif decide (i3 = nI 1) && true && true && true then bif inb i1 24 then bif decide (((X.1 13) (i1).toNatClampNeg) = ((X.1 12) (i1).toNatClampNeg)) then sem PGM d yW_sameAt (20, [some (.ref 27), some (.int i1), some (.ref 27), some (.int (i3 + 1))], [], (hR Z X))
              else some (some (.int 0), (hR Z X))
            else none
          else bif decide (i3 = nI 2) && true && true && true then bif inb i1 24 then bif decide (((X.1 13) (i1).toNatClampNeg) = ((X.1 13) (i1).toNatClampNeg)) then sem PGM d yW_sameAt (20, [some (.ref 27), some (.int i1), some (.ref 27), some (.int (i3 + 1))], [], (hR Z X))
              else some (some (.int 0), (hR Z X))
            else none
          else none
        else none
      else none := (ev_eq PGM d yW_sameAt [20] 400 _).trans rfl
