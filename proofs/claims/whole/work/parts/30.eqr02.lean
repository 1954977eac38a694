/-! Equations of blocks, by wip/whole/gen/alleq.py. -/
set_option maxRecDepth 100000 in
theorem eH_has_0 (d : Nat) (h : AH) (r0 : Nat) (i1 : Int32) : sem PGM d yH_has (0, [some (.ref r0), some (.int i1)], [], h) =
    bif decide (i1 < 0) then some (some (.int 0), h)
    else bif okN h r0 4 1 then none
      else bif okR h r0 4 1 then bif okL h (gR h r0 1) then bif decide ((nI (lenA h (gR h r0 1))) ≤ i1) then some (some (.int 0), h)
          else some (some (.int 1), h)
        else none
      else none := (ev_eq PGM d yH_has [] 400 _).trans rfl
set_option maxRecDepth 100000 in
theorem eH_narrowed_0 (d : Nat) (h : AH) (r0 : Nat) (i1 : Int32) : sem PGM d yH_narrowed (0, [some (.ref r0), some (.int i1)], [], h) =
    bif okI h r0 4 0 then bif !decide ((gI h r0 0) = 0) then bif okI h r0 4 0 then bif !decide ((gI h r0 0) = 1) then bif okI h r0 4 0 then bif !decide ((gI h r0 0) = 4) then some (some (.int i1), h)
              else bif decide (i1 = 0) then some (some (.int 0), h)
                else some (some (.int 1), h)
            else none
          else some (some (.int ((i1).toInt16.toInt32)), h)
        else none
      else some (some (.int ((i1).toInt8.toInt32)), h)
    else none := (ev_eq PGM d yH_narrowed [] 400 _).trans rfl
set_option maxRecDepth 100000 in
theorem eD_answer_0 (d : Nat) (Z : WT) (X : XS) (i1 : Int32) (i2 : Int32) (i3 : Int32) (i4 : Int32) (i5 : Int32) : sem PGM d yD_answer (0, [some (.ref 36), some (.int i1), some (.int i2), some (.int i3), some (.int i4), some (.int i5), none], [], (hR Z X)) =
    sem PGM d yD_answer (5, [some (.ref 36), some (.int i1), some (.int i2), some (.int i3), some (.int i4), some (.int i5), none], [], (hR Z (xV X 9 i1))) := (ev_eq PGM d yD_answer [5, 10, 15, 20, 25] 400 _).trans rfl
set_option maxRecDepth 100000 in
theorem eD_answer_5 (d : Nat) (Z : WT) (X : XS) (u1 : Option Value) (i2 : Int32) (i3 : Int32) (i4 : Int32) (i5 : Int32) (u6 : Option Value) : sem PGM d yD_answer (5, [some (.ref 36), u1, some (.int i2), some (.int i3), some (.int i4), some (.int i5), u6], [], (hR Z X)) =
    sem PGM d yD_answer (10, [some (.ref 36), u1, some (.int i2), some (.int i3), some (.int i4), some (.int i5), u6], [], (hR Z (xV X 10 i2))) := (ev_eq PGM d yD_answer [5, 10, 15, 20, 25] 400 _).trans rfl
set_option maxRecDepth 100000 in
theorem eD_answer_10 (d : Nat) (Z : WT) (X : XS) (u1 : Option Value) (u2 : Option Value) (i3 : Int32) (i4 : Int32) (i5 : Int32) (u6 : Option Value) : sem PGM d yD_answer (10, [some (.ref 36), u1, u2, some (.int i3), some (.int i4), some (.int i5), u6], [], (hR Z X)) =
    sem PGM d yD_answer (15, [some (.ref 36), u1, u2, some (.int i3), some (.int i4), some (.int i5), u6], [], (hR Z (xV X 11 i3))) := (ev_eq PGM d yD_answer [5, 10, 15, 20, 25] 400 _).trans rfl
set_option maxRecDepth 100000 in
theorem eD_answer_15 (d : Nat) (Z : WT) (X : XS) (u1 : Option Value) (u2 : Option Value) (u3 : Option Value) (i4 : Int32) (i5 : Int32) (u6 : Option Value) : sem PGM d yD_answer (15, [some (.ref 36), u1, u2, u3, some (.int i4), some (.int i5), u6], [], (hR Z X)) =
    sem PGM d yD_answer (20, [some (.ref 36), u1, u2, u3, some (.int i4), some (.int i5), u6], [], (hR Z (xV X 8 0))) := (ev_eq PGM d yD_answer [5, 10, 15, 20, 25] 400 _).trans rfl
set_option maxRecDepth 100000 in
theorem eD_answer_20 (d : Nat) (Z : WT) (X : XS) (u1 : Option Value) (u2 : Option Value) (u3 : Option Value) (i4 : Int32) (i5 : Int32) (u6 : Option Value) : sem PGM d yD_answer (20, [some (.ref 36), u1, u2, u3, some (.int i4), some (.int i5), u6], [], (hR Z X)) =
    sem PGM d yD_answer (25, [some (.ref 36), u1, u2, u3, some (.int i4), some (.int i5), u6], [], (hR Z (xV X 12 0))) := (ev_eq PGM d yD_answer [5, 10, 15, 20, 25] 400 _).trans rfl
set_option maxRecDepth 100000 in
theorem eD_answer_25 (d : Nat) (Z : WT) (X : XS) (u1 : Option Value) (u2 : Option Value) (u3 : Option Value) (i4 : Int32) (i5 : Int32) (u6 : Option Value) : sem PGM d yD_answer (25, [some (.ref 36), u1, u2, u3, some (.int i4), some (.int i5), u6], [], (hR Z X)) =
    bif !decide (i4 = 0) then bif !decide (i4 = 1) then bif !decide (i4 = 2) then aftK (sem PGM d yD_answer) 1 (97, [some (.ref 36), u1, u2, u3, some (.int i4), some (.int i5), u6], [], (hR Z X)) (call PGM d yD_harms [.ref 36, .int (X.2.1 9), .int i5] (hR Z X))
        else aftK (sem PGM d yD_answer) 1 (82, [some (.ref 36), u1, u2, u3, some (.int i4), some (.int i5), u6], [], (hR Z X)) (call PGM d yD_falls [.ref 36, .int (X.2.1 9), .int i5] (hR Z X))
      else aftK (sem PGM d yD_answer) 1 (61, [some (.ref 36), u1, u2, u3, some (.int i4), some (.int i5), u6], [], (hR Z X)) (call PGM d yD_sees [.ref 36, .int (X.2.1 9), .int i5] (hR Z X))
    else aftK (sem PGM d yD_answer) 1 (40, [some (.ref 36), u1, u2, u3, some (.int i4), some (.int i5), u6], [], (hR Z X)) (call PGM d yD_runs [.ref 36, .int (X.2.1 9), .int i5] (hR Z X)) := (ev_eq PGM d yD_answer [5, 10, 15, 20, 25] 400 _).trans rfl
set_option maxRecDepth 100000 in
theorem eD_answer_97 (d : Nat) (Z : WT) (X : XS) (u1 : Option Value) (u2 : Option Value) (u3 : Option Value) (u4 : Option Value) (i5 : Int32) (u6 : Option Value) (k0 : Int32) : sem PGM d yD_answer (97, [some (.ref 36), u1, u2, u3, u4, some (.int i5), u6], [.int k0], (hR Z X)) =
    bif decide ((X.2.1 12) = 0) then some (some (.int k0), (hR Z X))
    else some (some (.int (-15)), (hR Z X)) := (ev_eq PGM d yD_answer [5, 10, 15, 20, 25] 400 _).trans rfl
set_option maxRecDepth 100000 in
theorem eD_answer_82 (d : Nat) (Z : WT) (X : XS) (u1 : Option Value) (u2 : Option Value) (u3 : Option Value) (u4 : Option Value) (i5 : Int32) (u6 : Option Value) (k0 : Int32) : sem PGM d yD_answer (82, [some (.ref 36), u1, u2, u3, u4, some (.int i5), u6], [.int k0], (hR Z X)) =
    bif decide ((X.2.1 12) = 0) then some (some (.int k0), (hR Z X))
    else some (some (.int (-15)), (hR Z X)) := (ev_eq PGM d yD_answer [5, 10, 15, 20, 25] 400 _).trans rfl
set_option maxRecDepth 100000 in
theorem eD_answer_61 (d : Nat) (Z : WT) (X : XS) (u1 : Option Value) (u2 : Option Value) (u3 : Option Value) (u4 : Option Value) (i5 : Int32) (u6 : Option Value) (k0 : Int32) : sem PGM d yD_answer (61, [some (.ref 36), u1, u2, u3, u4, some (.int i5), u6], [.int k0], (hR Z X)) =
    bif decide ((X.2.1 12) = 0) then some (some (.int k0), (hR Z X))
    else some (some (.int (-15)), (hR Z X)) := (ev_eq PGM d yD_answer [5, 10, 15, 20, 25] 400 _).trans rfl
set_option maxRecDepth 100000 in
theorem eD_answer_40 (d : Nat) (Z : WT) (X : XS) (u1 : Option Value) (u2 : Option Value) (u3 : Option Value) (u4 : Option Value) (i5 : Int32) (u6 : Option Value) (k0 : Int32) : sem PGM d yD_answer (40, [some (.ref 36), u1, u2, u3, u4, some (.int i5), u6], [.int k0], (hR Z X)) =
    bif decide ((X.2.1 12) = 0) then some (some (.int k0), (hR Z X))
    else some (some (.int (-15)), (hR Z X)) := (ev_eq PGM d yD_answer [5, 10, 15, 20, 25] 400 _).trans rfl
set_option maxRecDepth 100000 in
theorem eD_runs_0 (d : Nat) (Z : WT) (X : XS) (i1 : Int32) (i2 : Int32) : sem PGM d yD_runs (0, [some (.ref 36), some (.int i1), some (.int i2)], [], (hR Z X)) =
    bif decide (i1 = Int32.ofInt 1) then aftK (sem PGM d yD_runs) 0 (54, [some (.ref 36), some (.int i1), some (.int i2)], [], (hR Z X)) (call PGM d yD_began [.ref 36, .int 20] (hR Z X))
    else bif decide (i1 = Int32.ofInt 2) then aftK (sem PGM d yD_runs) 0 (115, [some (.ref 36), some (.int i1), some (.int i2)], [], (hR Z X)) (call PGM d yD_began [.ref 36, .int 10] (hR Z X))
    else bif decide (i1 = Int32.ofInt 3) then aftK (sem PGM d yD_runs) 0 (115, [some (.ref 36), some (.int i1), some (.int i2)], [], (hR Z X)) (call PGM d yD_began [.ref 36, .int 10] (hR Z X))
    else bif decide (i1 = Int32.ofInt 4) then aftK (sem PGM d yD_runs) 0 (69, [some (.ref 36), some (.int i1), some (.int i2)], [], (hR Z X)) (call PGM d yD_began [.ref 36, .int 50] (hR Z X))
    else bif decide (i1 = Int32.ofInt 5) then aftK (sem PGM d yD_runs) 0 (54, [some (.ref 36), some (.int i1), some (.int i2)], [], (hR Z X)) (call PGM d yD_began [.ref 36, .int 20] (hR Z X))
    else bif decide (i1 = Int32.ofInt 6) then aftK (sem PGM d yD_runs) 0 (87, [some (.ref 36), some (.int i1), some (.int i2)], [], (hR Z X)) (call PGM d yD_began [.ref 36, .int 71] (hR Z X))
    else bif decide (i1 = Int32.ofInt 7) then aftK (sem PGM d yD_runs) 0 (115, [some (.ref 36), some (.int i1), some (.int i2)], [], (hR Z X)) (call PGM d yD_began [.ref 36, .int 10] (hR Z X))
    else bif decide (i1 = Int32.ofInt 8) then aftK (sem PGM d yD_runs) 0 (102, [some (.ref 36), some (.int i1), some (.int i2)], [], (hR Z X)) (call PGM d yD_began [.ref 36, .int 90] (hR Z X))
    else aftK (sem PGM d yD_runs) 0 (115, [some (.ref 36), some (.int i1), some (.int i2)], [], (hR Z X)) (call PGM d yD_began [.ref 36, .int 10] (hR Z X)) := (ev_eq PGM d yD_runs [] 400 _).trans rfl
set_option maxRecDepth 100000 in
theorem eD_runs_54 (d : Nat) (Z : WT) (X : XS) (u1 : Option Value) (i2 : Int32) : sem PGM d yD_runs (54, [some (.ref 36), u1, some (.int i2)], [], (hR Z X)) =
    aftK (sem PGM d yD_runs) 1 (60, [some (.ref 36), u1, some (.int i2)], [], (hR Z X)) (call PGM d yD_runs [.ref 36, .int 0, .int i2] (hR Z X)) := (ev_eq PGM d yD_runs [] 400 _).trans rfl
set_option maxRecDepth 100000 in
theorem eD_runs_115 (d : Nat) (Z : WT) (X : XS) (u1 : Option Value) (i2 : Int32) : sem PGM d yD_runs (115, [some (.ref 36), u1, some (.int i2)], [], (hR Z X)) =
    some (some (.int (i2 + (X.2.1 11))), (hR Z X)) := (ev_eq PGM d yD_runs [] 400 _).trans rfl
set_option maxRecDepth 100000 in
theorem eD_runs_69 (d : Nat) (Z : WT) (X : XS) (u1 : Option Value) (i2 : Int32) : sem PGM d yD_runs (69, [some (.ref 36), u1, some (.int i2)], [], (hR Z X)) =
    aftK (sem PGM d yD_runs) 1 (75, [some (.ref 36), u1, some (.int i2)], [], (hR Z X)) (call PGM d yD_runs [.ref 36, .int 1, .int i2] (hR Z X)) := (ev_eq PGM d yD_runs [] 400 _).trans rfl
set_option maxRecDepth 100000 in
theorem eD_runs_87 (d : Nat) (Z : WT) (X : XS) (u1 : Option Value) (i2 : Int32) : sem PGM d yD_runs (87, [some (.ref 36), u1, some (.int i2)], [], (hR Z X)) =
    aftK (sem PGM d yD_runs) 1 (93, [some (.ref 36), u1, some (.int i2)], [], (hR Z X)) (call PGM d yD_runs [.ref 36, .int 3, .int i2] (hR Z X)) := (ev_eq PGM d yD_runs [] 400 _).trans rfl
set_option maxRecDepth 100000 in
theorem eD_runs_102 (d : Nat) (Z : WT) (X : XS) (u1 : Option Value) (i2 : Int32) : sem PGM d yD_runs (102, [some (.ref 36), u1, some (.int i2)], [], (hR Z X)) =
    some (some (.int ((X.2.1 11) - i2)), (hR Z X)) := (ev_eq PGM d yD_runs [] 400 _).trans rfl
set_option maxRecDepth 100000 in
theorem eD_runs_60 (d : Nat) (Z : WT) (X : XS) (u0 : Option Value) (u1 : Option Value) (u2 : Option Value) (k0 : Int32) : sem PGM d yD_runs (60, [u0, u1, u2], [.int k0], (hR Z X)) =
    some (some (.int (k0 * 3)), (hR Z X)) := (ev_eq PGM d yD_runs [] 400 _).trans rfl
set_option maxRecDepth 100000 in
theorem eD_runs_75 (d : Nat) (Z : WT) (X : XS) (u1 : Option Value) (u2 : Option Value) (k0 : Int32) : sem PGM d yD_runs (75, [some (.ref 36), u1, u2], [.int k0], (hR Z X)) =
    some (some (.int (k0 ^^^ (X.2.1 10))), (hR Z X)) := (ev_eq PGM d yD_runs [] 400 _).trans rfl
set_option maxRecDepth 100000 in
theorem eD_runs_93 (d : Nat) (Z : WT) (X : XS) (u0 : Option Value) (u1 : Option Value) (u2 : Option Value) (k0 : Int32) : sem PGM d yD_runs (93, [u0, u1, u2], [.int k0], (hR Z X)) =
    some (some (.int (k0 - 5)), (hR Z X)) := (ev_eq PGM d yD_runs [] 400 _).trans rfl
set_option maxRecDepth 100000 in
theorem eD_began_0 (d : Nat) (Z : WT) (X : XS) (i1 : Int32) : sem PGM d yD_began (0, [some (.ref 36), some (.int i1)], [], (hR Z X)) =
    bif decide (30 ≤ (X.2.1 8)) then some (none, (hR Z X))
    else bif decide ((X.2.1 12) = 0) then bif inb (X.2.1 8) 30 then sem PGM d yD_began (27, [some (.ref 36), some (.int i1)], [], (hR Z (xA X 16 (upd (X.1 16) ((X.2.1 8)).toNatClampNeg i1))))
        else none
      else some (none, (hR Z X)) := (ev_eq PGM d yD_began [27] 400 _).trans rfl
set_option maxRecDepth 100000 in
theorem eD_began_27 (d : Nat) (Z : WT) (X : XS) (u1 : Option Value) : sem PGM d yD_began (27, [some (.ref 36), u1], [], (hR Z X)) =
    some (none, (hR Z (xV X 8 ((X.2.1 8) + 1)))) := (ev_eq PGM d yD_began [27] 400 _).trans rfl
set_option maxRecDepth 100000 in
theorem eD_sees_0 (d : Nat) (Z : WT) (X : XS) (i1 : Int32) (i2 : Int32) : sem PGM d yD_sees (0, [some (.ref 36), some (.int i1), some (.int i2)], [], (hR Z X)) =
    bif decide (i1 = Int32.ofInt 2) then aftK (sem PGM d yD_sees) 0 (50, [some (.ref 36), some (.int i1), some (.int i2)], [], (hR Z X)) (call PGM d yD_began [.ref 36, .int 30] (hR Z X))
    else bif decide (i1 = Int32.ofInt 3) then aftK (sem PGM d yD_sees) 0 (130, [some (.ref 36), some (.int i1), some (.int i2)], [], (hR Z X)) (call PGM d yD_began [.ref 36, .int 11] (hR Z X))
    else bif decide (i1 = Int32.ofInt 4) then aftK (sem PGM d yD_sees) 0 (130, [some (.ref 36), some (.int i1), some (.int i2)], [], (hR Z X)) (call PGM d yD_began [.ref 36, .int 11] (hR Z X))
    else bif decide (i1 = Int32.ofInt 5) then aftK (sem PGM d yD_sees) 0 (68, [some (.ref 36), some (.int i1), some (.int i2)], [], (hR Z X)) (call PGM d yD_began [.ref 36, .int 60] (hR Z X))
    else bif decide (i1 = Int32.ofInt 6) then aftK (sem PGM d yD_sees) 0 (130, [some (.ref 36), some (.int i1), some (.int i2)], [], (hR Z X)) (call PGM d yD_began [.ref 36, .int 11] (hR Z X))
    else bif decide (i1 = Int32.ofInt 7) then aftK (sem PGM d yD_sees) 0 (83, [some (.ref 36), some (.int i1), some (.int i2)], [], (hR Z X)) (call PGM d yD_began [.ref 36, .int 81] (hR Z X))
    else bif decide (i1 = Int32.ofInt 8) then aftK (sem PGM d yD_sees) 0 (109, [some (.ref 36), some (.int i1), some (.int i2)], [], (hR Z X)) (call PGM d yD_began [.ref 36, .int 91] (hR Z X))
    else aftK (sem PGM d yD_sees) 0 (130, [some (.ref 36), some (.int i1), some (.int i2)], [], (hR Z X)) (call PGM d yD_began [.ref 36, .int 11] (hR Z X)) := (ev_eq PGM d yD_sees [] 400 _).trans rfl
set_option maxRecDepth 100000 in
theorem eD_sees_50 (d : Nat) (Z : WT) (X : XS) (u1 : Option Value) (i2 : Int32) : sem PGM d yD_sees (50, [some (.ref 36), u1, some (.int i2)], [], (hR Z X)) =
    aftK (sem PGM d yD_sees) 1 (56, [some (.ref 36), u1, some (.int i2)], [], (hR Z X)) (call PGM d yD_sees [.ref 36, .int 0, .int i2] (hR Z X)) := (ev_eq PGM d yD_sees [] 400 _).trans rfl
set_option maxRecDepth 100000 in
theorem eD_sees_130 (d : Nat) (Z : WT) (X : XS) (u1 : Option Value) (i2 : Int32) : sem PGM d yD_sees (130, [some (.ref 36), u1, some (.int i2)], [], (hR Z X)) =
    aftK (sem PGM d yD_sees) 1 (139, [some (.ref 36), u1, some (.int i2)], [], (hR Z X)) (call PGM d yD_runs [.ref 36, .int (X.2.1 9), .int i2] (hR Z X)) := (ev_eq PGM d yD_sees [] 400 _).trans rfl
set_option maxRecDepth 100000 in
theorem eD_sees_68 (d : Nat) (Z : WT) (X : XS) (u1 : Option Value) (i2 : Int32) : sem PGM d yD_sees (68, [some (.ref 36), u1, some (.int i2)], [], (hR Z X)) =
    aftK (sem PGM d yD_sees) 1 (75, [some (.ref 36), u1, some (.int i2)], [.int 0], (hR Z X)) (call PGM d yD_sees [.ref 36, .int 1, .int i2] (hR Z X)) := (ev_eq PGM d yD_sees [] 400 _).trans rfl
set_option maxRecDepth 100000 in
theorem eD_sees_83 (d : Nat) (Z : WT) (X : XS) (u1 : Option Value) (i2 : Int32) : sem PGM d yD_sees (83, [some (.ref 36), u1, some (.int i2)], [], (hR Z X)) =
    aftK (sem PGM d yD_sees) 1 (89, [some (.ref 36), u1, some (.int i2)], [], (hR Z X)) (call PGM d yD_sees [.ref 36, .int 2, .int i2] (hR Z X)) := (ev_eq PGM d yD_sees [] 400 _).trans rfl
set_option maxRecDepth 100000 in
theorem eD_sees_109 (d : Nat) (Z : WT) (X : XS) (u1 : Option Value) (i2 : Int32) : sem PGM d yD_sees (109, [some (.ref 36), u1, some (.int i2)], [], (hR Z X)) =
    aftK (sem PGM d yD_sees) 1 (118, [some (.ref 36), u1, some (.int i2)], [], (hR Z X)) (call PGM d yD_runs [.ref 36, .int (X.2.1 9), .int i2] (hR Z X)) := (ev_eq PGM d yD_sees [] 400 _).trans rfl
set_option maxRecDepth 100000 in
theorem eD_sees_56 (d : Nat) (Z : WT) (X : XS) (u1 : Option Value) (u2 : Option Value) (k0 : Int32) : sem PGM d yD_sees (56, [some (.ref 36), u1, u2], [.int k0], (hR Z X)) =
    some (some (.int (k0 - (X.2.1 11))), (hR Z X)) := (ev_eq PGM d yD_sees [] 400 _).trans rfl
set_option maxRecDepth 100000 in
theorem eD_sees_139 (d : Nat) (Z : WT) (X : XS) (u0 : Option Value) (u1 : Option Value) (u2 : Option Value) (k0 : Int32) : sem PGM d yD_sees (139, [u0, u1, u2], [.int k0], (hR Z X)) =
    some (some (.int (k0 * 2)), (hR Z X)) := (ev_eq PGM d yD_sees [] 400 _).trans rfl
set_option maxRecDepth 100000 in
theorem eD_sees_75 (d : Nat) (Z : WT) (X : XS) (u0 : Option Value) (u1 : Option Value) (u2 : Option Value) (k0 : Int32) (k1 : Int32) : sem PGM d yD_sees (75, [u0, u1, u2], [.int k1, .int k0], (hR Z X)) =
    some (some (.int (k0 - k1)), (hR Z X)) := (ev_eq PGM d yD_sees [] 400 _).trans rfl
set_option maxRecDepth 100000 in
theorem eD_sees_89 (d : Nat) (Z : WT) (X : XS) (u1 : Option Value) (u2 : Option Value) (k0 : Int32) : sem PGM d yD_sees (89, [some (.ref 36), u1, u2], [.int k0], (hR Z X)) =
    aftK (sem PGM d yD_sees) 1 (101, [some (.ref 36), u1, u2], [.int k0], (hR Z X)) (call PGM d yD_runs [.ref 36, .int (X.2.1 9), .int (X.2.1 10)] (hR Z X)) := (ev_eq PGM d yD_sees [] 400 _).trans rfl
set_option maxRecDepth 100000 in
theorem eD_sees_118 (d : Nat) (Z : WT) (X : XS) (u1 : Option Value) (u2 : Option Value) (k0 : Int32) : sem PGM d yD_sees (118, [some (.ref 36), u1, u2], [.int k0], (hR Z X)) =
    some (some (.int (k0 * (X.2.1 10))), (hR Z X)) := (ev_eq PGM d yD_sees [] 400 _).trans rfl
set_option maxRecDepth 100000 in
theorem eD_sees_101 (d : Nat) (Z : WT) (X : XS) (u0 : Option Value) (u1 : Option Value) (u2 : Option Value) (k0 : Int32) (k1 : Int32) : sem PGM d yD_sees (101, [u0, u1, u2], [.int k1, .int k0], (hR Z X)) =
    some (some (.int (k0 + k1)), (hR Z X)) := (ev_eq PGM d yD_sees [] 400 _).trans rfl
set_option maxRecDepth 100000 in
theorem eD_falls_0 (d : Nat) (Z : WT) (X : XS) (i1 : Int32) (i2 : Int32) : sem PGM d yD_falls (0, [some (.ref 36), some (.int i1), some (.int i2)], [], (hR Z X)) =
    bif decide (i1 = Int32.ofInt 3) then aftK (sem PGM d yD_falls) 0 (42, [some (.ref 36), some (.int i1), some (.int i2)], [], (hR Z X)) (call PGM d yD_began [.ref 36, .int 40] (hR Z X))
    else bif decide (i1 = Int32.ofInt 6) then aftK (sem PGM d yD_falls) 0 (57, [some (.ref 36), some (.int i1), some (.int i2)], [], (hR Z X)) (call PGM d yD_began [.ref 36, .int 70] (hR Z X))
    else bif decide (i1 = Int32.ofInt 8) then aftK (sem PGM d yD_falls) 0 (72, [some (.ref 36), some (.int i1), some (.int i2)], [], (hR Z X)) (call PGM d yD_began [.ref 36, .int 92] (hR Z X))
    else aftK (sem PGM d yD_falls) 0 (85, [some (.ref 36), some (.int i1), some (.int i2)], [], (hR Z X)) (call PGM d yD_began [.ref 36, .int 12] (hR Z X)) := (ev_eq PGM d yD_falls [] 400 _).trans rfl
set_option maxRecDepth 100000 in
theorem eD_falls_42 (d : Nat) (Z : WT) (X : XS) (u1 : Option Value) (i2 : Int32) : sem PGM d yD_falls (42, [some (.ref 36), u1, some (.int i2)], [], (hR Z X)) =
    aftK (sem PGM d yD_falls) 1 (50, [some (.ref 36), u1, some (.int i2)], [], (hR Z X)) (call PGM d yD_falls [.ref 36, .int 0, .int (i2 + 1)] (hR Z X)) := (ev_eq PGM d yD_falls [] 400 _).trans rfl
set_option maxRecDepth 100000 in
theorem eD_falls_57 (d : Nat) (Z : WT) (X : XS) (u1 : Option Value) (i2 : Int32) : sem PGM d yD_falls (57, [some (.ref 36), u1, some (.int i2)], [], (hR Z X)) =
    aftK (sem PGM d yD_falls) 1 (63, [some (.ref 36), u1, some (.int i2)], [], (hR Z X)) (call PGM d yD_falls [.ref 36, .int 3, .int i2] (hR Z X)) := (ev_eq PGM d yD_falls [] 400 _).trans rfl
set_option maxRecDepth 100000 in
theorem eD_falls_72 (d : Nat) (Z : WT) (X : XS) (u1 : Option Value) (i2 : Int32) : sem PGM d yD_falls (72, [some (.ref 36), u1, some (.int i2)], [], (hR Z X)) =
    some (some (.int (i2 ||| (X.2.1 11))), (hR Z X)) := (ev_eq PGM d yD_falls [] 400 _).trans rfl
set_option maxRecDepth 100000 in
theorem eD_falls_85 (d : Nat) (Z : WT) (X : XS) (u1 : Option Value) (i2 : Int32) : sem PGM d yD_falls (85, [some (.ref 36), u1, some (.int i2)], [], (hR Z X)) =
    aftK (sem PGM d yD_falls) 1 (99, [some (.ref 36), u1, some (.int i2)], [], (hR Z X)) (call PGM d yD_partedBy [.ref 36, .int i2, .int ((X.2.1 11) - (X.2.1 10))] (hR Z X)) := (ev_eq PGM d yD_falls [] 400 _).trans rfl
set_option maxRecDepth 100000 in
theorem eD_falls_50 (d : Nat) (Z : WT) (X : XS) (u0 : Option Value) (u1 : Option Value) (u2 : Option Value) (k0 : Int32) : sem PGM d yD_falls (50, [u0, u1, u2], [.int k0], (hR Z X)) =
    some (some (.int k0), (hR Z X)) := (ev_eq PGM d yD_falls [] 400 _).trans rfl
set_option maxRecDepth 100000 in
theorem eD_falls_63 (d : Nat) (Z : WT) (X : XS) (u0 : Option Value) (u1 : Option Value) (u2 : Option Value) (k0 : Int32) : sem PGM d yD_falls (63, [u0, u1, u2], [.int k0], (hR Z X)) =
    some (some (.int (k0 ^^^ 1)), (hR Z X)) := (ev_eq PGM d yD_falls [] 400 _).trans rfl
set_option maxRecDepth 100000 in
theorem eD_falls_99 (d : Nat) (Z : WT) (X : XS) (u0 : Option Value) (u1 : Option Value) (u2 : Option Value) (k0 : Int32) : sem PGM d yD_falls (99, [u0, u1, u2], [.int k0], (hR Z X)) =
    some (some (.int k0), (hR Z X)) := (ev_eq PGM d yD_falls [] 400 _).trans rfl
set_option maxRecDepth 100000 in
theorem eD_partedBy_0 (d : Nat) (Z : WT) (X : XS) (i1 : Int32) (i2 : Int32) : sem PGM d yD_partedBy (0, [some (.ref 36), some (.int i1), some (.int i2)], [], (hR Z X)) =
    bif !decide (i2 = 0) then bif !decide (i2 = 0) then some (some (.int (i1 / i2)), (hR Z X))
      else none
    else some (some (.int 0), (hR Z (xV X 12 1))) := (ev_eq PGM d yD_partedBy [] 400 _).trans rfl
set_option maxRecDepth 100000 in
theorem eD_harms_0 (d : Nat) (Z : WT) (X : XS) (i1 : Int32) (i2 : Int32) : sem PGM d yD_harms (0, [some (.ref 36), some (.int i1), some (.int i2)], [], (hR Z X)) =
    bif decide (i1 = Int32.ofInt 4) then aftK (sem PGM d yD_harms) 0 (42, [some (.ref 36), some (.int i1), some (.int i2)], [], (hR Z X)) (call PGM d yD_began [.ref 36, .int 51] (hR Z X))
    else bif decide (i1 = Int32.ofInt 5) then aftK (sem PGM d yD_harms) 0 (112, [some (.ref 36), some (.int i1), some (.int i2)], [], (hR Z X)) (call PGM d yD_began [.ref 36, .int 13] (hR Z X))
    else bif decide (i1 = Int32.ofInt 6) then aftK (sem PGM d yD_harms) 0 (112, [some (.ref 36), some (.int i1), some (.int i2)], [], (hR Z X)) (call PGM d yD_began [.ref 36, .int 13] (hR Z X))
    else bif decide (i1 = Int32.ofInt 7) then aftK (sem PGM d yD_harms) 0 (68, [some (.ref 36), some (.int i1), some (.int i2)], [], (hR Z X)) (call PGM d yD_began [.ref 36, .int 80] (hR Z X))
    else bif decide (i1 = Int32.ofInt 8) then aftK (sem PGM d yD_harms) 0 (83, [some (.ref 36), some (.int i1), some (.int i2)], [], (hR Z X)) (call PGM d yD_began [.ref 36, .int 93] (hR Z X))
    else aftK (sem PGM d yD_harms) 0 (112, [some (.ref 36), some (.int i1), some (.int i2)], [], (hR Z X)) (call PGM d yD_began [.ref 36, .int 13] (hR Z X)) := (ev_eq PGM d yD_harms [] 400 _).trans rfl
set_option maxRecDepth 100000 in
theorem eD_harms_42 (d : Nat) (Z : WT) (X : XS) (u1 : Option Value) (i2 : Int32) : sem PGM d yD_harms (42, [some (.ref 36), u1, some (.int i2)], [], (hR Z X)) =
    aftK (sem PGM d yD_harms) 1 (48, [some (.ref 36), u1, some (.int i2)], [], (hR Z X)) (call PGM d yD_harms [.ref 36, .int 1, .int i2] (hR Z X)) := (ev_eq PGM d yD_harms [] 400 _).trans rfl
set_option maxRecDepth 100000 in
theorem eD_harms_112 (d : Nat) (Z : WT) (X : XS) (u1 : Option Value) (i2 : Int32) : sem PGM d yD_harms (112, [some (.ref 36), u1, some (.int i2)], [], (hR Z X)) =
    aftK (sem PGM d yD_harms) 1 (121, [some (.ref 36), u1, some (.int i2)], [], (hR Z X)) (call PGM d yD_sees [.ref 36, .int (X.2.1 9), .int i2] (hR Z X)) := (ev_eq PGM d yD_harms [] 400 _).trans rfl
set_option maxRecDepth 100000 in
theorem eD_harms_68 (d : Nat) (Z : WT) (X : XS) (u1 : Option Value) (i2 : Int32) : sem PGM d yD_harms (68, [some (.ref 36), u1, some (.int i2)], [], (hR Z X)) =
    aftK (sem PGM d yD_harms) 1 (74, [some (.ref 36), u1, some (.int i2)], [], (hR Z X)) (call PGM d yD_harms [.ref 36, .int 2, .int i2] (hR Z X)) := (ev_eq PGM d yD_harms [] 400 _).trans rfl
set_option maxRecDepth 100000 in
theorem eD_harms_83 (d : Nat) (Z : WT) (X : XS) (u1 : Option Value) (i2 : Int32) : sem PGM d yD_harms (83, [some (.ref 36), u1, some (.int i2)], [], (hR Z X)) =
    aftK (sem PGM d yD_harms) 1 (92, [some (.ref 36), u1, some (.int i2)], [], (hR Z X)) (call PGM d yD_sees [.ref 36, .int (X.2.1 9), .int i2] (hR Z X)) := (ev_eq PGM d yD_harms [] 400 _).trans rfl
set_option maxRecDepth 100000 in
theorem eD_harms_48 (d : Nat) (Z : WT) (X : XS) (u1 : Option Value) (u2 : Option Value) (k0 : Int32) : sem PGM d yD_harms (48, [some (.ref 36), u1, u2], [.int k0], (hR Z X)) =
    aftK (sem PGM d yD_harms) 1 (60, [some (.ref 36), u1, u2], [.int k0], (hR Z X)) (call PGM d yD_falls [.ref 36, .int (X.2.1 9), .int (X.2.1 10)] (hR Z X)) := (ev_eq PGM d yD_harms [] 400 _).trans rfl
set_option maxRecDepth 100000 in
theorem eD_harms_121 (d : Nat) (Z : WT) (X : XS) (u1 : Option Value) (u2 : Option Value) (k0 : Int32) : sem PGM d yD_harms (121, [some (.ref 36), u1, u2], [.int k0], (hR Z X)) =
    some (some (.int (k0 ^^^ (X.2.1 10))), (hR Z X)) := (ev_eq PGM d yD_harms [] 400 _).trans rfl
set_option maxRecDepth 100000 in
theorem eD_harms_74 (d : Nat) (Z : WT) (X : XS) (u0 : Option Value) (u1 : Option Value) (u2 : Option Value) (k0 : Int32) : sem PGM d yD_harms (74, [u0, u1, u2], [.int k0], (hR Z X)) =
    some (some (.int (k0 * 2)), (hR Z X)) := (ev_eq PGM d yD_harms [] 400 _).trans rfl
set_option maxRecDepth 100000 in
theorem eD_harms_92 (d : Nat) (Z : WT) (X : XS) (u1 : Option Value) (u2 : Option Value) (k0 : Int32) : sem PGM d yD_harms (92, [some (.ref 36), u1, u2], [.int k0], (hR Z X)) =
    aftK (sem PGM d yD_harms) 1 (104, [some (.ref 36), u1, u2], [.int k0], (hR Z X)) (call PGM d yD_falls [.ref 36, .int (X.2.1 9), .int (X.2.1 10)] (hR Z X)) := (ev_eq PGM d yD_harms [] 400 _).trans rfl
set_option maxRecDepth 100000 in
theorem eD_harms_60 (d : Nat) (Z : WT) (X : XS) (u0 : Option Value) (u1 : Option Value) (u2 : Option Value) (k0 : Int32) (k1 : Int32) : sem PGM d yD_harms (60, [u0, u1, u2], [.int k1, .int k0], (hR Z X)) =
    some (some (.int (k0 + k1)), (hR Z X)) := (ev_eq PGM d yD_harms [] 400 _).trans rfl
set_option maxRecDepth 100000 in
theorem eD_harms_104 (d : Nat) (Z : WT) (X : XS) (u0 : Option Value) (u1 : Option Value) (u2 : Option Value) (k0 : Int32) (k1 : Int32) : sem PGM d yD_harms (104, [u0, u1, u2], [.int k1, .int k0], (hR Z X)) =
    some (some (.int (k0 - k1)), (hR Z X)) := (ev_eq PGM d yD_harms [] 400 _).trans rfl
