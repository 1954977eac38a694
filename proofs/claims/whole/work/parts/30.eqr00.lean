/-! Equations of blocks, by wip/whole/gen/alleq.py. -/
set_option maxRecDepth 100000 in
theorem eJ_Math_min_0 (d : Nat) (h : AH) (i0 : Int32) (i1 : Int32) : sem PGM d yJ_Math_min (0, [some (.int i0), some (.int i1)], [], h) =
    bif decide (i1 < i0) then some (some (.int i1), h)
    else some (some (.int i0), h) := (ev_eq PGM d yJ_Math_min [] 400 _).trans rfl
set_option maxRecDepth 100000 in
theorem eR_reads_0 (d : Nat) (Z : WT) (X : XS) (i2 : Int32) : sem PGM d yR_reads (0, [some (.ref 14), some (.ref 13), some (.int i2)], [], (hR Z X)) =
    aftK (sem PGM d yR_reads) 0 (6, [some (.ref 14), some (.ref 13), some (.int i2)], [], (hR Z X)) (call PGM d yR_part [.ref 14, .ref 13, .int i2] (hR Z X)) := (ev_eq PGM d yR_reads [11, 16, 21, 57] 400 _).trans rfl
set_option maxRecDepth 100000 in
theorem eR_reads_6 (d : Nat) (Z : WT) (X : XS) (u1 : Option Value) (u2 : Option Value) : sem PGM d yR_reads (6, [some (.ref 14), u1, u2], [], (hR Z X)) =
    sem PGM d yR_reads (11, [some (.ref 14), u1, u2], [], (hR Z (xV X 3 0))) := (ev_eq PGM d yR_reads [11, 16, 21, 57] 400 _).trans rfl
set_option maxRecDepth 100000 in
theorem eR_reads_11 (d : Nat) (Z : WT) (X : XS) (u1 : Option Value) (u2 : Option Value) : sem PGM d yR_reads (11, [some (.ref 14), u1, u2], [], (hR Z X)) =
    sem PGM d yR_reads (16, [some (.ref 14), u1, u2], [], (hR Z (xV X 5 0))) := (ev_eq PGM d yR_reads [11, 16, 21, 57] 400 _).trans rfl
set_option maxRecDepth 100000 in
theorem eR_reads_16 (d : Nat) (Z : WT) (X : XS) (u1 : Option Value) (u2 : Option Value) : sem PGM d yR_reads (16, [some (.ref 14), u1, u2], [], (hR Z X)) =
    sem PGM d yR_reads (21, [some (.ref 14), u1, u2], [], (hR Z (xV X 4 0))) := (ev_eq PGM d yR_reads [11, 16, 21, 57] 400 _).trans rfl
set_option maxRecDepth 100000 in
theorem eR_reads_21 (d : Nat) (Z : WT) (X : XS) (u1 : Option Value) (u2 : Option Value) : sem PGM d yR_reads (21, [some (.ref 14), u1, u2], [], (hR Z X)) =
    bif decide (8 ≤ (X.2.1 4)) then aftK (sem PGM d yR_reads) 1 (64, [some (.ref 14), u1, u2], [], (hR Z X)) (call PGM d yR_token [.ref 14] (hR Z X))
    else aftK (sem PGM d yR_reads) 1 (34, [some (.ref 14), u1, u2], [], (hR Z X)) (call PGM d yR_token [.ref 14] (hR Z X)) := (ev_eq PGM d yR_reads [11, 16, 21, 57] 400 _).trans rfl
set_option maxRecDepth 100000 in
theorem eR_reads_64 (d : Nat) (Z : WT) (X : XS) (u0 : Option Value) (u1 : Option Value) (u2 : Option Value) (k0 : Int32) : sem PGM d yR_reads (64, [u0, u1, u2], [.int k0], (hR Z X)) =
    bif !decide (k0 = (-1)) then some (some (.int 0), (hR Z X))
    else some (some (.int 1), (hR Z X)) := (ev_eq PGM d yR_reads [11, 16, 21, 57] 400 _).trans rfl
set_option maxRecDepth 100000 in
theorem eR_reads_34 (d : Nat) (Z : WT) (X : XS) (u1 : Option Value) (u2 : Option Value) (k0 : Int32) : sem PGM d yR_reads (34, [some (.ref 14), u1, u2], [.int k0], (hR Z X)) =
    bif decide (k0 = (-1)) then aftK (sem PGM d yR_reads) 1 (64, [some (.ref 14), u1, u2], [], (hR Z X)) (call PGM d yR_token [.ref 14] (hR Z X))
    else aftK (sem PGM d yR_reads) 1 (42, [some (.ref 14), u1, u2], [], (hR Z X)) (call PGM d yR_clause [.ref 14] (hR Z X)) := (ev_eq PGM d yR_reads [11, 16, 21, 57] 400 _).trans rfl
set_option maxRecDepth 100000 in
theorem eR_reads_42 (d : Nat) (Z : WT) (X : XS) (u1 : Option Value) (u2 : Option Value) (k0 : Int32) : sem PGM d yR_reads (42, [some (.ref 14), u1, u2], [.int k0], (hR Z X)) =
    bif !decide (k0 = 0) then sem PGM d yR_reads (57, [some (.ref 14), u1, u2], [], (hR Z (xV X 4 ((X.2.1 4) + 1))))
    else some (some (.int 0), (hR Z X)) := (ev_eq PGM d yR_reads [11, 16, 21, 57] 400 _).trans rfl
set_option maxRecDepth 100000 in
theorem eR_reads_57 (d : Nat) (Z : WT) (X : XS) (u1 : Option Value) (u2 : Option Value) : sem PGM d yR_reads (57, [some (.ref 14), u1, u2], [], (hR Z X)) =
    sem PGM d yR_reads (21, [some (.ref 14), u1, u2], [], (hR Z X)) := (ev_eq PGM d yR_reads [11, 16, 21, 57] 400 _).trans rfl
set_option maxRecDepth 100000 in
theorem eR_part_0 (d : Nat) (Z : WT) (X : XS) (i2 : Int32) : sem PGM d yR_part (0, [some (.ref 14), some (.ref 13), some (.int i2), none, none, none], [], (hR Z X)) =
    sem PGM d yR_part (5, [some (.ref 14), some (.ref 13), some (.int i2), none, none, none], [], (hR Z (xV X 2 0))) := (ev_eq PGM d yR_part [5, 10, 53, 63, 73, 100, 112, 146, 162] 400 _).trans rfl
set_option maxRecDepth 100000 in
theorem eR_part_5 (d : Nat) (Z : WT) (X : XS) (i2 : Int32) (u5 : Option Value) : sem PGM d yR_part (5, [some (.ref 14), some (.ref 13), some (.int i2), none, none, u5], [], (hR Z X)) =
    sem PGM d yR_part (10, [some (.ref 14), some (.ref 13), some (.int i2), some (.int 0), some (.int 0), u5], [], (hR Z X)) := (ev_eq PGM d yR_part [5, 10, 53, 63, 73, 100, 112, 146, 162] 400 _).trans rfl
set_option maxRecDepth 100000 in
theorem eR_part_10 (d : Nat) (Z : WT) (X : XS) (i2 : Int32) (i3 : Int32) (i4 : Int32) (u5 : Option Value) : sem PGM d yR_part (10, [some (.ref 14), some (.ref 13), some (.int i2), some (.int i3), some (.int i4), u5], [], (hR Z X)) =
    bif decide (i2 ≤ i4) then sem PGM d yR_part (112, [some (.ref 14), some (.ref 13), some (.int i2), some (.int i3), some (.int 0), u5], [], (hR Z X))
    else bif inb i4 200 then aftK (sem PGM d yR_part) 1 (23, [some (.ref 14), some (.ref 13), some (.int i2), some (.int i3), some (.int i4), u5], [], (hR Z X)) (call PGM d yR_sortOf [.int ((X.1 0) (i4).toNatClampNeg)] (hR Z X))
      else none := (ev_eq PGM d yR_part [5, 10, 53, 63, 73, 100, 112, 146, 162] 400 _).trans rfl
set_option maxRecDepth 100000 in
theorem eR_part_112 (d : Nat) (Z : WT) (X : XS) (i2 : Int32) (i3 : Int32) (i4 : Int32) (u5 : Option Value) : sem PGM d yR_part (112, [some (.ref 14), some (.ref 13), some (.int i2), some (.int i3), some (.int i4), u5], [], (hR Z X)) =
    bif decide ((X.2.1 2) ≤ i4) then bif inb (X.2.1 2) 201 then sem PGM d yR_part (162, [some (.ref 14), some (.ref 13), some (.int i2), some (.int i3), some (.int i4), u5], [], (hR Z (xA X 2 (upd (X.1 2) ((X.2.1 2)).toNatClampNeg i2))))
      else none
    else bif inb i4 201 then bif inb i4 201 then aftK (sem PGM d yR_part) 1 (145, [some (.ref 14), some (.ref 13), some (.int i2), some (.int i3), some (.int i4), u5], [.int i4, .ref 15], (hR Z X)) (call PGM d yR_tokenAt [.ref 13, .int ((X.1 2) (i4).toNatClampNeg), .int ((X.1 3) (i4).toNatClampNeg)] (hR Z X))
        else none
      else none := (ev_eq PGM d yR_part [5, 10, 53, 63, 73, 100, 112, 146, 162] 400 _).trans rfl
set_option maxRecDepth 100000 in
theorem eR_part_23 (d : Nat) (Z : WT) (X : XS) (i2 : Int32) (i3 : Int32) (i4 : Int32) (u5 : Option Value) (k0 : Int32) : sem PGM d yR_part (23, [some (.ref 14), some (.ref 13), some (.int i2), some (.int i3), some (.int i4), u5], [.int k0], (hR Z X)) =
    bif decide (k0 = 3) then bif inb (X.2.1 2) 201 then sem PGM d yR_part (53, [some (.ref 14), some (.ref 13), some (.int i2), some (.int i3), some (.int i4), some (.int k0)], [], (hR Z (xA X 2 (upd (X.1 2) ((X.2.1 2)).toNatClampNeg i4))))
      else none
    else bif decide (k0 = 0) then sem PGM d yR_part (73, [some (.ref 14), some (.ref 13), some (.int i2), some (.int i3), some (.int i4), some (.int k0)], [], (hR Z X))
      else bif decide (k0 = i3) then sem PGM d yR_part (73, [some (.ref 14), some (.ref 13), some (.int i2), some (.int i3), some (.int i4), some (.int k0)], [], (hR Z X))
        else bif inb (X.2.1 2) 201 then sem PGM d yR_part (53, [some (.ref 14), some (.ref 13), some (.int i2), some (.int i3), some (.int i4), some (.int k0)], [], (hR Z (xA X 2 (upd (X.1 2) ((X.2.1 2)).toNatClampNeg i4))))
          else none := (ev_eq PGM d yR_part [5, 10, 53, 63, 73, 100, 112, 146, 162] 400 _).trans rfl
set_option maxRecDepth 100000 in
theorem eR_part_162 (d : Nat) (Z : WT) (X : XS) (u1 : Option Value) (i2 : Int32) (i3 : Int32) (i4 : Int32) (u5 : Option Value) : sem PGM d yR_part (162, [some (.ref 14), u1, some (.int i2), some (.int i3), some (.int i4), u5], [], (hR Z X)) =
    bif inb (X.2.1 2) 201 then some (none, (hR Z (xA X 1 (upd (X.1 1) ((X.2.1 2)).toNatClampNeg (-1)))))
    else none := (ev_eq PGM d yR_part [5, 10, 53, 63, 73, 100, 112, 146, 162] 400 _).trans rfl
set_option maxRecDepth 100000 in
theorem eR_part_145 (d : Nat) (Z : WT) (X : XS) (i2 : Int32) (i3 : Int32) (i4 : Int32) (u5 : Option Value) (k1 : Int32) (k2 : Int32) : sem PGM d yR_part (145, [some (.ref 14), some (.ref 13), some (.int i2), some (.int i3), some (.int i4), u5], [.int k2, .int k1, .ref 15], (hR Z X)) =
    bif inb k1 201 then sem PGM d yR_part (146, [some (.ref 14), some (.ref 13), some (.int i2), some (.int i3), some (.int i4), u5], [], (hR Z (xA X 1 (upd (X.1 1) (k1).toNatClampNeg k2))))
    else none := (ev_eq PGM d yR_part [5, 10, 53, 63, 73, 100, 112, 146, 162] 400 _).trans rfl
set_option maxRecDepth 100000 in
theorem eR_part_53 (d : Nat) (Z : WT) (X : XS) (i2 : Int32) (i3 : Int32) (i4 : Int32) (i5 : Int32) : sem PGM d yR_part (53, [some (.ref 14), some (.ref 13), some (.int i2), some (.int i3), some (.int i4), some (.int i5)], [], (hR Z X)) =
    bif inb (X.2.1 2) 201 then sem PGM d yR_part (63, [some (.ref 14), some (.ref 13), some (.int i2), some (.int i3), some (.int i4), some (.int i5)], [], (hR Z (xA X 3 (upd (X.1 3) ((X.2.1 2)).toNatClampNeg 0))))
    else none := (ev_eq PGM d yR_part [5, 10, 53, 63, 73, 100, 112, 146, 162] 400 _).trans rfl
set_option maxRecDepth 100000 in
theorem eR_part_73 (d : Nat) (Z : WT) (X : XS) (i2 : Int32) (i3 : Int32) (i4 : Int32) (i5 : Int32) : sem PGM d yR_part (73, [some (.ref 14), some (.ref 13), some (.int i2), some (.int i3), some (.int i4), some (.int i5)], [], (hR Z X)) =
    bif decide (i5 = 0) then sem PGM d yR_part (100, [some (.ref 14), some (.ref 13), some (.int i2), some (.int i3), some (.int i4), some (.int i5)], [], (hR Z X))
    else bif decide ((X.2.1 2) ≤ 0) then sem PGM d yR_part (100, [some (.ref 14), some (.ref 13), some (.int i2), some (.int i3), some (.int i4), some (.int i5)], [], (hR Z X))
      else bif inb ((X.2.1 2) - 1) 201 then bif inb ((X.2.1 2) - 1) 201 then sem PGM d yR_part (100, [some (.ref 14), some (.ref 13), some (.int i2), some (.int i3), some (.int i4), some (.int i5)], [], (hR Z (xA X 3 (upd (X.1 3) (((X.2.1 2) - 1)).toNatClampNeg (((X.1 3) (((X.2.1 2) - 1)).toNatClampNeg) + 1)))))
          else none
        else none := (ev_eq PGM d yR_part [5, 10, 53, 63, 73, 100, 112, 146, 162] 400 _).trans rfl
set_option maxRecDepth 100000 in
theorem eR_part_146 (d : Nat) (Z : WT) (X : XS) (i2 : Int32) (i3 : Int32) (i4 : Int32) (u5 : Option Value) : sem PGM d yR_part (146, [some (.ref 14), some (.ref 13), some (.int i2), some (.int i3), some (.int i4), u5], [], (hR Z X)) =
    sem PGM d yR_part (112, [some (.ref 14), some (.ref 13), some (.int i2), some (.int i3), some (.int (i4 + 1)), u5], [], (hR Z X)) := (ev_eq PGM d yR_part [5, 10, 53, 63, 73, 100, 112, 146, 162] 400 _).trans rfl
set_option maxRecDepth 100000 in
theorem eR_part_63 (d : Nat) (Z : WT) (X : XS) (i2 : Int32) (i3 : Int32) (i4 : Int32) (i5 : Int32) : sem PGM d yR_part (63, [some (.ref 14), some (.ref 13), some (.int i2), some (.int i3), some (.int i4), some (.int i5)], [], (hR Z X)) =
    sem PGM d yR_part (73, [some (.ref 14), some (.ref 13), some (.int i2), some (.int i3), some (.int i4), some (.int i5)], [], (hR Z (xV X 2 ((X.2.1 2) + 1)))) := (ev_eq PGM d yR_part [5, 10, 53, 63, 73, 100, 112, 146, 162] 400 _).trans rfl
set_option maxRecDepth 100000 in
theorem eR_part_100 (d : Nat) (Z : WT) (X : XS) (i2 : Int32) (i3 : Int32) (i4 : Int32) (i5 : Int32) : sem PGM d yR_part (100, [some (.ref 14), some (.ref 13), some (.int i2), some (.int i3), some (.int i4), some (.int i5)], [], (hR Z X)) =
    sem PGM d yR_part (10, [some (.ref 14), some (.ref 13), some (.int i2), some (.int i5), some (.int (i4 + 1)), some (.int i5)], [], (hR Z X)) := (ev_eq PGM d yR_part [5, 10, 53, 63, 73, 100, 112, 146, 162] 400 _).trans rfl
set_option maxRecDepth 100000 in
theorem eR_sortOf_0 (d : Nat) (Z : WT) (X : XS) (i0 : Int32) : sem PGM d yR_sortOf (0, [some (.int i0)], [], (hR Z X)) =
    bif !decide (i0 = 32) then bif decide (i0 < 97) then bif decide (i0 < 48) then some (some (.int 3), (hR Z X))
        else bif decide (57 < i0) then some (some (.int 3), (hR Z X))
          else some (some (.int 2), (hR Z X))
      else bif decide (122 < i0) then bif decide (i0 < 48) then some (some (.int 3), (hR Z X))
          else bif decide (57 < i0) then some (some (.int 3), (hR Z X))
            else some (some (.int 2), (hR Z X))
        else some (some (.int 1), (hR Z X))
    else some (some (.int 0), (hR Z X)) := (ev_eq PGM d yR_sortOf [] 400 _).trans rfl
set_option maxRecDepth 100000 in
theorem eR_tokenAt_0 (d : Nat) (Z : WT) (X : XS) (i1 : Int32) (i2 : Int32) : sem PGM d yR_tokenAt (0, [some (.ref 13), some (.int i1), some (.int i2), none, none, none], [], (hR Z X)) =
    bif inb i1 200 then aftK (sem PGM d yR_tokenAt) 1 (6, [some (.ref 13), some (.int i1), some (.int i2), none, none, none], [], (hR Z X)) (call PGM d yR_sortOf [.int ((X.1 0) (i1).toNatClampNeg)] (hR Z X))
    else none := (ev_eq PGM d yR_tokenAt [57] 400 _).trans rfl
set_option maxRecDepth 100000 in
theorem eR_tokenAt_6 (d : Nat) (Z : WT) (X : XS) (i1 : Int32) (i2 : Int32) (u5 : Option Value) (k0 : Int32) : sem PGM d yR_tokenAt (6, [some (.ref 13), some (.int i1), some (.int i2), none, none, u5], [.int k0], (hR Z X)) =
    bif !decide (k0 = 1) then bif !decide (k0 = 3) then bif decide (i2 ≤ 4) then sem PGM d yR_tokenAt (57, [some (.ref 13), some (.int i1), some (.int i2), some (.int k0), some (.int 0), some (.int 0)], [], (hR Z X))
        else some (some (.int (-2)), (hR Z X))
      else bif inb i1 200 then bif decide (0 ≤ ((X.1 0) (i1).toNatClampNeg)) then bif inb i1 200 then some (some (.int (20000 + ((X.1 0) (i1).toNatClampNeg))), (hR Z X))
            else none
          else some (some (.int (-2)), (hR Z X))
        else none
    else aftK (sem PGM d yR_tokenAt) 1 (18, [some (.ref 13), some (.int i1), some (.int i2), some (.int k0), none, u5], [], (hR Z X)) (call PGM d yR_wordAt [.ref 13, .int i1, .int i2] (hR Z X)) := (ev_eq PGM d yR_tokenAt [57] 400 _).trans rfl
set_option maxRecDepth 100000 in
theorem eR_tokenAt_57 (d : Nat) (Z : WT) (X : XS) (i1 : Int32) (i2 : Int32) (i3 : Int32) (i4 : Int32) (i5 : Int32) : sem PGM d yR_tokenAt (57, [some (.ref 13), some (.int i1), some (.int i2), some (.int i3), some (.int i4), some (.int i5)], [], (hR Z X)) =
    bif decide (i2 ≤ i5) then some (some (.int i4), (hR Z X))
    else bif inb (i1 + i5) 200 then sem PGM d yR_tokenAt (57, [some (.ref 13), some (.int i1), some (.int i2), some (.int i3), some (.int ((i4 * 10) + (((X.1 0) ((i1 + i5)).toNatClampNeg) - 48))), some (.int (i5 + 1))], [], (hR Z X))
      else none := (ev_eq PGM d yR_tokenAt [57] 400 _).trans rfl
set_option maxRecDepth 100000 in
theorem eR_tokenAt_18 (d : Nat) (Z : WT) (X : XS) (u0 : Option Value) (u1 : Option Value) (i2 : Int32) (i3 : Int32) (u5 : Option Value) (k0 : Int32) : sem PGM d yR_tokenAt (18, [u0, u1, some (.int i2), some (.int i3), none, u5], [.int k0], (hR Z X)) =
    some (some (.int k0), (hR Z X)) := (ev_eq PGM d yR_tokenAt [57] 400 _).trans rfl
set_option maxRecDepth 100000 in
theorem eR_wordAt_0 (d : Nat) (Z : WT) (X : XS) (i1 : Int32) (i2 : Int32) : sem PGM d yR_wordAt (0, [some (.ref 13), some (.int i1), some (.int i2), none, none, none, none], [], (hR Z X)) =
    sem PGM d yR_wordAt (8, [some (.ref 13), some (.int i1), some (.int i2), some (.int 0), some (.int 0), some (.int 0), none], [], (hR Z X)) := (ev_eq PGM d yR_wordAt [8] 400 _).trans rfl
set_option maxRecDepth 100000 in
theorem eR_wordAt_8 (d : Nat) (Z : WT) (X : XS) (i1 : Int32) (i2 : Int32) (i3 : Int32) (i4 : Int32) (i5 : Int32) (u6 : Option Value) : sem PGM d yR_wordAt (8, [some (.ref 13), some (.int i1), some (.int i2), some (.int i3), some (.int i4), some (.int i5), u6], [], (hR Z X)) =
    aftK (sem PGM d yR_wordAt) 1 (15, [some (.ref 13), some (.int i1), some (.int i2), some (.int i3), some (.int i4), some (.int i5), u6], [.int i5], (hR Z X)) (call PGM d yJ_String_length [.ref 10] (hR Z X)) := (ev_eq PGM d yR_wordAt [8] 400 _).trans rfl
set_option maxRecDepth 100000 in
theorem eR_wordAt_15 (d : Nat) (Z : WT) (X : XS) (i1 : Int32) (i2 : Int32) (i3 : Int32) (i4 : Int32) (i5 : Int32) (u6 : Option Value) (k0 : Int32) (k1 : Int32) : sem PGM d yR_wordAt (15, [some (.ref 13), some (.int i1), some (.int i2), some (.int i3), some (.int i4), some (.int i5), u6], [.int k1, .int k0], (hR Z X)) =
    bif decide (k1 ≤ k0) then bif !decide (i4 = i2) then some (some (.int (-2)), (hR Z X))
      else some (some (.int (10000 + i3)), (hR Z X))
    else aftK (sem PGM d yR_wordAt) 1 (25, [some (.ref 13), some (.int i1), some (.int i2), some (.int i3), some (.int i4), some (.int i5), u6], [], (hR Z X)) (call PGM d yJ_String_charAt [.ref 10, .int i5] (hR Z X)) := (ev_eq PGM d yR_wordAt [8] 400 _).trans rfl
set_option maxRecDepth 100000 in
theorem eR_wordAt_25 (d : Nat) (Z : WT) (X : XS) (i1 : Int32) (i2 : Int32) (i3 : Int32) (i4 : Int32) (i5 : Int32) (u6 : Option Value) (k0 : Int32) : sem PGM d yR_wordAt (25, [some (.ref 13), some (.int i1), some (.int i2), some (.int i3), some (.int i4), some (.int i5), u6], [.int k0], (hR Z X)) =
    bif !decide (k0 = 32) then bif decide (i4 < 0) then sem PGM d yR_wordAt (8, [some (.ref 13), some (.int i1), some (.int i2), some (.int i3), some (.int (-1)), some (.int (i5 + 1)), some (.int k0)], [], (hR Z X))
      else bif decide (i2 ≤ i4) then sem PGM d yR_wordAt (8, [some (.ref 13), some (.int i1), some (.int i2), some (.int i3), some (.int (-1)), some (.int (i5 + 1)), some (.int k0)], [], (hR Z X))
        else bif inb (i1 + i4) 200 then bif !decide (((X.1 0) ((i1 + i4)).toNatClampNeg) = k0) then sem PGM d yR_wordAt (8, [some (.ref 13), some (.int i1), some (.int i2), some (.int i3), some (.int (-1)), some (.int (i5 + 1)), some (.int k0)], [], (hR Z X))
            else sem PGM d yR_wordAt (8, [some (.ref 13), some (.int i1), some (.int i2), some (.int i3), some (.int (i4 + 1)), some (.int (i5 + 1)), some (.int k0)], [], (hR Z X))
          else none
    else bif !decide (i4 = i2) then sem PGM d yR_wordAt (8, [some (.ref 13), some (.int i1), some (.int i2), some (.int (i3 + 1)), some (.int 0), some (.int (i5 + 1)), some (.int k0)], [], (hR Z X))
      else some (some (.int (10000 + i3)), (hR Z X)) := (ev_eq PGM d yR_wordAt [8] 400 _).trans rfl
set_option maxRecDepth 100000 in
theorem eJ_String_length_0 (d : Nat) (Z : WT) (X : XS)  : sem PGM d yJ_String_length (0, [some (.ref 10)], [], (hR Z X)) =
    aftK (sem PGM d yJ_String_length) 1 (9, [some (.ref 10)], [.int (nI 123)], (hR Z X)) (call PGM d yJ_String_coder [.ref 10] (hR Z X)) := (ev_eq PGM d yJ_String_length [] 400 _).trans rfl
set_option maxRecDepth 100000 in
theorem eJ_String_length_9 (d : Nat) (Z : WT) (X : XS) (u0 : Option Value) (k0 : Int32) (k1 : Int32) : sem PGM d yJ_String_length (9, [u0], [.int k1, .int k0], (hR Z X)) =
    some (some (.int (k0 >>> (k1 &&& 31))), (hR Z X)) := (ev_eq PGM d yJ_String_length [] 400 _).trans rfl
set_option maxRecDepth 100000 in
theorem eJ_String_coder_0 (d : Nat) (Z : WT) (X : XS)  : sem PGM d yJ_String_coder (0, [some (.ref 10)], [], (hR Z X)) =
    bif nck .byte 0 then some (some (.int 0), (hR Z X)) else none := (ev_eq PGM d yJ_String_coder [] 400 _).trans rfl
set_option maxRecDepth 100000 in
theorem eJ_String_charAt_0 (d : Nat) (Z : WT) (X : XS) (i1 : Int32) : sem PGM d yJ_String_charAt (0, [some (.ref 10), some (.int i1)], [], (hR Z X)) =
    aftK (sem PGM d yJ_String_charAt) 1 (4, [some (.ref 10), some (.int i1)], [], (hR Z X)) (call PGM d yJ_String_isLatin1 [.ref 10] (hR Z X)) := (ev_eq PGM d yJ_String_charAt [] 400 _).trans rfl
set_option maxRecDepth 100000 in
theorem eJ_String_charAt_4 (d : Nat) (Z : WT) (X : XS) (i1 : Int32) (k0 : Int32) : sem PGM d yJ_String_charAt (4, [some (.ref 10), some (.int i1)], [.int k0], (hR Z X)) =
    bif decide (k0 = 0) then aftK (sem PGM d yJ_String_charAt) 1 (24, [some (.ref 10), some (.int i1)], [], (hR Z X)) (call PGM d yJ_StringUTF16_charAt [.ref 11, .int i1] (hR Z X))
    else aftK (sem PGM d yJ_String_charAt) 1 (15, [some (.ref 10), some (.int i1)], [], (hR Z X)) (call PGM d yJ_StringLatin1_charAt [.ref 11, .int i1] (hR Z X)) := (ev_eq PGM d yJ_String_charAt [] 400 _).trans rfl
set_option maxRecDepth 100000 in
theorem eJ_String_charAt_24 (d : Nat) (Z : WT) (X : XS) (u0 : Option Value) (u1 : Option Value) (k0 : Int32) : sem PGM d yJ_String_charAt (24, [u0, u1], [.int k0], (hR Z X)) =
    bif nck .char k0 then some (some (.int k0), (hR Z X)) else none := (ev_eq PGM d yJ_String_charAt [] 400 _).trans rfl
set_option maxRecDepth 100000 in
theorem eJ_String_charAt_15 (d : Nat) (Z : WT) (X : XS) (u0 : Option Value) (u1 : Option Value) (k0 : Int32) : sem PGM d yJ_String_charAt (15, [u0, u1], [.int k0], (hR Z X)) =
    bif nck .char k0 then some (some (.int k0), (hR Z X)) else none := (ev_eq PGM d yJ_String_charAt [] 400 _).trans rfl
set_option maxRecDepth 100000 in
theorem eJ_String_isLatin1_0 (d : Nat) (Z : WT) (X : XS)  : sem PGM d yJ_String_isLatin1 (0, [some (.ref 10)], [], (hR Z X)) =
    some (some (.int 1), (hR Z X)) := (ev_eq PGM d yJ_String_isLatin1 [] 400 _).trans rfl
set_option maxRecDepth 100000 in
theorem eJ_StringLatin1_charAt_0 (d : Nat) (Z : WT) (X : XS) (i1 : Int32) : sem PGM d yJ_StringLatin1_charAt (0, [some (.ref 11), some (.int i1)], [], (hR Z X)) =
    aftK (sem PGM d yJ_StringLatin1_charAt) 0 (6, [some (.ref 11), some (.int i1)], [], (hR Z X)) (call PGM d yJ_String_checkIndex [.int i1, .int (nI 123)] (hR Z X)) := (ev_eq PGM d yJ_StringLatin1_charAt [] 400 _).trans rfl
set_option maxRecDepth 100000 in
theorem eJ_StringLatin1_charAt_6 (d : Nat) (Z : WT) (X : XS) (i1 : Int32) : sem PGM d yJ_StringLatin1_charAt (6, [some (.ref 11), some (.int i1)], [], (hR Z X)) =
    bif inb i1 123 then bif nck .char ((((((fun j => strB.getD j 0) (i1).toNatClampNeg) &&& 255)).toUInt32 % 65536).toInt32) then some (some (.int ((((((fun j => strB.getD j 0) (i1).toNatClampNeg) &&& 255)).toUInt32 % 65536).toInt32)), (hR Z X)) else none
    else none := (ev_eq PGM d yJ_StringLatin1_charAt [] 400 _).trans rfl
set_option maxRecDepth 100000 in
theorem eJ_String_checkIndex_0 (d : Nat) (Z : WT) (X : XS) (i0 : Int32) (i1 : Int32) : sem PGM d yJ_String_checkIndex (0, [some (.int i0), some (.int i1)], [], (hR Z X)) =
    aftK (sem PGM d yJ_String_checkIndex) 1 (8, [some (.int i0), some (.int i1)], [], (hR Z X)) (call PGM d yJ_Preconditions_checkIndex [.int i0, .int i1, .ref 9] (hR Z X)) := (ev_eq PGM d yJ_String_checkIndex [] 400 _).trans rfl
set_option maxRecDepth 100000 in
theorem eJ_String_checkIndex_8 (d : Nat) (Z : WT) (X : XS) (u0 : Option Value) (u1 : Option Value) (k0 : Int32) : sem PGM d yJ_String_checkIndex (8, [u0, u1], [.int k0], (hR Z X)) =
    some (none, (hR Z X)) := (ev_eq PGM d yJ_String_checkIndex [] 400 _).trans rfl
set_option maxRecDepth 100000 in
theorem eJ_Preconditions_checkIndex_0 (d : Nat) (Z : WT) (X : XS) (i0 : Int32) (i1 : Int32) : sem PGM d yJ_Preconditions_checkIndex (0, [some (.int i0), some (.int i1), some (.ref 11)], [], (hR Z X)) =
    bif decide (i0 < 0) then none
    else bif decide (i0 < i1) then some (some (.int i0), (hR Z X))
      else none := (ev_eq PGM d yJ_Preconditions_checkIndex [] 400 _).trans rfl
set_option maxRecDepth 100000 in
theorem eR_token_0 (d : Nat) (Z : WT) (X : XS)  : sem PGM d yR_token (0, [some (.ref 14)], [], (hR Z X)) =
    bif inb (X.2.1 3) 201 then some (some (.int ((X.1 1) ((X.2.1 3)).toNatClampNeg)), (hR Z X))
    else none := (ev_eq PGM d yR_token [] 400 _).trans rfl
set_option maxRecDepth 100000 in
theorem eR_clause_0 (d : Nat) (Z : WT) (X : XS)  : sem PGM d yR_clause (0, [some (.ref 14)], [], (hR Z X)) =
    aftK (sem PGM d yR_clause) 1 (4, [some (.ref 14)], [], (hR Z X)) (call PGM d yR_token [.ref 14] (hR Z X)) := (ev_eq PGM d yR_clause [] 400 _).trans rfl
set_option maxRecDepth 100000 in
theorem eR_clause_4 (d : Nat) (Z : WT) (X : XS) (k0 : Int32) : sem PGM d yR_clause (4, [some (.ref 14)], [.int k0], (hR Z X)) =
    bif decide (k0 < 10006) then some (some (.int 0), (hR Z X))
    else aftK (sem PGM d yR_clause) 1 (14, [some (.ref 14)], [], (hR Z X)) (call PGM d yR_token [.ref 14] (hR Z X)) := (ev_eq PGM d yR_clause [] 400 _).trans rfl
set_option maxRecDepth 100000 in
theorem eR_clause_14 (d : Nat) (Z : WT) (X : XS) (k0 : Int32) : sem PGM d yR_clause (14, [some (.ref 14)], [.int k0], (hR Z X)) =
    bif decide (k0 < 10014) then aftK (sem PGM d yR_clause) 1 (34, [some (.ref 14)], [.int (X.2.1 4), .ref 18], (hR Z X)) (call PGM d yR_token [.ref 14] (hR Z X))
    else some (some (.int 0), (hR Z X)) := (ev_eq PGM d yR_clause [] 400 _).trans rfl
set_option maxRecDepth 100000 in
theorem eR_clause_34 (d : Nat) (Z : WT) (X : XS) (k1 : Int32) (k2 : Int32) : sem PGM d yR_clause (34, [some (.ref 14)], [.int k2, .int k1, .ref 18], (hR Z X)) =
    bif inb k1 8 then aftK (sem PGM d yR_clause) 0 (43, [some (.ref 14)], [], (hR Z (xA X 4 (upd (X.1 4) (k1).toNatClampNeg (k2 - 10006))))) (call PGM d yR_pass [.ref 14] (hR Z (xA X 4 (upd (X.1 4) (k1).toNatClampNeg (k2 - 10006)))))
    else none := (ev_eq PGM d yR_clause [] 400 _).trans rfl
set_option maxRecDepth 100000 in
theorem eR_clause_43 (d : Nat) (Z : WT) (X : XS)  : sem PGM d yR_clause (43, [some (.ref 14)], [], (hR Z X)) =
    aftK (sem PGM d yR_clause) 1 (47, [some (.ref 14)], [], (hR Z X)) (call PGM d yR_token [.ref 14] (hR Z X)) := (ev_eq PGM d yR_clause [] 400 _).trans rfl
set_option maxRecDepth 100000 in
theorem eR_clause_47 (d : Nat) (Z : WT) (X : XS) (k0 : Int32) : sem PGM d yR_clause (47, [some (.ref 14)], [.int k0], (hR Z X)) =
    bif decide (k0 < 10014) then some (some (.int 0), (hR Z X))
    else aftK (sem PGM d yR_clause) 1 (57, [some (.ref 14)], [], (hR Z X)) (call PGM d yR_token [.ref 14] (hR Z X)) := (ev_eq PGM d yR_clause [] 400 _).trans rfl
set_option maxRecDepth 100000 in
theorem eR_clause_57 (d : Nat) (Z : WT) (X : XS) (k0 : Int32) : sem PGM d yR_clause (57, [some (.ref 14)], [.int k0], (hR Z X)) =
    bif decide (k0 < 10018) then aftK (sem PGM d yR_clause) 1 (77, [some (.ref 14)], [.int (X.2.1 4), .ref 19], (hR Z X)) (call PGM d yR_token [.ref 14] (hR Z X))
    else some (some (.int 0), (hR Z X)) := (ev_eq PGM d yR_clause [] 400 _).trans rfl
set_option maxRecDepth 100000 in
theorem eR_clause_77 (d : Nat) (Z : WT) (X : XS) (k1 : Int32) (k2 : Int32) : sem PGM d yR_clause (77, [some (.ref 14)], [.int k2, .int k1, .ref 19], (hR Z X)) =
    bif inb k1 8 then aftK (sem PGM d yR_clause) 0 (86, [some (.ref 14)], [], (hR Z (xA X 5 (upd (X.1 5) (k1).toNatClampNeg (k2 - 10014))))) (call PGM d yR_pass [.ref 14] (hR Z (xA X 5 (upd (X.1 5) (k1).toNatClampNeg (k2 - 10014)))))
    else none := (ev_eq PGM d yR_clause [] 400 _).trans rfl
set_option maxRecDepth 100000 in
theorem eR_clause_86 (d : Nat) (Z : WT) (X : XS)  : sem PGM d yR_clause (86, [some (.ref 14)], [], (hR Z X)) =
    aftK (sem PGM d yR_clause) 1 (93, [some (.ref 14)], [], (hR Z X)) (call PGM d yR_passes [.ref 14, .int 10018] (hR Z X)) := (ev_eq PGM d yR_clause [] 400 _).trans rfl
set_option maxRecDepth 100000 in
theorem eR_clause_93 (d : Nat) (Z : WT) (X : XS) (k0 : Int32) : sem PGM d yR_clause (93, [some (.ref 14)], [.int k0], (hR Z X)) =
    bif decide (k0 = 0) then bif inb (X.2.1 4) 8 then aftK (sem PGM d yR_clause) 1 (126, [some (.ref 14)], [], (hR Z (xA X 6 (upd (X.1 6) ((X.2.1 4)).toNatClampNeg (X.2.1 5))))) (call PGM d yR_passes [.ref 14, .int 20059] (hR Z (xA X 6 (upd (X.1 6) ((X.2.1 4)).toNatClampNeg (X.2.1 5)))))
      else none
    else aftK (sem PGM d yR_clause) 1 (101, [some (.ref 14)], [], (hR Z X)) (call PGM d yR_condition [.ref 14, .int 0] (hR Z X)) := (ev_eq PGM d yR_clause [] 400 _).trans rfl
set_option maxRecDepth 100000 in
theorem eR_clause_126 (d : Nat) (Z : WT) (X : XS) (u0 : Option Value) (k0 : Int32) : sem PGM d yR_clause (126, [u0], [.int k0], (hR Z X)) =
    bif isB k0 then some (some (.int k0), (hR Z X)) else none := (ev_eq PGM d yR_clause [] 400 _).trans rfl
set_option maxRecDepth 100000 in
theorem eR_clause_101 (d : Nat) (Z : WT) (X : XS) (k0 : Int32) : sem PGM d yR_clause (101, [some (.ref 14)], [.int k0], (hR Z X)) =
    bif !decide (k0 = 0) then bif inb (X.2.1 4) 8 then aftK (sem PGM d yR_clause) 1 (126, [some (.ref 14)], [], (hR Z (xA X 6 (upd (X.1 6) ((X.2.1 4)).toNatClampNeg (X.2.1 5))))) (call PGM d yR_passes [.ref 14, .int 20059] (hR Z (xA X 6 (upd (X.1 6) ((X.2.1 4)).toNatClampNeg (X.2.1 5)))))
      else none
    else some (some (.int 0), (hR Z X)) := (ev_eq PGM d yR_clause [] 400 _).trans rfl
set_option maxRecDepth 100000 in
theorem eR_pass_0 (d : Nat) (Z : WT) (X : XS)  : sem PGM d yR_pass (0, [some (.ref 14)], [], (hR Z X)) =
    bif decide ((X.2.1 2) ≤ (X.2.1 3)) then some (none, (hR Z X))
    else some (none, (hR Z (xV X 3 ((X.2.1 3) + 1)))) := (ev_eq PGM d yR_pass [] 400 _).trans rfl
set_option maxRecDepth 100000 in
theorem eR_passes_0 (d : Nat) (Z : WT) (X : XS) (i1 : Int32) : sem PGM d yR_passes (0, [some (.ref 14), some (.int i1)], [], (hR Z X)) =
    bif inb (X.2.1 3) 201 then bif decide (((X.1 1) ((X.2.1 3)).toNatClampNeg) = i1) then bif decide ((X.2.1 2) ≤ (X.2.1 3)) then some (some (.int 1), (hR Z X))
        else some (some (.int 1), (hR Z (xV X 3 ((X.2.1 3) + 1))))
      else some (some (.int 0), (hR Z X))
    else none := (ev_eq PGM d yR_passes [] 400 _).trans rfl
set_option maxRecDepth 100000 in
theorem eR_condition_0 (d : Nat) (Z : WT) (X : XS) (i1 : Int32) : sem PGM d yR_condition (0, [some (.ref 14), some (.int i1), none], [], (hR Z X)) =
    aftK (sem PGM d yR_condition) 1 (5, [some (.ref 14), some (.int i1), none], [], (hR Z X)) (call PGM d yR_allOf [.ref 14, .int i1] (hR Z X)) := (ev_eq PGM d yR_condition [12] 400 _).trans rfl
set_option maxRecDepth 100000 in
theorem eR_condition_5 (d : Nat) (Z : WT) (X : XS) (i1 : Int32) (u2 : Option Value) (k0 : Int32) : sem PGM d yR_condition (5, [some (.ref 14), some (.int i1), u2], [.int k0], (hR Z X)) =
    bif !decide (k0 = 0) then sem PGM d yR_condition (12, [some (.ref 14), some (.int i1), some (.int 0)], [], (hR Z X))
    else some (some (.int 0), (hR Z X)) := (ev_eq PGM d yR_condition [12] 400 _).trans rfl
set_option maxRecDepth 100000 in
theorem eR_condition_12 (d : Nat) (Z : WT) (X : XS) (i1 : Int32) (i2 : Int32) : sem PGM d yR_condition (12, [some (.ref 14), some (.int i1), some (.int i2)], [], (hR Z X)) =
    bif decide ((X.2.1 2) ≤ i2) then some (some (.int 1), (hR Z X))
    else aftK (sem PGM d yR_condition) 1 (27, [some (.ref 14), some (.int i1), some (.int i2)], [], (hR Z X)) (call PGM d yR_passes [.ref 14, .int 10019] (hR Z X)) := (ev_eq PGM d yR_condition [12] 400 _).trans rfl
set_option maxRecDepth 100000 in
theorem eR_condition_27 (d : Nat) (Z : WT) (X : XS) (i1 : Int32) (i2 : Int32) (k0 : Int32) : sem PGM d yR_condition (27, [some (.ref 14), some (.int i1), some (.int i2)], [.int k0], (hR Z X)) =
    bif decide (k0 = 0) then some (some (.int 1), (hR Z X))
    else aftK (sem PGM d yR_condition) 1 (35, [some (.ref 14), some (.int i1), some (.int i2)], [], (hR Z X)) (call PGM d yR_allOf [.ref 14, .int i1] (hR Z X)) := (ev_eq PGM d yR_condition [12] 400 _).trans rfl
set_option maxRecDepth 100000 in
theorem eR_condition_35 (d : Nat) (Z : WT) (X : XS) (i1 : Int32) (i2 : Int32) (k0 : Int32) : sem PGM d yR_condition (35, [some (.ref 14), some (.int i1), some (.int i2)], [.int k0], (hR Z X)) =
    bif !decide (k0 = 0) then aftK (sem PGM d yR_condition) 0 (47, [some (.ref 14), some (.int i1), some (.int i2)], [], (hR Z X)) (call PGM d yR_addStep [.ref 14, .int 4, .int 0, .int 0] (hR Z X))
    else some (some (.int 0), (hR Z X)) := (ev_eq PGM d yR_condition [12] 400 _).trans rfl
set_option maxRecDepth 100000 in
theorem eR_condition_47 (d : Nat) (Z : WT) (X : XS) (i1 : Int32) (i2 : Int32) : sem PGM d yR_condition (47, [some (.ref 14), some (.int i1), some (.int i2)], [], (hR Z X)) =
    sem PGM d yR_condition (12, [some (.ref 14), some (.int i1), some (.int (i2 + 1))], [], (hR Z X)) := (ev_eq PGM d yR_condition [12] 400 _).trans rfl
