/-! Equations of blocks, by wip/whole/gen/alleq.py. -/
set_option maxRecDepth 100000 in
theorem eB_street_0 (d : Nat) (g : GT) (X : XS) (N T K : SS) (M : MS) (dd : AH) (i1 : Int32) : sem PGM d yB_street (0, [some (.ref 12), some (.int i1)], [], (heapOf g X N T K M dd)) =
    bif decide (i1 < 2) then some (some (.int (-1)), (heapOf g X N T K M dd))
    else bif decide (i1 ≤ 30) then aftK (sem PGM d yB_street) 0 (21, [some (.ref 12), some (.int i1)], [], (heapOf g X N T K M dd)) (call PGM d yS_lay [.ref 43, .int i1] (heapOf g X N T K M dd))
      else some (some (.int (-1)), (heapOf g X N T K M dd)) := (ev_eq PGM d yB_street [] 400 _).trans rfl
set_option maxRecDepth 100000 in
theorem eB_street_21 (d : Nat) (g : GT) (X : XS) (N T K : SS) (M : MS) (dd : AH) (u0 : Option Value) (i1 : Int32) : sem PGM d yB_street (21, [u0, some (.int i1)], [], (heapOf g X N T K M dd)) =
    some (some (.int i1), (heapOf g X N T K M dd)) := (ev_eq PGM d yB_street [] 400 _).trans rfl
set_option maxRecDepth 100000 in
theorem eB_cell_0 (d : Nat) (g : GT) (X : XS) (N T K : SS) (M : MS) (dd : AH) (i1 : Int32) (i2 : Int32) (i3 : Int32) : sem PGM d yB_cell (0, [some (.ref 12), some (.int i1), some (.int i2), some (.int i3), none], [], (heapOf g X N T K M dd)) =
    aftK (sem PGM d yB_cell) 1 (8, [some (.ref 12), some (.int i1), some (.int i2), some (.int i3), none], [], (heapOf g X N T K M dd)) (call PGM d yS_hasCell [.ref 43, .int i1] (heapOf g X N T K M dd)) := (ev_eq PGM d yB_cell [] 400 _).trans rfl
set_option maxRecDepth 100000 in
theorem eB_cell_8 (d : Nat) (g : GT) (X : XS) (N T K : SS) (M : MS) (dd : AH) (i1 : Int32) (i2 : Int32) (i3 : Int32) (u4 : Option Value) (k0 : Int32) : sem PGM d yB_cell (8, [some (.ref 12), some (.int i1), some (.int i2), some (.int i3), u4], [.int k0], (heapOf g X N T K M dd)) =
    bif decide (k0 = 0) then some (some (.int (-1)), (heapOf g X N T K M dd))
    else bif decide (i2 < 0) then some (some (.int (-1)), (heapOf g X N T K M dd))
      else bif decide (i2 ≤ 2) then bif inb i2 3 then bif decide (i3 < ((gvA 4) (i2).toNatClampNeg)) then some (some (.int (-1)), (heapOf g X N T K M dd))
            else bif inb i2 3 then bif decide (i3 ≤ ((gvA 5) (i2).toNatClampNeg)) then bif decide (i2 = nI 0) && true && true && true then bif inb i1 30 then bif decide (i2 = nI 0) && true && true && true then bif inb i1 30 then some (some (.int ((N.1 0) (i1).toNatClampNeg)), (heapOf g X (sA N 0 (upd (N.1 0) (i1).toNatClampNeg i3)) T K M dd))
                        else none
                      else bif decide (i2 = nI 1) && true && true && true then bif inb i1 30 then some (some (.int ((N.1 0) (i1).toNatClampNeg)), (heapOf g X (sA N 1 (upd (N.1 1) (i1).toNatClampNeg i3)) T K M dd))
                        else none
                      else bif decide (i2 = nI 2) && true && true && true then bif inb i1 30 then some (some (.int ((N.1 0) (i1).toNatClampNeg)), (heapOf g X (sA N 2 (upd (N.1 2) (i1).toNatClampNeg i3)) T K M dd))
                        else none
                      else none
                    else none
                  else bif decide (i2 = nI 1) && true && true && true then bif inb i1 30 then bif decide (i2 = nI 0) && true && true && true then bif inb i1 30 then some (some (.int ((N.1 1) (i1).toNatClampNeg)), (heapOf g X (sA N 0 (upd (N.1 0) (i1).toNatClampNeg i3)) T K M dd))
                        else none
                      else bif decide (i2 = nI 1) && true && true && true then bif inb i1 30 then some (some (.int ((N.1 1) (i1).toNatClampNeg)), (heapOf g X (sA N 1 (upd (N.1 1) (i1).toNatClampNeg i3)) T K M dd))
                        else none
                      else bif decide (i2 = nI 2) && true && true && true then bif inb i1 30 then some (some (.int ((N.1 1) (i1).toNatClampNeg)), (heapOf g X (sA N 2 (upd (N.1 2) (i1).toNatClampNeg i3)) T K M dd))
                        else none
                      else none
                    else none
                  else bif decide (i2 = nI 2) && true && true && true then bif inb i1 30 then bif decide (i2 = nI 0) && true && true && true then bif inb i1 30 then some (some (.int ((N.1 2) (i1).toNatClampNeg)), (heapOf g X (sA N 0 (upd (N.1 0) (i1).toNatClampNeg i3)) T K M dd))
                        else none
                      else bif decide (i2 = nI 1) && true && true && true then bif inb i1 30 then some (some (.int ((N.1 2) (i1).toNatClampNeg)), (heapOf g X (sA N 1 (upd (N.1 1) (i1).toNatClampNeg i3)) T K M dd))
                        else none
                      else bif decide (i2 = nI 2) && true && true && true then bif inb i1 30 then some (some (.int ((N.1 2) (i1).toNatClampNeg)), (heapOf g X (sA N 2 (upd (N.1 2) (i1).toNatClampNeg i3)) T K M dd))
                        else none
                      else none
                    else none
                  else none
                else some (some (.int (-1)), (heapOf g X N T K M dd))
              else none
          else none
        else some (some (.int (-1)), (heapOf g X N T K M dd)) := (ev_eq PGM d yB_cell [] 400 _).trans rfl
set_option maxRecDepth 100000 in
theorem eB_cellOf_0 (d : Nat) (g : GT) (X : XS) (N T K : SS) (M : MS) (dd : AH) (i1 : Int32) (i2 : Int32) : sem PGM d yB_cellOf (0, [some (.ref 12), some (.int i1), some (.int i2)], [], (heapOf g X N T K M dd)) =
    aftK (sem PGM d yB_cellOf) 1 (8, [some (.ref 12), some (.int i1), some (.int i2)], [], (heapOf g X N T K M dd)) (call PGM d yS_hasCell [.ref 43, .int i1] (heapOf g X N T K M dd)) := (ev_eq PGM d yB_cellOf [] 400 _).trans rfl
set_option maxRecDepth 100000 in
theorem eB_cellOf_8 (d : Nat) (g : GT) (X : XS) (N T K : SS) (M : MS) (dd : AH) (i1 : Int32) (i2 : Int32) (k0 : Int32) : sem PGM d yB_cellOf (8, [some (.ref 12), some (.int i1), some (.int i2)], [.int k0], (heapOf g X N T K M dd)) =
    bif !decide (k0 = 0) then bif decide (i2 = Int32.ofInt 0) then bif decide (i2 = nI 0) && true && true && true then bif inb i1 30 then some (some (.int ((N.1 0) (i1).toNatClampNeg)), (heapOf g X N T K M dd))
          else none
        else bif decide (i2 = nI 1) && true && true && true then bif inb i1 30 then some (some (.int ((N.1 1) (i1).toNatClampNeg)), (heapOf g X N T K M dd))
          else none
        else bif decide (i2 = nI 2) && true && true && true then bif inb i1 30 then some (some (.int ((N.1 2) (i1).toNatClampNeg)), (heapOf g X N T K M dd))
          else none
        else none
      else bif decide (i2 = Int32.ofInt 1) then bif decide (i2 = nI 0) && true && true && true then bif inb i1 30 then some (some (.int ((N.1 0) (i1).toNatClampNeg)), (heapOf g X N T K M dd))
          else none
        else bif decide (i2 = nI 1) && true && true && true then bif inb i1 30 then some (some (.int ((N.1 1) (i1).toNatClampNeg)), (heapOf g X N T K M dd))
          else none
        else bif decide (i2 = nI 2) && true && true && true then bif inb i1 30 then some (some (.int ((N.1 2) (i1).toNatClampNeg)), (heapOf g X N T K M dd))
          else none
        else none
      else bif decide (i2 = Int32.ofInt 2) then bif decide (i2 = nI 0) && true && true && true then bif inb i1 30 then some (some (.int ((N.1 0) (i1).toNatClampNeg)), (heapOf g X N T K M dd))
          else none
        else bif decide (i2 = nI 1) && true && true && true then bif inb i1 30 then some (some (.int ((N.1 1) (i1).toNatClampNeg)), (heapOf g X N T K M dd))
          else none
        else bif decide (i2 = nI 2) && true && true && true then bif inb i1 30 then some (some (.int ((N.1 2) (i1).toNatClampNeg)), (heapOf g X N T K M dd))
          else none
        else none
      else bif decide (i2 = Int32.ofInt 3) then bif inb i1 30 then some (some (.int ((N.1 3) (i1).toNatClampNeg)), (heapOf g X N T K M dd))
        else none
      else bif decide (i2 = Int32.ofInt 4) then bif inb i1 30 then some (some (.int ((N.1 4) (i1).toNatClampNeg)), (heapOf g X N T K M dd))
        else none
      else bif decide (i2 = Int32.ofInt 5) then aftK (sem PGM d yB_cellOf) 1 (92, [some (.ref 12), some (.int i1), some (.int i2)], [], (heapOf g X N T K M dd)) (call PGM d yS_beastsIn [.ref 43, .int i1] (heapOf g X N T K M dd))
      else some (some (.int (-1)), (heapOf g X N T K M dd))
    else some (some (.int (-1)), (heapOf g X N T K M dd)) := (ev_eq PGM d yB_cellOf [] 400 _).trans rfl
set_option maxRecDepth 100000 in
theorem eB_cellOf_92 (d : Nat) (g : GT) (X : XS) (N T K : SS) (M : MS) (dd : AH) (u0 : Option Value) (u1 : Option Value) (u2 : Option Value) (k0 : Int32) : sem PGM d yB_cellOf (92, [u0, u1, u2], [.int k0], (heapOf g X N T K M dd)) =
    some (some (.int k0), (heapOf g X N T K M dd)) := (ev_eq PGM d yB_cellOf [] 400 _).trans rfl
set_option maxRecDepth 100000 in
theorem eB_rule_0 (d : Nat) (g : GT) (X : XS) (N T K : SS) (M : MS) (dd : AH) (i1 : Int32) (i2 : Int32) : sem PGM d yB_rule (0, [some (.ref 12), some (.int i1), some (.int i2), none], [], (heapOf g X N T K M dd)) =
    bif decide (i1 < 0) then some (some (.int (-1)), (heapOf g X N T K M dd))
    else bif decide (2 < i1) then some (some (.int (-1)), (heapOf g X N T K M dd))
      else bif inb i1 3 then bif decide (i2 < ((gvA 7) (i1).toNatClampNeg)) then some (some (.int (-1)), (heapOf g X N T K M dd))
          else bif inb i1 3 then bif decide (i2 ≤ ((gvA 8) (i1).toNatClampNeg)) then bif inb i1 3 then bif inb i1 3 then some (some (.int ((N.1 12) (i1).toNatClampNeg)), (heapOf g X (sA N 12 (upd (N.1 12) (i1).toNatClampNeg i2)) T K M dd))
                  else none
                else none
              else some (some (.int (-1)), (heapOf g X N T K M dd))
            else none
        else none := (ev_eq PGM d yB_rule [] 400 _).trans rfl
set_option maxRecDepth 100000 in
theorem eB_seed_0 (d : Nat) (g : GT) (X : XS) (N T K : SS) (M : MS) (dd : AH) (i1 : Int32) : sem PGM d yB_seed (0, [some (.ref 12), some (.int i1), none], [], (heapOf g X N T K M dd)) =
    some (some (.int (N.2.1 4)), (heapOf g X (sV N 4 i1) T K M dd)) := (ev_eq PGM d yB_seed [] 400 _).trans rfl
set_option maxRecDepth 100000 in
theorem eB_person_0 (d : Nat) (g : GT) (X : XS) (N T K : SS) (M : MS) (dd : AH) (i1 : Int32) (i2 : Int32) (i3 : Int32) : sem PGM d yB_person (0, [some (.ref 12), some (.int i1), some (.int i2), some (.int i3)], [], (heapOf g X N T K M dd)) =
    aftK (sem PGM d yB_person) 1 (4, [some (.ref 12), some (.int i1), some (.int i2), some (.int i3)], [], (heapOf g X N T K M dd)) (call PGM d yB_isPersonKind [.int i1] (heapOf g X N T K M dd)) := (ev_eq PGM d yB_person [] 400 _).trans rfl
set_option maxRecDepth 100000 in
theorem eB_person_4 (d : Nat) (g : GT) (X : XS) (N T K : SS) (M : MS) (dd : AH) (i1 : Int32) (i2 : Int32) (i3 : Int32) (k0 : Int32) : sem PGM d yB_person (4, [some (.ref 12), some (.int i1), some (.int i2), some (.int i3)], [.int k0], (heapOf g X N T K M dd)) =
    bif decide (k0 = 0) then some (some (.int (-1)), (heapOf g X N T K M dd))
    else aftK (sem PGM d yB_person) 1 (15, [some (.ref 12), some (.int i1), some (.int i2), some (.int i3)], [], (heapOf g X N T K M dd)) (call PGM d yS_hasCell [.ref 43, .int i2] (heapOf g X N T K M dd)) := (ev_eq PGM d yB_person [] 400 _).trans rfl
set_option maxRecDepth 100000 in
theorem eB_person_15 (d : Nat) (g : GT) (X : XS) (N T K : SS) (M : MS) (dd : AH) (i1 : Int32) (i2 : Int32) (i3 : Int32) (k0 : Int32) : sem PGM d yB_person (15, [some (.ref 12), some (.int i1), some (.int i2), some (.int i3)], [.int k0], (heapOf g X N T K M dd)) =
    bif decide (k0 = 0) then some (some (.int (-1)), (heapOf g X N T K M dd))
    else bif decide (i3 < 1) then some (some (.int (-1)), (heapOf g X N T K M dd))
      else bif decide (i3 ≤ 3) then bif decide ((N.2.1 1) < 20) then aftK (sem PGM d yB_person) 1 (55, [some (.ref 12), some (.int i1), some (.int i2), some (.int i3)], [], (heapOf g X N T K M dd)) (call PGM d yS_addPerson [.ref 43, .int i1, .int i2, .int i3] (heapOf g X N T K M dd))
          else some (some (.int (-2)), (heapOf g X N T K M dd))
        else some (some (.int (-1)), (heapOf g X N T K M dd)) := (ev_eq PGM d yB_person [] 400 _).trans rfl
set_option maxRecDepth 100000 in
theorem eB_person_55 (d : Nat) (g : GT) (X : XS) (N T K : SS) (M : MS) (dd : AH) (u0 : Option Value) (u1 : Option Value) (u2 : Option Value) (u3 : Option Value) (k0 : Int32) : sem PGM d yB_person (55, [u0, u1, u2, u3], [.int k0], (heapOf g X N T K M dd)) =
    some (some (.int k0), (heapOf g X N T K M dd)) := (ev_eq PGM d yB_person [] 400 _).trans rfl
set_option maxRecDepth 100000 in
theorem eB_isPersonKind_0 (d : Nat) (h : AH) (i0 : Int32) : sem PGM d yB_isPersonKind (0, [some (.int i0)], [], h) =
    bif decide (i0 < 1) then some (some (.int 0), h)
    else bif decide (7 < i0) then some (some (.int 0), h)
      else some (some (.int 1), h) := (ev_eq PGM d yB_isPersonKind [] 400 _).trans rfl
set_option maxRecDepth 100000 in
theorem eB_personOf_0 (d : Nat) (g : GT) (X : XS) (N T K : SS) (M : MS) (dd : AH) (i1 : Int32) (i2 : Int32) : sem PGM d yB_personOf (0, [some (.ref 12), some (.int i1), some (.int i2)], [], (heapOf g X N T K M dd)) =
    aftK (sem PGM d yB_personOf) 1 (8, [some (.ref 12), some (.int i1), some (.int i2)], [], (heapOf g X N T K M dd)) (call PGM d yS_hasPerson [.ref 43, .int i1] (heapOf g X N T K M dd)) := (ev_eq PGM d yB_personOf [] 400 _).trans rfl
set_option maxRecDepth 100000 in
theorem eB_personOf_8 (d : Nat) (g : GT) (X : XS) (N T K : SS) (M : MS) (dd : AH) (i1 : Int32) (i2 : Int32) (k0 : Int32) : sem PGM d yB_personOf (8, [some (.ref 12), some (.int i1), some (.int i2)], [.int k0], (heapOf g X N T K M dd)) =
    bif !decide (k0 = 0) then bif decide (i2 = Int32.ofInt 0) then bif inb i1 20 then some (some (.int ((N.1 5) (i1).toNatClampNeg)), (heapOf g X N T K M dd))
        else none
      else bif decide (i2 = Int32.ofInt 1) then bif inb i1 20 then some (some (.int ((N.1 6) (i1).toNatClampNeg)), (heapOf g X N T K M dd))
        else none
      else bif decide (i2 = Int32.ofInt 2) then bif inb i1 20 then some (some (.int ((N.1 7) (i1).toNatClampNeg)), (heapOf g X N T K M dd))
        else none
      else bif decide (i2 = Int32.ofInt 3) then bif inb i1 20 then some (some (.int ((N.1 8) (i1).toNatClampNeg)), (heapOf g X N T K M dd))
        else none
      else bif decide (i2 = Int32.ofInt 4) then aftK (sem PGM d yB_personOf) 1 (96, [some (.ref 12), some (.int i1), some (.int i2)], [], (heapOf g X N T K M dd)) (call PGM d yS_isOut [.ref 43, .int i1] (heapOf g X N T K M dd))
      else some (some (.int (-1)), (heapOf g X N T K M dd))
    else some (some (.int (-1)), (heapOf g X N T K M dd)) := (ev_eq PGM d yB_personOf [] 400 _).trans rfl
set_option maxRecDepth 100000 in
theorem eB_personOf_96 (d : Nat) (g : GT) (X : XS) (N T K : SS) (M : MS) (dd : AH) (i1 : Int32) (u2 : Option Value) (k0 : Int32) : sem PGM d yB_personOf (96, [some (.ref 12), some (.int i1), u2], [.int k0], (heapOf g X N T K M dd)) =
    bif decide (k0 = 0) then aftK (sem PGM d yB_personOf) 1 (112, [some (.ref 12), some (.int i1), u2], [], (heapOf g X N T K M dd)) (call PGM d yS_nearOf [.ref 43, .int i1] (heapOf g X N T K M dd))
    else some (some (.int (-9)), (heapOf g X N T K M dd)) := (ev_eq PGM d yB_personOf [] 400 _).trans rfl
set_option maxRecDepth 100000 in
theorem eB_personOf_112 (d : Nat) (g : GT) (X : XS) (N T K : SS) (M : MS) (dd : AH) (u0 : Option Value) (u1 : Option Value) (u2 : Option Value) (k0 : Int32) : sem PGM d yB_personOf (112, [u0, u1, u2], [.int k0], (heapOf g X N T K M dd)) =
    some (some (.int k0), (heapOf g X N T K M dd)) := (ev_eq PGM d yB_personOf [] 400 _).trans rfl
set_option maxRecDepth 100000 in
theorem eB_beast_0 (d : Nat) (g : GT) (X : XS) (N T K : SS) (M : MS) (dd : AH) (i1 : Int32) (i2 : Int32) : sem PGM d yB_beast (0, [some (.ref 12), some (.int i1), some (.int i2)], [], (heapOf g X N T K M dd)) =
    aftK (sem PGM d yB_beast) 1 (8, [some (.ref 12), some (.int i1), some (.int i2)], [], (heapOf g X N T K M dd)) (call PGM d yS_hasCell [.ref 43, .int i1] (heapOf g X N T K M dd)) := (ev_eq PGM d yB_beast [] 400 _).trans rfl
set_option maxRecDepth 100000 in
theorem eB_beast_8 (d : Nat) (g : GT) (X : XS) (N T K : SS) (M : MS) (dd : AH) (i1 : Int32) (i2 : Int32) (k0 : Int32) : sem PGM d yB_beast (8, [some (.ref 12), some (.int i1), some (.int i2)], [.int k0], (heapOf g X N T K M dd)) =
    bif decide (k0 = 0) then some (some (.int (-1)), (heapOf g X N T K M dd))
    else bif decide (i2 < 1) then some (some (.int (-1)), (heapOf g X N T K M dd))
      else bif decide (i2 ≤ 4) then bif decide ((N.2.1 2) < 6) then aftK (sem PGM d yB_beast) 1 (47, [some (.ref 12), some (.int i1), some (.int i2)], [], (heapOf g X N T K M dd)) (call PGM d yS_addBeast [.ref 43, .int i1, .int i2] (heapOf g X N T K M dd))
          else some (some (.int (-2)), (heapOf g X N T K M dd))
        else some (some (.int (-1)), (heapOf g X N T K M dd)) := (ev_eq PGM d yB_beast [] 400 _).trans rfl
set_option maxRecDepth 100000 in
theorem eB_beast_47 (d : Nat) (g : GT) (X : XS) (N T K : SS) (M : MS) (dd : AH) (u0 : Option Value) (u1 : Option Value) (u2 : Option Value) (k0 : Int32) : sem PGM d yB_beast (47, [u0, u1, u2], [.int k0], (heapOf g X N T K M dd)) =
    some (some (.int k0), (heapOf g X N T K M dd)) := (ev_eq PGM d yB_beast [] 400 _).trans rfl
set_option maxRecDepth 100000 in
theorem eB_beastOf_0 (d : Nat) (g : GT) (X : XS) (N T K : SS) (M : MS) (dd : AH) (i1 : Int32) (i2 : Int32) : sem PGM d yB_beastOf (0, [some (.ref 12), some (.int i1), some (.int i2)], [], (heapOf g X N T K M dd)) =
    aftK (sem PGM d yB_beastOf) 1 (8, [some (.ref 12), some (.int i1), some (.int i2)], [], (heapOf g X N T K M dd)) (call PGM d yS_hasBeast [.ref 43, .int i1] (heapOf g X N T K M dd)) := (ev_eq PGM d yB_beastOf [] 400 _).trans rfl
set_option maxRecDepth 100000 in
theorem eB_beastOf_8 (d : Nat) (g : GT) (X : XS) (N T K : SS) (M : MS) (dd : AH) (i1 : Int32) (i2 : Int32) (k0 : Int32) : sem PGM d yB_beastOf (8, [some (.ref 12), some (.int i1), some (.int i2)], [.int k0], (heapOf g X N T K M dd)) =
    bif !decide (k0 = 0) then bif decide (i2 = Int32.ofInt 0) then bif inb i1 6 then some (some (.int ((N.1 9) (i1).toNatClampNeg)), (heapOf g X N T K M dd))
        else none
      else bif decide (i2 = Int32.ofInt 1) then bif inb i1 6 then some (some (.int ((N.1 10) (i1).toNatClampNeg)), (heapOf g X N T K M dd))
        else none
      else bif decide (i2 = Int32.ofInt 2) then bif inb i1 6 then some (some (.int ((N.1 11) (i1).toNatClampNeg)), (heapOf g X N T K M dd))
        else none
      else some (some (.int (-1)), (heapOf g X N T K M dd))
    else some (some (.int (-1)), (heapOf g X N T K M dd)) := (ev_eq PGM d yB_beastOf [] 400 _).trans rfl
set_option maxRecDepth 100000 in
theorem eB_moves_0 (d : Nat) (g : GT) (X : XS) (N T K : SS) (M : MS) (dd : AH) (i1 : Int32) (i2 : Int32) (i3 : Int32) : sem PGM d yB_moves (0, [some (.ref 12), some (.int i1), some (.int i2), some (.int i3), none], [], (heapOf g X N T K M dd)) =
    aftK (sem PGM d yB_moves) 1 (8, [some (.ref 12), some (.int i1), some (.int i2), some (.int i3), none], [], (heapOf g X N T K M dd)) (call PGM d yS_hasPerson [.ref 43, .int i1] (heapOf g X N T K M dd)) := (ev_eq PGM d yB_moves [] 400 _).trans rfl
set_option maxRecDepth 100000 in
theorem eB_moves_8 (d : Nat) (g : GT) (X : XS) (N T K : SS) (M : MS) (dd : AH) (i1 : Int32) (i2 : Int32) (i3 : Int32) (u4 : Option Value) (k0 : Int32) : sem PGM d yB_moves (8, [some (.ref 12), some (.int i1), some (.int i2), some (.int i3), u4], [.int k0], (heapOf g X N T K M dd)) =
    bif decide (k0 = 0) then some (some (.int (-1)), (heapOf g X N T K M dd))
    else aftK (sem PGM d yB_moves) 1 (19, [some (.ref 12), some (.int i1), some (.int i2), some (.int i3), u4], [], (heapOf g X N T K M dd)) (call PGM d yS_hasCell [.ref 43, .int i2] (heapOf g X N T K M dd)) := (ev_eq PGM d yB_moves [] 400 _).trans rfl
set_option maxRecDepth 100000 in
theorem eB_moves_19 (d : Nat) (g : GT) (X : XS) (N T K : SS) (M : MS) (dd : AH) (i1 : Int32) (i2 : Int32) (i3 : Int32) (u4 : Option Value) (k0 : Int32) : sem PGM d yB_moves (19, [some (.ref 12), some (.int i1), some (.int i2), some (.int i3), u4], [.int k0], (heapOf g X N T K M dd)) =
    bif decide (k0 = 0) then some (some (.int (-1)), (heapOf g X N T K M dd))
    else aftK (sem PGM d yB_moves) 1 (26, [some (.ref 12), some (.int i1), some (.int i2), some (.int i3), u4], [], (heapOf g X N T K M dd)) (call PGM d yB_isPersonKind [.int i3] (heapOf g X N T K M dd)) := (ev_eq PGM d yB_moves [] 400 _).trans rfl
set_option maxRecDepth 100000 in
theorem eB_moves_26 (d : Nat) (g : GT) (X : XS) (N T K : SS) (M : MS) (dd : AH) (i1 : Int32) (i2 : Int32) (i3 : Int32) (u4 : Option Value) (k0 : Int32) : sem PGM d yB_moves (26, [some (.ref 12), some (.int i1), some (.int i2), some (.int i3), u4], [.int k0], (heapOf g X N T K M dd)) =
    bif !decide (k0 = 0) then bif inb i1 20 then aftK (sem PGM d yB_moves) 0 (51, [some (.ref 12), some (.int i1), some (.int i2), some (.int i3), some (.int ((N.1 5) (i1).toNatClampNeg))], [], (heapOf g X N T K M dd)) (call PGM d yS_seat [.ref 43, .int i1, .int i2] (heapOf g X N T K M dd))
      else none
    else some (some (.int (-1)), (heapOf g X N T K M dd)) := (ev_eq PGM d yB_moves [] 400 _).trans rfl
set_option maxRecDepth 100000 in
theorem eB_moves_51 (d : Nat) (g : GT) (X : XS) (N T K : SS) (M : MS) (dd : AH) (i1 : Int32) (u2 : Option Value) (i3 : Int32) (i4 : Int32) : sem PGM d yB_moves (51, [some (.ref 12), some (.int i1), u2, some (.int i3), some (.int i4)], [], (heapOf g X N T K M dd)) =
    aftK (sem PGM d yB_moves) 0 (60, [some (.ref 12), some (.int i1), u2, some (.int i3), some (.int i4)], [], (heapOf g X N T K M dd)) (call PGM d yS_become [.ref 43, .int i1, .int i3] (heapOf g X N T K M dd)) := (ev_eq PGM d yB_moves [] 400 _).trans rfl
set_option maxRecDepth 100000 in
theorem eB_moves_60 (d : Nat) (g : GT) (X : XS) (N T K : SS) (M : MS) (dd : AH) (u0 : Option Value) (u1 : Option Value) (u2 : Option Value) (i3 : Int32) (i4 : Int32) : sem PGM d yB_moves (60, [u0, u1, u2, some (.int i3), some (.int i4)], [], (heapOf g X N T K M dd)) =
    some (some (.int i4), (heapOf g X N T K M dd)) := (ev_eq PGM d yB_moves [] 400 _).trans rfl
set_option maxRecDepth 100000 in
theorem eB_feed_0 (d : Nat) (g : GT) (X : XS) (N T K : SS) (M : MS) (dd : AH) (l1 : Int64) (i3 : Int32) : sem PGM d yB_feed (0, [some (.ref 12), some (.long l1), none, some (.int i3), none], [], (heapOf g X N T K M dd)) =
    bif decide (i3 < 1) then some (some (.int (-1)), (heapOf g X N T K M dd))
    else bif decide (i3 ≤ 8) then bif decide (((X.2.1 1) + i3) ≤ 200) then sem PGM d yB_feed (31, [some (.ref 12), some (.long l1), none, some (.int i3), some (.int 0)], [], (heapOf g X N T K M dd))
        else some (some (.int (-2)), (heapOf g X N T K M dd))
      else some (some (.int (-1)), (heapOf g X N T K M dd)) := (ev_eq PGM d yB_feed [31, 58, 74] 400 _).trans rfl
set_option maxRecDepth 100000 in
theorem eB_feed_31 (d : Nat) (g : GT) (X : XS) (N T K : SS) (M : MS) (dd : AH) (l1 : Int64) (i3 : Int32) (i4 : Int32) : sem PGM d yB_feed (31, [some (.ref 12), some (.long l1), none, some (.int i3), some (.int i4)], [], (heapOf g X N T K M dd)) =
    bif decide (i3 ≤ i4) then sem PGM d yB_feed (74, [some (.ref 12), some (.long l1), none, some (.int i3), some (.int i4)], [], (heapOf g (xV X 1 ((X.2.1 1) + i3)) N T K M dd))
    else bif inb ((X.2.1 1) + i4) 200 then sem PGM d yB_feed (58, [some (.ref 12), some (.long l1), none, some (.int i3), some (.int i4)], [], (heapOf g (xA X 0 (upd (X.1 0) (((X.2.1 1) + i4)).toNatClampNeg (vp_nar .byte (((((l1 >>> (((8 * i4)).toInt64 &&& 63))).toInt32)).toInt8.toInt32)))) N T K M dd))
      else none := (ev_eq PGM d yB_feed [31, 58, 74] 400 _).trans rfl
set_option maxRecDepth 100000 in
theorem eB_feed_74 (d : Nat) (g : GT) (X : XS) (N T K : SS) (M : MS) (dd : AH) (u1 : Option Value) (u2 : Option Value) (i3 : Int32) (u4 : Option Value) : sem PGM d yB_feed (74, [some (.ref 12), u1, u2, some (.int i3), u4], [], (heapOf g X N T K M dd)) =
    some (some (.int (X.2.1 1)), (heapOf g X N T K M dd)) := (ev_eq PGM d yB_feed [31, 58, 74] 400 _).trans rfl
set_option maxRecDepth 100000 in
theorem eB_feed_58 (d : Nat) (g : GT) (X : XS) (N T K : SS) (M : MS) (dd : AH) (l1 : Int64) (i3 : Int32) (i4 : Int32) : sem PGM d yB_feed (58, [some (.ref 12), some (.long l1), none, some (.int i3), some (.int i4)], [], (heapOf g X N T K M dd)) =
    sem PGM d yB_feed (31, [some (.ref 12), some (.long l1), none, some (.int i3), some (.int (i4 + 1))], [], (heapOf g X N T K M dd)) := (ev_eq PGM d yB_feed [31, 58, 74] 400 _).trans rfl
set_option maxRecDepth 100000 in
theorem eB_read_0 (d : Nat) (g : GT) (X : XS) (N T K : SS) (M : MS) (dd : AH)  : sem PGM d yB_read (0, [some (.ref 12), none], [], (heapOf g X N T K M dd)) =
    sem PGM d yB_read (10, [some (.ref 12), some (.int (X.2.1 1))], [], (heapOf g (xV X 1 0) N T K M dd)) := (ev_eq PGM d yB_read [10, 50] 400 _).trans rfl
set_option maxRecDepth 100000 in
theorem eB_read_10 (d : Nat) (g : GT) (X : XS) (N T K : SS) (M : MS) (dd : AH) (i1 : Int32) : sem PGM d yB_read (10, [some (.ref 12), some (.int i1)], [], (heapOf g X N T K M dd)) =
    aftK (sem PGM d yB_read) 1 (22, [some (.ref 12), some (.int i1)], [], (heapOf g X N T K M dd)) (call PGM d yR_reads [.ref 14, .ref 13, .int i1] (heapOf g X N T K M dd)) := (ev_eq PGM d yB_read [10, 50] 400 _).trans rfl
set_option maxRecDepth 100000 in
theorem eB_read_22 (d : Nat) (g : GT) (X : XS) (N T K : SS) (M : MS) (dd : AH) (u1 : Option Value) (k0 : Int32) : sem PGM d yB_read (22, [some (.ref 12), u1], [.int k0], (heapOf g X N T K M dd)) =
    bif !decide (k0 = 0) then aftK (sem PGM d yB_read) 2 (47, [some (.ref 12), u1], [.ref 43], (heapOf g X N T K M dd)) (call PGM d yR_lawsRead [.ref 14] (heapOf g X N T K M dd))
    else aftK (sem PGM d yB_read) 1 (34, [some (.ref 12), u1], [.int (-100)], (heapOf g X N T K M dd)) (call PGM d yR_fault [.ref 14] (heapOf g X N T K M dd)) := (ev_eq PGM d yB_read [10, 50] 400 _).trans rfl
set_option maxRecDepth 100000 in
theorem eB_read_47 (d : Nat) (g : GT) (X : XS) (N T K : SS) (M : MS) (dd : AH) (u1 : Option Value) (q1 : Nat) : sem PGM d yB_read (47, [some (.ref 12), u1], [.ref q1, .ref 43], (heapOf g X N T K M dd)) =
    bif !(Nat.beq q1 9) then sem PGM d yB_read (50, [some (.ref 12), u1], [], (heapOf g X (sL N q1) T K M dd))
    else none := (ev_eq PGM d yB_read [10, 50] 400 _).trans rfl
set_option maxRecDepth 100000 in
theorem eB_read_34 (d : Nat) (g : GT) (X : XS) (N T K : SS) (M : MS) (dd : AH) (u1 : Option Value) (k0 : Int32) (k1 : Int32) : sem PGM d yB_read (34, [some (.ref 12), u1], [.int k1, .int k0], (heapOf g X N T K M dd)) =
    some (some (.int (k0 - k1)), (heapOf g X N T K M dd)) := (ev_eq PGM d yB_read [10, 50] 400 _).trans rfl
set_option maxRecDepth 100000 in
theorem eB_read_50 (d : Nat) (g : GT) (X : XS) (N T K : SS) (M : MS) (dd : AH) (u1 : Option Value) : sem PGM d yB_read (50, [some (.ref 12), u1], [], (heapOf g X N T K M dd)) =
    bif okI (heapOf g X N T K M dd) N.2.2 1 0 then some (some (.int (gI (heapOf g X N T K M dd) N.2.2 0)), (heapOf g X N T K M dd))
    else none := (ev_eq PGM d yB_read [10, 50] 400 _).trans rfl
set_option maxRecDepth 100000 in
theorem eB_says_0 (d : Nat) (g : GT) (X : XS) (N T K : SS) (M : MS) (dd : AH) (i1 : Int32) : sem PGM d yB_says (0, [some (.ref 12), some (.int i1)], [], (heapOf g X N T K M dd)) =
    aftK (sem PGM d yB_says) 1 (8, [some (.ref 12), some (.int i1)], [], (heapOf g X N T K M dd)) (call PGM d yS_hasPerson [.ref 43, .int i1] (heapOf g X N T K M dd)) := (ev_eq PGM d yB_says [] 400 _).trans rfl
set_option maxRecDepth 100000 in
theorem eB_says_8 (d : Nat) (g : GT) (X : XS) (N T K : SS) (M : MS) (dd : AH) (i1 : Int32) (k0 : Int32) : sem PGM d yB_says (8, [some (.ref 12), some (.int i1)], [.int k0], (heapOf g X N T K M dd)) =
    bif !decide (k0 = 0) then aftK (sem PGM d yB_says) 1 (21, [some (.ref 12), some (.int i1)], [], (heapOf g X N T K M dd)) (call PGM d yS_isOut [.ref 43, .int i1] (heapOf g X N T K M dd))
    else some (some (.int (-1)), (heapOf g X N T K M dd)) := (ev_eq PGM d yB_says [] 400 _).trans rfl
set_option maxRecDepth 100000 in
theorem eB_says_21 (d : Nat) (g : GT) (X : XS) (N T K : SS) (M : MS) (dd : AH) (i1 : Int32) (k0 : Int32) : sem PGM d yB_says (21, [some (.ref 12), some (.int i1)], [.int k0], (heapOf g X N T K M dd)) =
    bif decide (k0 = 0) then aftK (sem PGM d yB_says) 1 (37, [some (.ref 12), some (.int i1)], [], (heapOf g X N T K M dd)) (call PGM d yS_clauseFor [.ref 43, .int i1] (heapOf g X N T K M dd))
    else some (some (.int (-9)), (heapOf g X N T K M dd)) := (ev_eq PGM d yB_says [] 400 _).trans rfl
set_option maxRecDepth 100000 in
theorem eB_says_37 (d : Nat) (g : GT) (X : XS) (N T K : SS) (M : MS) (dd : AH) (u0 : Option Value) (u1 : Option Value) (k0 : Int32) : sem PGM d yB_says (37, [u0, u1], [.int k0], (heapOf g X N T K M dd)) =
    some (some (.int k0), (heapOf g X N T K M dd)) := (ev_eq PGM d yB_says [] 400 _).trans rfl
set_option maxRecDepth 100000 in
theorem eB_isA_0 (d : Nat) (h : AH) (i0 : Int32) (i1 : Int32) : sem PGM d yB_isA (0, [some (.int i0), some (.int i1)], [], h) =
    bif decide (i1 < 0) then some (some (.int 0), h)
    else bif okL h 1 then bif decide ((nI (lenA h 1)) ≤ i1) then some (some (.int 0), h)
        else bif inA h 1 0 i1 then bif !decide ((((rA h 1 i1) >>> (i0 &&& 31)) &&& 1) = 1) then some (some (.int 0), h)
            else some (some (.int 1), h)
          else none
      else none := (ev_eq PGM d yB_isA [] 400 _).trans rfl
set_option maxRecDepth 100000 in
theorem eB_fact_0 (d : Nat) (g : GT) (X : XS) (N T K : SS) (M : MS) (dd : AH) (i1 : Int32) (i2 : Int32) : sem PGM d yB_fact (0, [some (.ref 12), some (.int i1), some (.int i2)], [], (heapOf g X N T K M dd)) =
    aftK (sem PGM d yB_fact) 1 (8, [some (.ref 12), some (.int i1), some (.int i2)], [], (heapOf g X N T K M dd)) (call PGM d yS_hasPerson [.ref 43, .int i1] (heapOf g X N T K M dd)) := (ev_eq PGM d yB_fact [] 400 _).trans rfl
set_option maxRecDepth 100000 in
theorem eB_fact_8 (d : Nat) (g : GT) (X : XS) (N T K : SS) (M : MS) (dd : AH) (i1 : Int32) (i2 : Int32) (k0 : Int32) : sem PGM d yB_fact (8, [some (.ref 12), some (.int i1), some (.int i2)], [.int k0], (heapOf g X N T K M dd)) =
    bif decide (k0 = 0) then some (some (.int (-1)), (heapOf g X N T K M dd))
    else bif decide (i2 < 0) then some (some (.int (-1)), (heapOf g X N T K M dd))
      else bif decide (i2 < 6) then aftK (sem PGM d yB_fact) 1 (31, [some (.ref 12), some (.int i1), some (.int i2)], [], (heapOf g X N T K M dd)) (call PGM d yS_isOut [.ref 43, .int i1] (heapOf g X N T K M dd))
        else some (some (.int (-1)), (heapOf g X N T K M dd)) := (ev_eq PGM d yB_fact [] 400 _).trans rfl
set_option maxRecDepth 100000 in
theorem eB_fact_31 (d : Nat) (g : GT) (X : XS) (N T K : SS) (M : MS) (dd : AH) (i1 : Int32) (i2 : Int32) (k0 : Int32) : sem PGM d yB_fact (31, [some (.ref 12), some (.int i1), some (.int i2)], [.int k0], (heapOf g X N T K M dd)) =
    bif decide (k0 = 0) then aftK (sem PGM d yB_fact) 0 (45, [some (.ref 12), some (.int i1), some (.int i2)], [], (heapOf g X N T K M dd)) (call PGM d yS_lookAround [.ref 43, .int i1] (heapOf g X N T K M dd))
    else some (some (.int (-3)), (heapOf g X N T K M dd)) := (ev_eq PGM d yB_fact [] 400 _).trans rfl
set_option maxRecDepth 100000 in
theorem eB_fact_45 (d : Nat) (g : GT) (X : XS) (N T K : SS) (M : MS) (dd : AH) (u1 : Option Value) (i2 : Int32) : sem PGM d yB_fact (45, [some (.ref 12), u1, some (.int i2)], [], (heapOf g X N T K M dd)) =
    bif inb i2 6 then some (some (.int ((N.1 13) (i2).toNatClampNeg)), (heapOf g X N T K M dd))
    else none := (ev_eq PGM d yB_fact [] 400 _).trans rfl
set_option maxRecDepth 100000 in
theorem eB_run_0 (d : Nat) (g : GT) (X : XS) (N T K : SS) (M : MS) (dd : AH) (i1 : Int32) : sem PGM d yB_run (0, [some (.ref 12), some (.int i1)], [], (heapOf g X N T K M dd)) =
    aftK (sem PGM d yB_run) 1 (4, [some (.ref 12), some (.int i1)], [], (heapOf g X N T K M dd)) (call PGM d yB_isTenths [.int i1] (heapOf g X N T K M dd)) := (ev_eq PGM d yB_run [] 400 _).trans rfl
set_option maxRecDepth 100000 in
theorem eB_run_4 (d : Nat) (g : GT) (X : XS) (N T K : SS) (M : MS) (dd : AH) (i1 : Int32) (k0 : Int32) : sem PGM d yB_run (4, [some (.ref 12), some (.int i1)], [.int k0], (heapOf g X N T K M dd)) =
    bif !decide (k0 = 0) then aftK (sem PGM d yB_run) 1 (18, [some (.ref 12), some (.int i1)], [], (heapOf g X N T K M dd)) (call PGM d yS_goOn [.ref 43, .int i1, .null] (heapOf g X N T K M dd))
    else some (some (.int (-1)), (heapOf g X N T K M dd)) := (ev_eq PGM d yB_run [] 400 _).trans rfl
set_option maxRecDepth 100000 in
theorem eB_run_18 (d : Nat) (g : GT) (X : XS) (N T K : SS) (M : MS) (dd : AH) (u0 : Option Value) (u1 : Option Value) (k0 : Int32) : sem PGM d yB_run (18, [u0, u1], [.int k0], (heapOf g X N T K M dd)) =
    some (some (.int k0), (heapOf g X N T K M dd)) := (ev_eq PGM d yB_run [] 400 _).trans rfl
set_option maxRecDepth 100000 in
theorem eB_isTenths_0 (d : Nat) (h : AH) (i0 : Int32) : sem PGM d yB_isTenths (0, [some (.int i0)], [], h) =
    bif decide (i0 < 0) then some (some (.int 0), h)
    else bif decide (60 < i0) then some (some (.int 0), h)
      else some (some (.int 1), h) := (ev_eq PGM d yB_isTenths [] 400 _).trans rfl
set_option maxRecDepth 100000 in
theorem eB_morning_0 (d : Nat) (g : GT) (X : XS) (N T K : SS) (M : MS) (dd : AH) (i1 : Int32) : sem PGM d yB_morning (0, [some (.ref 12), some (.int i1)], [], (heapOf g X N T K M dd)) =
    bif decide (i1 = Int32.ofInt 0) then some (some (.int (N.2.1 3)), (heapOf g X N T K M dd))
    else bif decide (i1 = Int32.ofInt 1) then aftK (sem PGM d yB_morning) 1 (47, [some (.ref 12), some (.int i1)], [], (heapOf g X N T K M dd)) (call PGM d yS_allHurts [.ref 43] (heapOf g X N T K M dd))
    else bif decide (i1 = Int32.ofInt 2) then aftK (sem PGM d yB_morning) 1 (55, [some (.ref 12), some (.int i1)], [], (heapOf g X N T K M dd)) (call PGM d yS_peopleOut [.ref 43] (heapOf g X N T K M dd))
    else bif decide (i1 = Int32.ofInt 3) then aftK (sem PGM d yB_morning) 1 (63, [some (.ref 12), some (.int i1)], [], (heapOf g X N T K M dd)) (call PGM d yS_heaps [.ref 43] (heapOf g X N T K M dd))
    else some (some (.int (-1)), (heapOf g X N T K M dd)) := (ev_eq PGM d yB_morning [] 400 _).trans rfl
set_option maxRecDepth 100000 in
theorem eB_morning_47 (d : Nat) (g : GT) (X : XS) (N T K : SS) (M : MS) (dd : AH) (u0 : Option Value) (u1 : Option Value) (k0 : Int32) : sem PGM d yB_morning (47, [u0, u1], [.int k0], (heapOf g X N T K M dd)) =
    some (some (.int k0), (heapOf g X N T K M dd)) := (ev_eq PGM d yB_morning [] 400 _).trans rfl
set_option maxRecDepth 100000 in
theorem eB_morning_55 (d : Nat) (g : GT) (X : XS) (N T K : SS) (M : MS) (dd : AH) (u0 : Option Value) (u1 : Option Value) (k0 : Int32) : sem PGM d yB_morning (55, [u0, u1], [.int k0], (heapOf g X N T K M dd)) =
    some (some (.int k0), (heapOf g X N T K M dd)) := (ev_eq PGM d yB_morning [] 400 _).trans rfl
set_option maxRecDepth 100000 in
theorem eB_morning_63 (d : Nat) (g : GT) (X : XS) (N T K : SS) (M : MS) (dd : AH) (u0 : Option Value) (u1 : Option Value) (k0 : Int32) : sem PGM d yB_morning (63, [u0, u1], [.int k0], (heapOf g X N T K M dd)) =
    some (some (.int k0), (heapOf g X N T K M dd)) := (ev_eq PGM d yB_morning [] 400 _).trans rfl
set_option maxRecDepth 100000 in
theorem eB_odds_0 (d : Nat) (g : GT) (X : XS) (N T K : SS) (M : MS) (dd : AH) (i1 : Int32) (i2 : Int32) (i3 : Int32) : sem PGM d yB_odds (0, [some (.ref 12), some (.int i1), some (.int i2), some (.int i3), none, none], [], (heapOf g X N T K M dd)) =
    aftK (sem PGM d yB_odds) 1 (8, [some (.ref 12), some (.int i1), some (.int i2), some (.int i3), none, none], [], (heapOf g X N T K M dd)) (call PGM d yS_hasPerson [.ref 43, .int i1] (heapOf g X N T K M dd)) := (ev_eq PGM d yB_odds [35, 62, 106] 400 _).trans rfl
set_option maxRecDepth 100000 in
theorem eB_odds_8 (d : Nat) (g : GT) (X : XS) (N T K : SS) (M : MS) (dd : AH) (i1 : Int32) (i2 : Int32) (i3 : Int32) (u5 : Option Value) (k0 : Int32) : sem PGM d yB_odds (8, [some (.ref 12), some (.int i1), some (.int i2), some (.int i3), none, u5], [.int k0], (heapOf g X N T K M dd)) =
    bif decide (k0 = 0) then some (some (.int (-1)), (heapOf g X N T K M dd))
    else aftK (sem PGM d yB_odds) 1 (15, [some (.ref 12), some (.int i1), some (.int i2), some (.int i3), none, u5], [], (heapOf g X N T K M dd)) (call PGM d yB_isTenths [.int i2] (heapOf g X N T K M dd)) := (ev_eq PGM d yB_odds [35, 62, 106] 400 _).trans rfl
set_option maxRecDepth 100000 in
theorem eB_odds_15 (d : Nat) (g : GT) (X : XS) (N T K : SS) (M : MS) (dd : AH) (i1 : Int32) (i2 : Int32) (i3 : Int32) (u5 : Option Value) (k0 : Int32) : sem PGM d yB_odds (15, [some (.ref 12), some (.int i1), some (.int i2), some (.int i3), none, u5], [.int k0], (heapOf g X N T K M dd)) =
    bif decide (k0 = 0) then some (some (.int (-1)), (heapOf g X N T K M dd))
    else bif decide (i3 < 0) then some (some (.int (-1)), (heapOf g X N T K M dd))
      else bif decide (i3 ≤ 1) then sem PGM d yB_odds (35, [some (.ref 12), some (.int i1), some (.int i2), some (.int i3), some (.int 0), some (.int 1)], [], (heapOf g X N T K M dd))
        else some (some (.int (-1)), (heapOf g X N T K M dd)) := (ev_eq PGM d yB_odds [35, 62, 106] 400 _).trans rfl
set_option maxRecDepth 100000 in
theorem eB_odds_35 (d : Nat) (g : GT) (X : XS) (N T K : SS) (M : MS) (dd : AH) (i1 : Int32) (i2 : Int32) (i3 : Int32) (i4 : Int32) (i5 : Int32) : sem PGM d yB_odds (35, [some (.ref 12), some (.int i1), some (.int i2), some (.int i3), some (.int i4), some (.int i5)], [], (heapOf g X N T K M dd)) =
    bif decide (16 < i5) then sem PGM d yB_odds (106, [some (.ref 12), some (.int i1), some (.int i2), some (.int i3), some (.int i4), some (.int 16)], [], (heapOf g X N T K M dd))
    else aftK (sem PGM d yB_odds) 0 (53, [some (.ref 12), some (.int i1), some (.int i2), some (.int i3), some (.int i4), some (.int i5)], [], (heapOf g X N T K M dd)) (call PGM d yS_copy [.ref 59, .ref 43] (heapOf g X N T K M dd)) := (ev_eq PGM d yB_odds [35, 62, 106] 400 _).trans rfl
set_option maxRecDepth 100000 in
theorem eB_odds_106 (d : Nat) (g : GT) (X : XS) (N T K : SS) (M : MS) (dd : AH) (u0 : Option Value) (u1 : Option Value) (u2 : Option Value) (i3 : Int32) (i4 : Int32) (i5 : Int32) : sem PGM d yB_odds (106, [u0, u1, u2, some (.int i3), some (.int i4), some (.int i5)], [], (heapOf g X N T K M dd)) =
    bif decide (i5 ≤ 1) then bif !decide (i3 = 0) then some (some (.int i5), (heapOf g X N T K M dd))
      else some (some (.int i4), (heapOf g X N T K M dd))
    else bif !decide ((i4 - i4 / 2 * 2) = 0) then bif !decide (i3 = 0) then some (some (.int i5), (heapOf g X N T K M dd))
        else some (some (.int i4), (heapOf g X N T K M dd))
      else sem PGM d yB_odds (106, [u0, u1, u2, some (.int i3), some (.int (i4 / 2)), some (.int (i5 / 2))], [], (heapOf g X N T K M dd)) := (ev_eq PGM d yB_odds [35, 62, 106] 400 _).trans rfl
set_option maxRecDepth 100000 in
theorem eB_odds_53 (d : Nat) (g : GT) (X : XS) (N T K : SS) (M : MS) (dd : AH) (i1 : Int32) (i2 : Int32) (i3 : Int32) (i4 : Int32) (i5 : Int32) : sem PGM d yB_odds (53, [some (.ref 12), some (.int i1), some (.int i2), some (.int i3), some (.int i4), some (.int i5)], [], (heapOf g X N T K M dd)) =
    sem PGM d yB_odds (62, [some (.ref 12), some (.int i1), some (.int i2), some (.int i3), some (.int i4), some (.int i5)], [], (heapOf g X N (sV T 4 i5) K M dd)) := (ev_eq PGM d yB_odds [35, 62, 106] 400 _).trans rfl
set_option maxRecDepth 100000 in
theorem eB_odds_62 (d : Nat) (g : GT) (X : XS) (N T K : SS) (M : MS) (dd : AH) (i1 : Int32) (i2 : Int32) (i3 : Int32) (i4 : Int32) (i5 : Int32) : sem PGM d yB_odds (62, [some (.ref 12), some (.int i1), some (.int i2), some (.int i3), some (.int i4), some (.int i5)], [], (heapOf g X N T K M dd)) =
    aftK (sem PGM d yB_odds) 1 (71, [some (.ref 12), some (.int i1), some (.int i2), some (.int i3), some (.int i4), some (.int i5)], [], (heapOf g X N T K M dd)) (call PGM d yS_goOn [.ref 59, .int i2, .null] (heapOf g X N T K M dd)) := (ev_eq PGM d yB_odds [35, 62, 106] 400 _).trans rfl
set_option maxRecDepth 100000 in
theorem eB_odds_71 (d : Nat) (g : GT) (X : XS) (N T K : SS) (M : MS) (dd : AH) (i1 : Int32) (i2 : Int32) (i3 : Int32) (i4 : Int32) (i5 : Int32) (k0 : Int32) : sem PGM d yB_odds (71, [some (.ref 12), some (.int i1), some (.int i2), some (.int i3), some (.int i4), some (.int i5)], [.int k0], (heapOf g X N T K M dd)) =
    bif inb i1 20 then bif inb i1 20 then bif decide (((T.1 8) (i1).toNatClampNeg) ≤ ((N.1 8) (i1).toNatClampNeg)) then sem PGM d yB_odds (35, [some (.ref 12), some (.int i1), some (.int i2), some (.int i3), some (.int i4), some (.int (i5 + 1))], [], (heapOf g X N T K M dd))
        else sem PGM d yB_odds (35, [some (.ref 12), some (.int i1), some (.int i2), some (.int i3), some (.int (i4 + 1)), some (.int (i5 + 1))], [], (heapOf g X N T K M dd))
      else none
    else none := (ev_eq PGM d yB_odds [35, 62, 106] 400 _).trans rfl
