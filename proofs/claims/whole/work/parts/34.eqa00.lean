/-! Equations of blocks, by wip/whole/gen/alleq.py. -/
set_option maxRecDepth 100000 in
theorem eA_law_0 (d : Nat) (g : GT) (X : XS) (N T K : SS) (M : MS) (dd : AH) (r0 : Nat) : sem PGM d yA_law (0, [some (.ref r0), none, none, none], [], (heapOf g X N T K M dd)) =
    bif Nat.ble 12 (List.length (heapOf g X N T K M dd)) && true then aftK (sem PGM d yA_law) 0 (7, [some (.ref r0), none, none, none], [.ref (List.length (heapOf g X N T K M dd))], ((heapOf g X N T K M dd) ++ [objOf dfls 6])) (call PGM d yB_init [.ref (List.length (heapOf g X N T K M dd))] ((heapOf g X N T K M dd) ++ [objOf dfls 6]))
    else none := (ev_eq PGM d yA_law [18] 400 _).trans rfl
set_option maxRecDepth 100000 in
theorem eA_law_7 (d : Nat) (g : GT) (X : XS) (N T K : SS) (M : MS) (dd : AH) (r0 : Nat) (u3 : Option Value) (q0 : Nat) : sem PGM d yA_law (7, [some (.ref r0), none, none, u3], [.ref q0], (heapOf g X N T K M dd)) =
    bif Nat.ble 12 (List.length (heapOf g X N T K M dd)) && true then aftK (sem PGM d yA_law) 0 (15, [some (.ref r0), some (.ref q0), none, u3], [.ref (List.length (heapOf g X N T K M dd))], ((heapOf g X N T K M dd) ++ [objOf dfls 7])) (call PGM d yM_init [.ref (List.length (heapOf g X N T K M dd))] ((heapOf g X N T K M dd) ++ [objOf dfls 7]))
    else none := (ev_eq PGM d yA_law [18] 400 _).trans rfl
set_option maxRecDepth 100000 in
theorem eA_law_15 (d : Nat) (g : GT) (X : XS) (N T K : SS) (M : MS) (dd : AH) (r0 : Nat) (r1 : Nat) (u3 : Option Value) (q0 : Nat) : sem PGM d yA_law (15, [some (.ref r0), some (.ref r1), none, u3], [.ref q0], (heapOf g X N T K M dd)) =
    sem PGM d yA_law (18, [some (.ref r0), some (.ref r1), some (.ref q0), some (.int 0)], [], (heapOf g X N T K M dd)) := (ev_eq PGM d yA_law [18] 400 _).trans rfl
set_option maxRecDepth 100000 in
theorem eA_law_18 (d : Nat) (g : GT) (X : XS) (N T K : SS) (M : MS) (dd : AH) (r0 : Nat) (r1 : Nat) (r2 : Nat) (i3 : Int32) : sem PGM d yA_law (18, [some (.ref r0), some (.ref r1), some (.ref r2), some (.int i3)], [], (heapOf g X N T K M dd)) =
    bif okL (heapOf g X N T K M dd) r0 then bif decide (((nI (lenA (heapOf g X N T K M dd) r0)) - 4) < i3) then some (some (.int 1), (heapOf g X N T K M dd))
      else bif inA (heapOf g X N T K M dd) r0 0 i3 then bif decide (((rA (heapOf g X N T K M dd) r0 i3) &&& 63) = Int32.ofInt 0) then bif inA (heapOf g X N T K M dd) r0 0 (i3 + 1) then bif okC (heapOf g X N T K M dd) r1 6 && true then aftK (sem PGM d yA_law) 1 (209, [some (.ref r0), some (.ref r1), some (.ref r2), some (.int i3)], [], (heapOf g X N T K M dd)) (call PGM d yB_street [.ref r1, .int (rA (heapOf g X N T K M dd) r0 (i3 + 1))] (heapOf g X N T K M dd))
              else none
            else none
          else bif decide (((rA (heapOf g X N T K M dd) r0 i3) &&& 63) = Int32.ofInt 1) then bif inA (heapOf g X N T K M dd) r0 0 (i3 + 1) then bif inA (heapOf g X N T K M dd) r0 0 (i3 + 2) then bif inA (heapOf g X N T K M dd) r0 0 (i3 + 3) then bif okC (heapOf g X N T K M dd) r1 6 && true then aftK (sem PGM d yA_law) 1 (242, [some (.ref r0), some (.ref r1), some (.ref r2), some (.int i3)], [], (heapOf g X N T K M dd)) (call PGM d yB_cell [.ref r1, .int (rA (heapOf g X N T K M dd) r0 (i3 + 1)), .int (rA (heapOf g X N T K M dd) r0 (i3 + 2)), .int (rA (heapOf g X N T K M dd) r0 (i3 + 3))] (heapOf g X N T K M dd))
                  else none
                else none
              else none
            else none
          else bif decide (((rA (heapOf g X N T K M dd) r0 i3) &&& 63) = Int32.ofInt 2) then bif inA (heapOf g X N T K M dd) r0 0 (i3 + 1) then bif inA (heapOf g X N T K M dd) r0 0 (i3 + 2) then bif okC (heapOf g X N T K M dd) r1 6 && true then aftK (sem PGM d yA_law) 1 (280, [some (.ref r0), some (.ref r1), some (.ref r2), some (.int i3)], [], (heapOf g X N T K M dd)) (call PGM d yB_cellOf [.ref r1, .int (rA (heapOf g X N T K M dd) r0 (i3 + 1)), .int (rA (heapOf g X N T K M dd) r0 (i3 + 2))] (heapOf g X N T K M dd))
                else none
              else none
            else none
          else bif decide (((rA (heapOf g X N T K M dd) r0 i3) &&& 63) = Int32.ofInt 3) then bif inA (heapOf g X N T K M dd) r0 0 (i3 + 1) then bif inA (heapOf g X N T K M dd) r0 0 (i3 + 2) then bif okC (heapOf g X N T K M dd) r1 6 && true then aftK (sem PGM d yA_law) 1 (313, [some (.ref r0), some (.ref r1), some (.ref r2), some (.int i3)], [], (heapOf g X N T K M dd)) (call PGM d yB_rule [.ref r1, .int (rA (heapOf g X N T K M dd) r0 (i3 + 1)), .int (rA (heapOf g X N T K M dd) r0 (i3 + 2))] (heapOf g X N T K M dd))
                else none
              else none
            else none
          else bif decide (((rA (heapOf g X N T K M dd) r0 i3) &&& 63) = Int32.ofInt 4) then bif inA (heapOf g X N T K M dd) r0 0 (i3 + 1) then bif okC (heapOf g X N T K M dd) r1 6 && true then aftK (sem PGM d yA_law) 1 (341, [some (.ref r0), some (.ref r1), some (.ref r2), some (.int i3)], [], (heapOf g X N T K M dd)) (call PGM d yB_seed [.ref r1, .int (rA (heapOf g X N T K M dd) r0 (i3 + 1))] (heapOf g X N T K M dd))
              else none
            else none
          else bif decide (((rA (heapOf g X N T K M dd) r0 i3) &&& 63) = Int32.ofInt 5) then bif inA (heapOf g X N T K M dd) r0 0 (i3 + 1) then bif inA (heapOf g X N T K M dd) r0 0 (i3 + 2) then bif inA (heapOf g X N T K M dd) r0 0 (i3 + 3) then bif okC (heapOf g X N T K M dd) r1 6 && true then aftK (sem PGM d yA_law) 1 (374, [some (.ref r0), some (.ref r1), some (.ref r2), some (.int i3)], [], (heapOf g X N T K M dd)) (call PGM d yB_person [.ref r1, .int (rA (heapOf g X N T K M dd) r0 (i3 + 1)), .int (rA (heapOf g X N T K M dd) r0 (i3 + 2)), .int (rA (heapOf g X N T K M dd) r0 (i3 + 3))] (heapOf g X N T K M dd))
                  else none
                else none
              else none
            else none
          else bif decide (((rA (heapOf g X N T K M dd) r0 i3) &&& 63) = Int32.ofInt 6) then bif inA (heapOf g X N T K M dd) r0 0 (i3 + 1) then bif inA (heapOf g X N T K M dd) r0 0 (i3 + 2) then bif okC (heapOf g X N T K M dd) r1 6 && true then aftK (sem PGM d yA_law) 1 (412, [some (.ref r0), some (.ref r1), some (.ref r2), some (.int i3)], [], (heapOf g X N T K M dd)) (call PGM d yB_personOf [.ref r1, .int (rA (heapOf g X N T K M dd) r0 (i3 + 1)), .int (rA (heapOf g X N T K M dd) r0 (i3 + 2))] (heapOf g X N T K M dd))
                else none
              else none
            else none
          else bif decide (((rA (heapOf g X N T K M dd) r0 i3) &&& 63) = Int32.ofInt 7) then bif inA (heapOf g X N T K M dd) r0 0 (i3 + 1) then bif inA (heapOf g X N T K M dd) r0 0 (i3 + 2) then bif okC (heapOf g X N T K M dd) r1 6 && true then aftK (sem PGM d yA_law) 1 (445, [some (.ref r0), some (.ref r1), some (.ref r2), some (.int i3)], [], (heapOf g X N T K M dd)) (call PGM d yB_beast [.ref r1, .int (rA (heapOf g X N T K M dd) r0 (i3 + 1)), .int (rA (heapOf g X N T K M dd) r0 (i3 + 2))] (heapOf g X N T K M dd))
                else none
              else none
            else none
          else bif decide (((rA (heapOf g X N T K M dd) r0 i3) &&& 63) = Int32.ofInt 8) then bif inA (heapOf g X N T K M dd) r0 0 (i3 + 1) then bif inA (heapOf g X N T K M dd) r0 0 (i3 + 2) then bif okC (heapOf g X N T K M dd) r1 6 && true then aftK (sem PGM d yA_law) 1 (478, [some (.ref r0), some (.ref r1), some (.ref r2), some (.int i3)], [], (heapOf g X N T K M dd)) (call PGM d yB_beastOf [.ref r1, .int (rA (heapOf g X N T K M dd) r0 (i3 + 1)), .int (rA (heapOf g X N T K M dd) r0 (i3 + 2))] (heapOf g X N T K M dd))
                else none
              else none
            else none
          else bif decide (((rA (heapOf g X N T K M dd) r0 i3) &&& 63) = Int32.ofInt 9) then bif inA (heapOf g X N T K M dd) r0 0 (i3 + 1) then bif inA (heapOf g X N T K M dd) r0 0 (i3 + 2) then bif inA (heapOf g X N T K M dd) r0 0 (i3 + 3) then bif okC (heapOf g X N T K M dd) r1 6 && true then aftK (sem PGM d yA_law) 1 (516, [some (.ref r0), some (.ref r1), some (.ref r2), some (.int i3)], [], (heapOf g X N T K M dd)) (call PGM d yB_moves [.ref r1, .int (rA (heapOf g X N T K M dd) r0 (i3 + 1)), .int (rA (heapOf g X N T K M dd) r0 (i3 + 2)), .int (rA (heapOf g X N T K M dd) r0 (i3 + 3))] (heapOf g X N T K M dd))
                  else none
                else none
              else none
            else none
          else bif decide (((rA (heapOf g X N T K M dd) r0 i3) &&& 63) = Int32.ofInt 10) then bif inA (heapOf g X N T K M dd) r0 0 (i3 + 1) then bif inA (heapOf g X N T K M dd) r0 0 (i3 + 2) then bif inA (heapOf g X N T K M dd) r0 0 (i3 + 3) then bif okC (heapOf g X N T K M dd) r1 6 && true then aftK (sem PGM d yA_law) 1 (569, [some (.ref r0), some (.ref r1), some (.ref r2), some (.int i3)], [], (heapOf g X N T K M dd)) (call PGM d yB_feed [.ref r1, .long (((((rA (heapOf g X N T K M dd) r0 (i3 + 1))).toInt64) <<< (((32 : Int32)).toInt64 &&& 63)) ||| ((((rA (heapOf g X N T K M dd) r0 (i3 + 2))).toInt64) &&& 4294967295)), .int (rA (heapOf g X N T K M dd) r0 (i3 + 3))] (heapOf g X N T K M dd))
                  else none
                else none
              else none
            else none
          else bif decide (((rA (heapOf g X N T K M dd) r0 i3) &&& 63) = Int32.ofInt 11) then bif okC (heapOf g X N T K M dd) r1 6 && true then aftK (sem PGM d yA_law) 1 (607, [some (.ref r0), some (.ref r1), some (.ref r2), some (.int i3)], [], (heapOf g X N T K M dd)) (call PGM d yB_read [.ref r1] (heapOf g X N T K M dd))
            else none
          else bif decide (((rA (heapOf g X N T K M dd) r0 i3) &&& 63) = Int32.ofInt 12) then bif inA (heapOf g X N T K M dd) r0 0 (i3 + 1) then bif okC (heapOf g X N T K M dd) r1 6 && true then aftK (sem PGM d yA_law) 1 (625, [some (.ref r0), some (.ref r1), some (.ref r2), some (.int i3)], [], (heapOf g X N T K M dd)) (call PGM d yB_says [.ref r1, .int (rA (heapOf g X N T K M dd) r0 (i3 + 1))] (heapOf g X N T K M dd))
              else none
            else none
          else bif decide (((rA (heapOf g X N T K M dd) r0 i3) &&& 63) = Int32.ofInt 13) then bif inA (heapOf g X N T K M dd) r0 0 (i3 + 1) then bif inA (heapOf g X N T K M dd) r0 0 (i3 + 2) then bif okC (heapOf g X N T K M dd) r1 6 && true then aftK (sem PGM d yA_law) 1 (653, [some (.ref r0), some (.ref r1), some (.ref r2), some (.int i3)], [], (heapOf g X N T K M dd)) (call PGM d yB_fact [.ref r1, .int (rA (heapOf g X N T K M dd) r0 (i3 + 1)), .int (rA (heapOf g X N T K M dd) r0 (i3 + 2))] (heapOf g X N T K M dd))
                else none
              else none
            else none
          else bif decide (((rA (heapOf g X N T K M dd) r0 i3) &&& 63) = Int32.ofInt 14) then bif inA (heapOf g X N T K M dd) r0 0 (i3 + 1) then bif okC (heapOf g X N T K M dd) r1 6 && true then aftK (sem PGM d yA_law) 1 (681, [some (.ref r0), some (.ref r1), some (.ref r2), some (.int i3)], [], (heapOf g X N T K M dd)) (call PGM d yB_run [.ref r1, .int (rA (heapOf g X N T K M dd) r0 (i3 + 1))] (heapOf g X N T K M dd))
              else none
            else none
          else bif decide (((rA (heapOf g X N T K M dd) r0 i3) &&& 63) = Int32.ofInt 15) then bif inA (heapOf g X N T K M dd) r0 0 (i3 + 1) then bif okC (heapOf g X N T K M dd) r1 6 && true then aftK (sem PGM d yA_law) 1 (704, [some (.ref r0), some (.ref r1), some (.ref r2), some (.int i3)], [], (heapOf g X N T K M dd)) (call PGM d yB_morning [.ref r1, .int (rA (heapOf g X N T K M dd) r0 (i3 + 1))] (heapOf g X N T K M dd))
              else none
            else none
          else bif decide (((rA (heapOf g X N T K M dd) r0 i3) &&& 63) = Int32.ofInt 16) then bif inA (heapOf g X N T K M dd) r0 0 (i3 + 1) then bif inA (heapOf g X N T K M dd) r0 0 (i3 + 2) then bif inA (heapOf g X N T K M dd) r0 0 (i3 + 3) then bif okC (heapOf g X N T K M dd) r1 6 && true then aftK (sem PGM d yA_law) 1 (737, [some (.ref r0), some (.ref r1), some (.ref r2), some (.int i3)], [], (heapOf g X N T K M dd)) (call PGM d yB_odds [.ref r1, .int (rA (heapOf g X N T K M dd) r0 (i3 + 1)), .int (rA (heapOf g X N T K M dd) r0 (i3 + 2)), .int (rA (heapOf g X N T K M dd) r0 (i3 + 3))] (heapOf g X N T K M dd))
                  else none
                else none
              else none
            else none
          else bif decide (((rA (heapOf g X N T K M dd) r0 i3) &&& 63) = Int32.ofInt 17) then bif inA (heapOf g X N T K M dd) r0 0 (i3 + 1) then bif inA (heapOf g X N T K M dd) r0 0 (i3 + 2) then bif okC (heapOf g X N T K M dd) r1 6 && true then aftK (sem PGM d yA_law) 1 (775, [some (.ref r0), some (.ref r1), some (.ref r2), some (.int i3)], [], (heapOf g X N T K M dd)) (call PGM d yB_begin [.ref r1, .int (rA (heapOf g X N T K M dd) r0 (i3 + 1)), .int (rA (heapOf g X N T K M dd) r0 (i3 + 2))] (heapOf g X N T K M dd))
                else none
              else none
            else none
          else bif decide (((rA (heapOf g X N T K M dd) r0 i3) &&& 63) = Int32.ofInt 18) then bif inA (heapOf g X N T K M dd) r0 0 (i3 + 1) then bif okC (heapOf g X N T K M dd) r1 6 && true then aftK (sem PGM d yA_law) 1 (803, [some (.ref r0), some (.ref r1), some (.ref r2), some (.int i3)], [], (heapOf g X N T K M dd)) (call PGM d yB_door [.ref r1, .int (rA (heapOf g X N T K M dd) r0 (i3 + 1))] (heapOf g X N T K M dd))
              else none
            else none
          else bif decide (((rA (heapOf g X N T K M dd) r0 i3) &&& 63) = Int32.ofInt 19) then bif inA (heapOf g X N T K M dd) r0 0 (i3 + 1) then bif okC (heapOf g X N T K M dd) r1 6 && true then aftK (sem PGM d yA_law) 1 (826, [some (.ref r0), some (.ref r1), some (.ref r2), some (.int i3)], [], (heapOf g X N T K M dd)) (call PGM d yB_limit [.ref r1, .int (rA (heapOf g X N T K M dd) r0 (i3 + 1))] (heapOf g X N T K M dd))
              else none
            else none
          else bif decide (((rA (heapOf g X N T K M dd) r0 i3) &&& 63) = Int32.ofInt 20) then bif inA (heapOf g X N T K M dd) r0 0 (i3 + 1) then bif inA (heapOf g X N T K M dd) r0 0 (i3 + 2) then bif okC (heapOf g X N T K M dd) r1 6 && true then aftK (sem PGM d yA_law) 1 (854, [some (.ref r0), some (.ref r1), some (.ref r2), some (.int i3)], [], (heapOf g X N T K M dd)) (call PGM d yB_law [.ref r1, .int (rA (heapOf g X N T K M dd) r0 (i3 + 1)), .int (rA (heapOf g X N T K M dd) r0 (i3 + 2))] (heapOf g X N T K M dd))
                else none
              else none
            else none
          else bif decide (((rA (heapOf g X N T K M dd) r0 i3) &&& 63) = Int32.ofInt 21) then bif inA (heapOf g X N T K M dd) r0 0 (i3 + 1) then bif okC (heapOf g X N T K M dd) r1 6 && true then aftK (sem PGM d yA_law) 1 (882, [some (.ref r0), some (.ref r1), some (.ref r2), some (.int i3)], [], (heapOf g X N T K M dd)) (call PGM d yB_together [.ref r1, .int (rA (heapOf g X N T K M dd) r0 (i3 + 1))] (heapOf g X N T K M dd))
              else none
            else none
          else bif decide (((rA (heapOf g X N T K M dd) r0 i3) &&& 63) = Int32.ofInt 22) then bif inA (heapOf g X N T K M dd) r0 0 (i3 + 1) then bif okC (heapOf g X N T K M dd) r1 6 && true then aftK (sem PGM d yA_law) 1 (905, [some (.ref r0), some (.ref r1), some (.ref r2), some (.int i3)], [], (heapOf g X N T K M dd)) (call PGM d yB_harm [.ref r1, .int (rA (heapOf g X N T K M dd) r0 (i3 + 1))] (heapOf g X N T K M dd))
              else none
            else none
          else bif decide (((rA (heapOf g X N T K M dd) r0 i3) &&& 63) = Int32.ofInt 23) then bif inA (heapOf g X N T K M dd) r0 0 (i3 + 1) then bif okC (heapOf g X N T K M dd) r1 6 && true then aftK (sem PGM d yA_law) 1 (928, [some (.ref r0), some (.ref r1), some (.ref r2), some (.int i3)], [], (heapOf g X N T K M dd)) (call PGM d yB_prove [.ref r1, .int (rA (heapOf g X N T K M dd) r0 (i3 + 1))] (heapOf g X N T K M dd))
              else none
            else none
          else bif decide (((rA (heapOf g X N T K M dd) r0 i3) &&& 63) = Int32.ofInt 24) then bif inA (heapOf g X N T K M dd) r0 0 (i3 + 1) then bif inA (heapOf g X N T K M dd) r0 0 (i3 + 2) then bif okC (heapOf g X N T K M dd) r1 6 && true then aftK (sem PGM d yA_law) 1 (956, [some (.ref r0), some (.ref r1), some (.ref r2), some (.int i3)], [], (heapOf g X N T K M dd)) (call PGM d yB_row [.ref r1, .int (rA (heapOf g X N T K M dd) r0 (i3 + 1)), .int (rA (heapOf g X N T K M dd) r0 (i3 + 2))] (heapOf g X N T K M dd))
                else none
              else none
            else none
          else bif decide (((rA (heapOf g X N T K M dd) r0 i3) &&& 63) = Int32.ofInt 25) then bif inA (heapOf g X N T K M dd) r0 0 (i3 + 1) then bif inA (heapOf g X N T K M dd) r0 0 (i3 + 2) then bif inA (heapOf g X N T K M dd) r0 0 (i3 + 3) then bif okC (heapOf g X N T K M dd) r1 6 && true then aftK (sem PGM d yA_law) 1 (994, [some (.ref r0), some (.ref r1), some (.ref r2), some (.int i3)], [], (heapOf g X N T K M dd)) (call PGM d yB_alterRow [.ref r1, .int (rA (heapOf g X N T K M dd) r0 (i3 + 1)), .int (rA (heapOf g X N T K M dd) r0 (i3 + 2)), .int (rA (heapOf g X N T K M dd) r0 (i3 + 3))] (heapOf g X N T K M dd))
                  else none
                else none
              else none
            else none
          else bif decide (((rA (heapOf g X N T K M dd) r0 i3) &&& 63) = Int32.ofInt 26) then bif okC (heapOf g X N T K M dd) r1 6 && true then aftK (sem PGM d yA_law) 1 (1022, [some (.ref r0), some (.ref r1), some (.ref r2), some (.int i3)], [], (heapOf g X N T K M dd)) (call PGM d yB_judge [.ref r1] (heapOf g X N T K M dd))
            else none
          else bif decide (((rA (heapOf g X N T K M dd) r0 i3) &&& 63) = Int32.ofInt 27) then bif inA (heapOf g X N T K M dd) r0 0 (i3 + 1) then bif inA (heapOf g X N T K M dd) r0 0 (i3 + 2) then bif inA (heapOf g X N T K M dd) r0 0 (i3 + 3) then bif okC (heapOf g X N T K M dd) r1 6 && true then aftK (sem PGM d yA_law) 1 (1050, [some (.ref r0), some (.ref r1), some (.ref r2), some (.int i3)], [], (heapOf g X N T K M dd)) (call PGM d yB_sheet [.ref r1, .int (rA (heapOf g X N T K M dd) r0 (i3 + 1)), .int (rA (heapOf g X N T K M dd) r0 (i3 + 2)), .int (rA (heapOf g X N T K M dd) r0 (i3 + 3))] (heapOf g X N T K M dd))
                  else none
                else none
              else none
            else none
          else bif decide (((rA (heapOf g X N T K M dd) r0 i3) &&& 63) = Int32.ofInt 28) then bif inA (heapOf g X N T K M dd) r0 0 (i3 + 1) then bif inA (heapOf g X N T K M dd) r0 0 (i3 + 2) then bif inA (heapOf g X N T K M dd) r0 0 (i3 + 3) then bif okC (heapOf g X N T K M dd) r1 6 && true then aftK (sem PGM d yA_law) 1 (1093, [some (.ref r0), some (.ref r1), some (.ref r2), some (.int i3)], [], (heapOf g X N T K M dd)) (call PGM d yB_put [.ref r1, .int (rA (heapOf g X N T K M dd) r0 (i3 + 1)), .int (rA (heapOf g X N T K M dd) r0 (i3 + 2)), .int (rA (heapOf g X N T K M dd) r0 (i3 + 3))] (heapOf g X N T K M dd))
                  else none
                else none
              else none
            else none
          else bif decide (((rA (heapOf g X N T K M dd) r0 i3) &&& 63) = Int32.ofInt 29) then bif inA (heapOf g X N T K M dd) r0 0 (i3 + 1) then bif inA (heapOf g X N T K M dd) r0 0 (i3 + 2) then bif inA (heapOf g X N T K M dd) r0 0 (i3 + 3) then bif okC (heapOf g X N T K M dd) r1 6 && true then aftK (sem PGM d yA_law) 1 (1136, [some (.ref r0), some (.ref r1), some (.ref r2), some (.int i3)], [], (heapOf g X N T K M dd)) (call PGM d yB_item [.ref r1, .int (rA (heapOf g X N T K M dd) r0 (i3 + 1)), .int (rA (heapOf g X N T K M dd) r0 (i3 + 2)), .int (rA (heapOf g X N T K M dd) r0 (i3 + 3))] (heapOf g X N T K M dd))
                  else none
                else none
              else none
            else none
          else bif decide (((rA (heapOf g X N T K M dd) r0 i3) &&& 63) = Int32.ofInt 30) then bif inA (heapOf g X N T K M dd) r0 0 (i3 + 1) then bif inA (heapOf g X N T K M dd) r0 0 (i3 + 2) then bif inA (heapOf g X N T K M dd) r0 0 (i3 + 3) then bif okC (heapOf g X N T K M dd) r1 6 && true then aftK (sem PGM d yA_law) 1 (1179, [some (.ref r0), some (.ref r1), some (.ref r2), some (.int i3)], [], (heapOf g X N T K M dd)) (call PGM d yB_widths [.ref r1, .int (rA (heapOf g X N T K M dd) r0 (i3 + 1)), .int (rA (heapOf g X N T K M dd) r0 (i3 + 2)), .int (rA (heapOf g X N T K M dd) r0 (i3 + 3))] (heapOf g X N T K M dd))
                  else none
                else none
              else none
            else none
          else bif decide (((rA (heapOf g X N T K M dd) r0 i3) &&& 63) = Int32.ofInt 31) then bif inA (heapOf g X N T K M dd) r0 0 (i3 + 1) then bif inA (heapOf g X N T K M dd) r0 0 (i3 + 2) then bif inA (heapOf g X N T K M dd) r0 0 (i3 + 3) then bif okC (heapOf g X N T K M dd) r1 6 && true then aftK (sem PGM d yA_law) 1 (1222, [some (.ref r0), some (.ref r1), some (.ref r2), some (.int i3)], [], (heapOf g X N T K M dd)) (call PGM d yB_shelf [.ref r1, .int (rA (heapOf g X N T K M dd) r0 (i3 + 1)), .int (rA (heapOf g X N T K M dd) r0 (i3 + 2)), .int (rA (heapOf g X N T K M dd) r0 (i3 + 3))] (heapOf g X N T K M dd))
                  else none
                else none
              else none
            else none
          else bif decide (((rA (heapOf g X N T K M dd) r0 i3) &&& 63) = Int32.ofInt 32) then bif inA (heapOf g X N T K M dd) r0 0 (i3 + 1) then bif inA (heapOf g X N T K M dd) r0 0 (i3 + 2) then bif okC (heapOf g X N T K M dd) r1 6 && true then aftK (sem PGM d yA_law) 1 (1260, [some (.ref r0), some (.ref r1), some (.ref r2), some (.int i3)], [], (heapOf g X N T K M dd)) (call PGM d yB_taken [.ref r1, .int (rA (heapOf g X N T K M dd) r0 (i3 + 1)), .int (rA (heapOf g X N T K M dd) r0 (i3 + 2))] (heapOf g X N T K M dd))
                else none
              else none
            else none
          else bif decide (((rA (heapOf g X N T K M dd) r0 i3) &&& 63) = Int32.ofInt 33) then bif inA (heapOf g X N T K M dd) r0 0 (i3 + 1) then bif inA (heapOf g X N T K M dd) r0 0 (i3 + 2) then bif inA (heapOf g X N T K M dd) r0 0 (i3 + 3) then bif okC (heapOf g X N T K M dd) r1 6 && true then aftK (sem PGM d yA_law) 1 (1298, [some (.ref r0), some (.ref r1), some (.ref r2), some (.int i3)], [], (heapOf g X N T K M dd)) (call PGM d yB_act [.ref r1, .int (rA (heapOf g X N T K M dd) r0 (i3 + 1)), .int (rA (heapOf g X N T K M dd) r0 (i3 + 2)), .int (rA (heapOf g X N T K M dd) r0 (i3 + 3))] (heapOf g X N T K M dd))
                  else none
                else none
              else none
            else none
          else bif decide (((rA (heapOf g X N T K M dd) r0 i3) &&& 63) = Int32.ofInt 34) then bif inA (heapOf g X N T K M dd) r0 0 (i3 + 1) then bif okC (heapOf g X N T K M dd) r1 6 && true then aftK (sem PGM d yA_law) 1 (1331, [some (.ref r0), some (.ref r1), some (.ref r2), some (.int i3)], [], (heapOf g X N T K M dd)) (call PGM d yB_trace [.ref r1, .int (rA (heapOf g X N T K M dd) r0 (i3 + 1))] (heapOf g X N T K M dd))
              else none
            else none
          else bif decide (((rA (heapOf g X N T K M dd) r0 i3) &&& 63) = Int32.ofInt 35) then bif inA (heapOf g X N T K M dd) r0 0 (i3 + 1) then bif okC (heapOf g X N T K M dd) r1 6 && true then aftK (sem PGM d yA_law) 1 (1354, [some (.ref r0), some (.ref r1), some (.ref r2), some (.int i3)], [], (heapOf g X N T K M dd)) (call PGM d yB_many [.ref r1, .int (rA (heapOf g X N T K M dd) r0 (i3 + 1))] (heapOf g X N T K M dd))
              else none
            else none
          else bif decide (((rA (heapOf g X N T K M dd) r0 i3) &&& 63) = Int32.ofInt 36) then bif okC (heapOf g X N T K M dd) r1 6 && true then aftK (sem PGM d yA_law) 1 (1372, [some (.ref r0), some (.ref r1), some (.ref r2), some (.int i3)], [], (heapOf g X N T K M dd)) (call PGM d yB_keep [.ref r1] (heapOf g X N T K M dd))
            else none
          else bif decide (((rA (heapOf g X N T K M dd) r0 i3) &&& 63) = Int32.ofInt 37) then bif okC (heapOf g X N T K M dd) r1 6 && true then aftK (sem PGM d yA_law) 1 (1385, [some (.ref r0), some (.ref r1), some (.ref r2), some (.int i3)], [], (heapOf g X N T K M dd)) (call PGM d yB_again [.ref r1] (heapOf g X N T K M dd))
            else none
          else sem PGM d yA_law (18, [some (.ref r0), some (.ref r1), some (.ref r2), some (.int (i3 + 4))], [], (heapOf g X N T K M dd))
        else none
    else none := (ev_eq PGM d yA_law [18] 400 _).trans rfl
set_option maxRecDepth 100000 in
theorem eA_law_209 (d : Nat) (g : GT) (X : XS) (N T K : SS) (M : MS) (dd : AH) (r0 : Nat) (r1 : Nat) (r2 : Nat) (i3 : Int32) (k0 : Int32) : sem PGM d yA_law (209, [some (.ref r0), some (.ref r1), some (.ref r2), some (.int i3)], [.int k0], (heapOf g X N T K M dd)) =
    bif inA (heapOf g X N T K M dd) r0 0 (i3 + 1) then bif okC (heapOf g X N T K M dd) r2 7 && true then aftK (sem PGM d yA_law) 1 (218, [some (.ref r0), some (.ref r1), some (.ref r2), some (.int i3)], [.int k0], (heapOf g X N T K M dd)) (call PGM d yM_street [.ref r2, .int (rA (heapOf g X N T K M dd) r0 (i3 + 1))] (heapOf g X N T K M dd))
      else none
    else none := (ev_eq PGM d yA_law [18] 400 _).trans rfl
set_option maxRecDepth 100000 in
theorem eA_law_242 (d : Nat) (g : GT) (X : XS) (N T K : SS) (M : MS) (dd : AH) (r0 : Nat) (r1 : Nat) (r2 : Nat) (i3 : Int32) (k0 : Int32) : sem PGM d yA_law (242, [some (.ref r0), some (.ref r1), some (.ref r2), some (.int i3)], [.int k0], (heapOf g X N T K M dd)) =
    bif inA (heapOf g X N T K M dd) r0 0 (i3 + 1) then bif inA (heapOf g X N T K M dd) r0 0 (i3 + 2) then bif inA (heapOf g X N T K M dd) r0 0 (i3 + 3) then bif okC (heapOf g X N T K M dd) r2 7 && true then aftK (sem PGM d yA_law) 1 (261, [some (.ref r0), some (.ref r1), some (.ref r2), some (.int i3)], [.int k0], (heapOf g X N T K M dd)) (call PGM d yM_cell [.ref r2, .int (rA (heapOf g X N T K M dd) r0 (i3 + 1)), .int (rA (heapOf g X N T K M dd) r0 (i3 + 2)), .int (rA (heapOf g X N T K M dd) r0 (i3 + 3))] (heapOf g X N T K M dd))
          else none
        else none
      else none
    else none := (ev_eq PGM d yA_law [18] 400 _).trans rfl
set_option maxRecDepth 100000 in
theorem eA_law_280 (d : Nat) (g : GT) (X : XS) (N T K : SS) (M : MS) (dd : AH) (r0 : Nat) (r1 : Nat) (r2 : Nat) (i3 : Int32) (k0 : Int32) : sem PGM d yA_law (280, [some (.ref r0), some (.ref r1), some (.ref r2), some (.int i3)], [.int k0], (heapOf g X N T K M dd)) =
    bif inA (heapOf g X N T K M dd) r0 0 (i3 + 1) then bif inA (heapOf g X N T K M dd) r0 0 (i3 + 2) then bif okC (heapOf g X N T K M dd) r2 7 && true then aftK (sem PGM d yA_law) 1 (294, [some (.ref r0), some (.ref r1), some (.ref r2), some (.int i3)], [.int k0], (heapOf g X N T K M dd)) (call PGM d yM_cellOf [.ref r2, .int (rA (heapOf g X N T K M dd) r0 (i3 + 1)), .int (rA (heapOf g X N T K M dd) r0 (i3 + 2))] (heapOf g X N T K M dd))
        else none
      else none
    else none := (ev_eq PGM d yA_law [18] 400 _).trans rfl
set_option maxRecDepth 100000 in
theorem eA_law_313 (d : Nat) (g : GT) (X : XS) (N T K : SS) (M : MS) (dd : AH) (r0 : Nat) (r1 : Nat) (r2 : Nat) (i3 : Int32) (k0 : Int32) : sem PGM d yA_law (313, [some (.ref r0), some (.ref r1), some (.ref r2), some (.int i3)], [.int k0], (heapOf g X N T K M dd)) =
    bif inA (heapOf g X N T K M dd) r0 0 (i3 + 1) then bif inA (heapOf g X N T K M dd) r0 0 (i3 + 2) then bif okC (heapOf g X N T K M dd) r2 7 && true then aftK (sem PGM d yA_law) 1 (327, [some (.ref r0), some (.ref r1), some (.ref r2), some (.int i3)], [.int k0], (heapOf g X N T K M dd)) (call PGM d yM_rule [.ref r2, .int (rA (heapOf g X N T K M dd) r0 (i3 + 1)), .int (rA (heapOf g X N T K M dd) r0 (i3 + 2))] (heapOf g X N T K M dd))
        else none
      else none
    else none := (ev_eq PGM d yA_law [18] 400 _).trans rfl
set_option maxRecDepth 100000 in
theorem eA_law_341 (d : Nat) (g : GT) (X : XS) (N T K : SS) (M : MS) (dd : AH) (r0 : Nat) (r1 : Nat) (r2 : Nat) (i3 : Int32) (k0 : Int32) : sem PGM d yA_law (341, [some (.ref r0), some (.ref r1), some (.ref r2), some (.int i3)], [.int k0], (heapOf g X N T K M dd)) =
    bif inA (heapOf g X N T K M dd) r0 0 (i3 + 1) then bif okC (heapOf g X N T K M dd) r2 7 && true then aftK (sem PGM d yA_law) 1 (350, [some (.ref r0), some (.ref r1), some (.ref r2), some (.int i3)], [.int k0], (heapOf g X N T K M dd)) (call PGM d yM_seed [.ref r2, .int (rA (heapOf g X N T K M dd) r0 (i3 + 1))] (heapOf g X N T K M dd))
      else none
    else none := (ev_eq PGM d yA_law [18] 400 _).trans rfl
set_option maxRecDepth 100000 in
theorem eA_law_374 (d : Nat) (g : GT) (X : XS) (N T K : SS) (M : MS) (dd : AH) (r0 : Nat) (r1 : Nat) (r2 : Nat) (i3 : Int32) (k0 : Int32) : sem PGM d yA_law (374, [some (.ref r0), some (.ref r1), some (.ref r2), some (.int i3)], [.int k0], (heapOf g X N T K M dd)) =
    bif inA (heapOf g X N T K M dd) r0 0 (i3 + 1) then bif inA (heapOf g X N T K M dd) r0 0 (i3 + 2) then bif inA (heapOf g X N T K M dd) r0 0 (i3 + 3) then bif okC (heapOf g X N T K M dd) r2 7 && true then aftK (sem PGM d yA_law) 1 (393, [some (.ref r0), some (.ref r1), some (.ref r2), some (.int i3)], [.int k0], (heapOf g X N T K M dd)) (call PGM d yM_person [.ref r2, .int (rA (heapOf g X N T K M dd) r0 (i3 + 1)), .int (rA (heapOf g X N T K M dd) r0 (i3 + 2)), .int (rA (heapOf g X N T K M dd) r0 (i3 + 3))] (heapOf g X N T K M dd))
          else none
        else none
      else none
    else none := (ev_eq PGM d yA_law [18] 400 _).trans rfl
set_option maxRecDepth 100000 in
theorem eA_law_412 (d : Nat) (g : GT) (X : XS) (N T K : SS) (M : MS) (dd : AH) (r0 : Nat) (r1 : Nat) (r2 : Nat) (i3 : Int32) (k0 : Int32) : sem PGM d yA_law (412, [some (.ref r0), some (.ref r1), some (.ref r2), some (.int i3)], [.int k0], (heapOf g X N T K M dd)) =
    bif inA (heapOf g X N T K M dd) r0 0 (i3 + 1) then bif inA (heapOf g X N T K M dd) r0 0 (i3 + 2) then bif okC (heapOf g X N T K M dd) r2 7 && true then aftK (sem PGM d yA_law) 1 (426, [some (.ref r0), some (.ref r1), some (.ref r2), some (.int i3)], [.int k0], (heapOf g X N T K M dd)) (call PGM d yM_personOf [.ref r2, .int (rA (heapOf g X N T K M dd) r0 (i3 + 1)), .int (rA (heapOf g X N T K M dd) r0 (i3 + 2))] (heapOf g X N T K M dd))
        else none
      else none
    else none := (ev_eq PGM d yA_law [18] 400 _).trans rfl
set_option maxRecDepth 100000 in
theorem eA_law_445 (d : Nat) (g : GT) (X : XS) (N T K : SS) (M : MS) (dd : AH) (r0 : Nat) (r1 : Nat) (r2 : Nat) (i3 : Int32) (k0 : Int32) : sem PGM d yA_law (445, [some (.ref r0), some (.ref r1), some (.ref r2), some (.int i3)], [.int k0], (heapOf g X N T K M dd)) =
    bif inA (heapOf g X N T K M dd) r0 0 (i3 + 1) then bif inA (heapOf g X N T K M dd) r0 0 (i3 + 2) then bif okC (heapOf g X N T K M dd) r2 7 && true then aftK (sem PGM d yA_law) 1 (459, [some (.ref r0), some (.ref r1), some (.ref r2), some (.int i3)], [.int k0], (heapOf g X N T K M dd)) (call PGM d yM_beast [.ref r2, .int (rA (heapOf g X N T K M dd) r0 (i3 + 1)), .int (rA (heapOf g X N T K M dd) r0 (i3 + 2))] (heapOf g X N T K M dd))
        else none
      else none
    else none := (ev_eq PGM d yA_law [18] 400 _).trans rfl
set_option maxRecDepth 100000 in
theorem eA_law_478 (d : Nat) (g : GT) (X : XS) (N T K : SS) (M : MS) (dd : AH) (r0 : Nat) (r1 : Nat) (r2 : Nat) (i3 : Int32) (k0 : Int32) : sem PGM d yA_law (478, [some (.ref r0), some (.ref r1), some (.ref r2), some (.int i3)], [.int k0], (heapOf g X N T K M dd)) =
    bif inA (heapOf g X N T K M dd) r0 0 (i3 + 1) then bif inA (heapOf g X N T K M dd) r0 0 (i3 + 2) then bif okC (heapOf g X N T K M dd) r2 7 && true then aftK (sem PGM d yA_law) 1 (492, [some (.ref r0), some (.ref r1), some (.ref r2), some (.int i3)], [.int k0], (heapOf g X N T K M dd)) (call PGM d yM_beastOf [.ref r2, .int (rA (heapOf g X N T K M dd) r0 (i3 + 1)), .int (rA (heapOf g X N T K M dd) r0 (i3 + 2))] (heapOf g X N T K M dd))
        else none
      else none
    else none := (ev_eq PGM d yA_law [18] 400 _).trans rfl
set_option maxRecDepth 100000 in
theorem eA_law_516 (d : Nat) (g : GT) (X : XS) (N T K : SS) (M : MS) (dd : AH) (r0 : Nat) (r1 : Nat) (r2 : Nat) (i3 : Int32) (k0 : Int32) : sem PGM d yA_law (516, [some (.ref r0), some (.ref r1), some (.ref r2), some (.int i3)], [.int k0], (heapOf g X N T K M dd)) =
    bif inA (heapOf g X N T K M dd) r0 0 (i3 + 1) then bif inA (heapOf g X N T K M dd) r0 0 (i3 + 2) then bif inA (heapOf g X N T K M dd) r0 0 (i3 + 3) then bif okC (heapOf g X N T K M dd) r2 7 && true then aftK (sem PGM d yA_law) 1 (535, [some (.ref r0), some (.ref r1), some (.ref r2), some (.int i3)], [.int k0], (heapOf g X N T K M dd)) (call PGM d yM_moves [.ref r2, .int (rA (heapOf g X N T K M dd) r0 (i3 + 1)), .int (rA (heapOf g X N T K M dd) r0 (i3 + 2)), .int (rA (heapOf g X N T K M dd) r0 (i3 + 3))] (heapOf g X N T K M dd))
          else none
        else none
      else none
    else none := (ev_eq PGM d yA_law [18] 400 _).trans rfl
set_option maxRecDepth 100000 in
theorem eA_law_569 (d : Nat) (g : GT) (X : XS) (N T K : SS) (M : MS) (dd : AH) (r0 : Nat) (r1 : Nat) (r2 : Nat) (i3 : Int32) (k0 : Int32) : sem PGM d yA_law (569, [some (.ref r0), some (.ref r1), some (.ref r2), some (.int i3)], [.int k0], (heapOf g X N T K M dd)) =
    bif inA (heapOf g X N T K M dd) r0 0 (i3 + 1) then bif inA (heapOf g X N T K M dd) r0 0 (i3 + 2) then bif inA (heapOf g X N T K M dd) r0 0 (i3 + 3) then bif okC (heapOf g X N T K M dd) r2 7 && true then aftK (sem PGM d yA_law) 1 (598, [some (.ref r0), some (.ref r1), some (.ref r2), some (.int i3)], [.int k0], (heapOf g X N T K M dd)) (call PGM d yM_feed [.ref r2, .long (((((rA (heapOf g X N T K M dd) r0 (i3 + 1))).toInt64) <<< (((32 : Int32)).toInt64 &&& 63)) ||| ((((rA (heapOf g X N T K M dd) r0 (i3 + 2))).toInt64) &&& 4294967295)), .int (rA (heapOf g X N T K M dd) r0 (i3 + 3))] (heapOf g X N T K M dd))
          else none
        else none
      else none
    else none := (ev_eq PGM d yA_law [18] 400 _).trans rfl
set_option maxRecDepth 100000 in
theorem eA_law_607 (d : Nat) (g : GT) (X : XS) (N T K : SS) (M : MS) (dd : AH) (r0 : Nat) (r1 : Nat) (r2 : Nat) (i3 : Int32) (k0 : Int32) : sem PGM d yA_law (607, [some (.ref r0), some (.ref r1), some (.ref r2), some (.int i3)], [.int k0], (heapOf g X N T K M dd)) =
    bif okC (heapOf g X N T K M dd) r2 7 && true then aftK (sem PGM d yA_law) 1 (611, [some (.ref r0), some (.ref r1), some (.ref r2), some (.int i3)], [.int k0], (heapOf g X N T K M dd)) (call PGM d yM_read [.ref r2] (heapOf g X N T K M dd))
    else none := (ev_eq PGM d yA_law [18] 400 _).trans rfl
set_option maxRecDepth 100000 in
theorem eA_law_625 (d : Nat) (g : GT) (X : XS) (N T K : SS) (M : MS) (dd : AH) (r0 : Nat) (r1 : Nat) (r2 : Nat) (i3 : Int32) (k0 : Int32) : sem PGM d yA_law (625, [some (.ref r0), some (.ref r1), some (.ref r2), some (.int i3)], [.int k0], (heapOf g X N T K M dd)) =
    bif inA (heapOf g X N T K M dd) r0 0 (i3 + 1) then bif okC (heapOf g X N T K M dd) r2 7 && true then aftK (sem PGM d yA_law) 1 (634, [some (.ref r0), some (.ref r1), some (.ref r2), some (.int i3)], [.int k0], (heapOf g X N T K M dd)) (call PGM d yM_says [.ref r2, .int (rA (heapOf g X N T K M dd) r0 (i3 + 1))] (heapOf g X N T K M dd))
      else none
    else none := (ev_eq PGM d yA_law [18] 400 _).trans rfl
set_option maxRecDepth 100000 in
theorem eA_law_653 (d : Nat) (g : GT) (X : XS) (N T K : SS) (M : MS) (dd : AH) (r0 : Nat) (r1 : Nat) (r2 : Nat) (i3 : Int32) (k0 : Int32) : sem PGM d yA_law (653, [some (.ref r0), some (.ref r1), some (.ref r2), some (.int i3)], [.int k0], (heapOf g X N T K M dd)) =
    bif inA (heapOf g X N T K M dd) r0 0 (i3 + 1) then bif inA (heapOf g X N T K M dd) r0 0 (i3 + 2) then bif okC (heapOf g X N T K M dd) r2 7 && true then aftK (sem PGM d yA_law) 1 (667, [some (.ref r0), some (.ref r1), some (.ref r2), some (.int i3)], [.int k0], (heapOf g X N T K M dd)) (call PGM d yM_fact [.ref r2, .int (rA (heapOf g X N T K M dd) r0 (i3 + 1)), .int (rA (heapOf g X N T K M dd) r0 (i3 + 2))] (heapOf g X N T K M dd))
        else none
      else none
    else none := (ev_eq PGM d yA_law [18] 400 _).trans rfl
set_option maxRecDepth 100000 in
theorem eA_law_681 (d : Nat) (g : GT) (X : XS) (N T K : SS) (M : MS) (dd : AH) (r0 : Nat) (r1 : Nat) (r2 : Nat) (i3 : Int32) (k0 : Int32) : sem PGM d yA_law (681, [some (.ref r0), some (.ref r1), some (.ref r2), some (.int i3)], [.int k0], (heapOf g X N T K M dd)) =
    bif inA (heapOf g X N T K M dd) r0 0 (i3 + 1) then bif okC (heapOf g X N T K M dd) r2 7 && true then aftK (sem PGM d yA_law) 1 (690, [some (.ref r0), some (.ref r1), some (.ref r2), some (.int i3)], [.int k0], (heapOf g X N T K M dd)) (call PGM d yM_run [.ref r2, .int (rA (heapOf g X N T K M dd) r0 (i3 + 1))] (heapOf g X N T K M dd))
      else none
    else none := (ev_eq PGM d yA_law [18] 400 _).trans rfl
set_option maxRecDepth 100000 in
theorem eA_law_704 (d : Nat) (g : GT) (X : XS) (N T K : SS) (M : MS) (dd : AH) (r0 : Nat) (r1 : Nat) (r2 : Nat) (i3 : Int32) (k0 : Int32) : sem PGM d yA_law (704, [some (.ref r0), some (.ref r1), some (.ref r2), some (.int i3)], [.int k0], (heapOf g X N T K M dd)) =
    bif inA (heapOf g X N T K M dd) r0 0 (i3 + 1) then bif okC (heapOf g X N T K M dd) r2 7 && true then aftK (sem PGM d yA_law) 1 (713, [some (.ref r0), some (.ref r1), some (.ref r2), some (.int i3)], [.int k0], (heapOf g X N T K M dd)) (call PGM d yM_morning [.ref r2, .int (rA (heapOf g X N T K M dd) r0 (i3 + 1))] (heapOf g X N T K M dd))
      else none
    else none := (ev_eq PGM d yA_law [18] 400 _).trans rfl
set_option maxRecDepth 100000 in
theorem eA_law_737 (d : Nat) (g : GT) (X : XS) (N T K : SS) (M : MS) (dd : AH) (r0 : Nat) (r1 : Nat) (r2 : Nat) (i3 : Int32) (k0 : Int32) : sem PGM d yA_law (737, [some (.ref r0), some (.ref r1), some (.ref r2), some (.int i3)], [.int k0], (heapOf g X N T K M dd)) =
    bif inA (heapOf g X N T K M dd) r0 0 (i3 + 1) then bif inA (heapOf g X N T K M dd) r0 0 (i3 + 2) then bif inA (heapOf g X N T K M dd) r0 0 (i3 + 3) then bif okC (heapOf g X N T K M dd) r2 7 && true then aftK (sem PGM d yA_law) 1 (756, [some (.ref r0), some (.ref r1), some (.ref r2), some (.int i3)], [.int k0], (heapOf g X N T K M dd)) (call PGM d yM_odds [.ref r2, .int (rA (heapOf g X N T K M dd) r0 (i3 + 1)), .int (rA (heapOf g X N T K M dd) r0 (i3 + 2)), .int (rA (heapOf g X N T K M dd) r0 (i3 + 3))] (heapOf g X N T K M dd))
          else none
        else none
      else none
    else none := (ev_eq PGM d yA_law [18] 400 _).trans rfl
set_option maxRecDepth 100000 in
theorem eA_law_775 (d : Nat) (g : GT) (X : XS) (N T K : SS) (M : MS) (dd : AH) (r0 : Nat) (r1 : Nat) (r2 : Nat) (i3 : Int32) (k0 : Int32) : sem PGM d yA_law (775, [some (.ref r0), some (.ref r1), some (.ref r2), some (.int i3)], [.int k0], (heapOf g X N T K M dd)) =
    bif inA (heapOf g X N T K M dd) r0 0 (i3 + 1) then bif inA (heapOf g X N T K M dd) r0 0 (i3 + 2) then bif okC (heapOf g X N T K M dd) r2 7 && true then aftK (sem PGM d yA_law) 1 (789, [some (.ref r0), some (.ref r1), some (.ref r2), some (.int i3)], [.int k0], (heapOf g X N T K M dd)) (call PGM d yM_begin [.ref r2, .int (rA (heapOf g X N T K M dd) r0 (i3 + 1)), .int (rA (heapOf g X N T K M dd) r0 (i3 + 2))] (heapOf g X N T K M dd))
        else none
      else none
    else none := (ev_eq PGM d yA_law [18] 400 _).trans rfl
set_option maxRecDepth 100000 in
theorem eA_law_803 (d : Nat) (g : GT) (X : XS) (N T K : SS) (M : MS) (dd : AH) (r0 : Nat) (r1 : Nat) (r2 : Nat) (i3 : Int32) (k0 : Int32) : sem PGM d yA_law (803, [some (.ref r0), some (.ref r1), some (.ref r2), some (.int i3)], [.int k0], (heapOf g X N T K M dd)) =
    bif inA (heapOf g X N T K M dd) r0 0 (i3 + 1) then bif okC (heapOf g X N T K M dd) r2 7 && true then aftK (sem PGM d yA_law) 1 (812, [some (.ref r0), some (.ref r1), some (.ref r2), some (.int i3)], [.int k0], (heapOf g X N T K M dd)) (call PGM d yM_door [.ref r2, .int (rA (heapOf g X N T K M dd) r0 (i3 + 1))] (heapOf g X N T K M dd))
      else none
    else none := (ev_eq PGM d yA_law [18] 400 _).trans rfl
set_option maxRecDepth 100000 in
theorem eA_law_826 (d : Nat) (g : GT) (X : XS) (N T K : SS) (M : MS) (dd : AH) (r0 : Nat) (r1 : Nat) (r2 : Nat) (i3 : Int32) (k0 : Int32) : sem PGM d yA_law (826, [some (.ref r0), some (.ref r1), some (.ref r2), some (.int i3)], [.int k0], (heapOf g X N T K M dd)) =
    bif inA (heapOf g X N T K M dd) r0 0 (i3 + 1) then bif okC (heapOf g X N T K M dd) r2 7 && true then aftK (sem PGM d yA_law) 1 (835, [some (.ref r0), some (.ref r1), some (.ref r2), some (.int i3)], [.int k0], (heapOf g X N T K M dd)) (call PGM d yM_limit [.ref r2, .int (rA (heapOf g X N T K M dd) r0 (i3 + 1))] (heapOf g X N T K M dd))
      else none
    else none := (ev_eq PGM d yA_law [18] 400 _).trans rfl
set_option maxRecDepth 100000 in
theorem eA_law_854 (d : Nat) (g : GT) (X : XS) (N T K : SS) (M : MS) (dd : AH) (r0 : Nat) (r1 : Nat) (r2 : Nat) (i3 : Int32) (k0 : Int32) : sem PGM d yA_law (854, [some (.ref r0), some (.ref r1), some (.ref r2), some (.int i3)], [.int k0], (heapOf g X N T K M dd)) =
    bif inA (heapOf g X N T K M dd) r0 0 (i3 + 1) then bif inA (heapOf g X N T K M dd) r0 0 (i3 + 2) then bif okC (heapOf g X N T K M dd) r2 7 && true then aftK (sem PGM d yA_law) 1 (868, [some (.ref r0), some (.ref r1), some (.ref r2), some (.int i3)], [.int k0], (heapOf g X N T K M dd)) (call PGM d yM_law [.ref r2, .int (rA (heapOf g X N T K M dd) r0 (i3 + 1)), .int (rA (heapOf g X N T K M dd) r0 (i3 + 2))] (heapOf g X N T K M dd))
        else none
      else none
    else none := (ev_eq PGM d yA_law [18] 400 _).trans rfl
set_option maxRecDepth 100000 in
theorem eA_law_882 (d : Nat) (g : GT) (X : XS) (N T K : SS) (M : MS) (dd : AH) (r0 : Nat) (r1 : Nat) (r2 : Nat) (i3 : Int32) (k0 : Int32) : sem PGM d yA_law (882, [some (.ref r0), some (.ref r1), some (.ref r2), some (.int i3)], [.int k0], (heapOf g X N T K M dd)) =
    bif inA (heapOf g X N T K M dd) r0 0 (i3 + 1) then bif okC (heapOf g X N T K M dd) r2 7 && true then aftK (sem PGM d yA_law) 1 (891, [some (.ref r0), some (.ref r1), some (.ref r2), some (.int i3)], [.int k0], (heapOf g X N T K M dd)) (call PGM d yM_together [.ref r2, .int (rA (heapOf g X N T K M dd) r0 (i3 + 1))] (heapOf g X N T K M dd))
      else none
    else none := (ev_eq PGM d yA_law [18] 400 _).trans rfl
set_option maxRecDepth 100000 in
theorem eA_law_905 (d : Nat) (g : GT) (X : XS) (N T K : SS) (M : MS) (dd : AH) (r0 : Nat) (r1 : Nat) (r2 : Nat) (i3 : Int32) (k0 : Int32) : sem PGM d yA_law (905, [some (.ref r0), some (.ref r1), some (.ref r2), some (.int i3)], [.int k0], (heapOf g X N T K M dd)) =
    bif inA (heapOf g X N T K M dd) r0 0 (i3 + 1) then bif okC (heapOf g X N T K M dd) r2 7 && true then aftK (sem PGM d yA_law) 1 (914, [some (.ref r0), some (.ref r1), some (.ref r2), some (.int i3)], [.int k0], (heapOf g X N T K M dd)) (call PGM d yM_harm [.ref r2, .int (rA (heapOf g X N T K M dd) r0 (i3 + 1))] (heapOf g X N T K M dd))
      else none
    else none := (ev_eq PGM d yA_law [18] 400 _).trans rfl
set_option maxRecDepth 100000 in
theorem eA_law_928 (d : Nat) (g : GT) (X : XS) (N T K : SS) (M : MS) (dd : AH) (r0 : Nat) (r1 : Nat) (r2 : Nat) (i3 : Int32) (k0 : Int32) : sem PGM d yA_law (928, [some (.ref r0), some (.ref r1), some (.ref r2), some (.int i3)], [.int k0], (heapOf g X N T K M dd)) =
    bif inA (heapOf g X N T K M dd) r0 0 (i3 + 1) then bif okC (heapOf g X N T K M dd) r2 7 && true then aftK (sem PGM d yA_law) 1 (937, [some (.ref r0), some (.ref r1), some (.ref r2), some (.int i3)], [.int k0], (heapOf g X N T K M dd)) (call PGM d yM_prove [.ref r2, .int (rA (heapOf g X N T K M dd) r0 (i3 + 1))] (heapOf g X N T K M dd))
      else none
    else none := (ev_eq PGM d yA_law [18] 400 _).trans rfl
set_option maxRecDepth 100000 in
theorem eA_law_956 (d : Nat) (g : GT) (X : XS) (N T K : SS) (M : MS) (dd : AH) (r0 : Nat) (r1 : Nat) (r2 : Nat) (i3 : Int32) (k0 : Int32) : sem PGM d yA_law (956, [some (.ref r0), some (.ref r1), some (.ref r2), some (.int i3)], [.int k0], (heapOf g X N T K M dd)) =
    bif inA (heapOf g X N T K M dd) r0 0 (i3 + 1) then bif inA (heapOf g X N T K M dd) r0 0 (i3 + 2) then bif okC (heapOf g X N T K M dd) r2 7 && true then aftK (sem PGM d yA_law) 1 (970, [some (.ref r0), some (.ref r1), some (.ref r2), some (.int i3)], [.int k0], (heapOf g X N T K M dd)) (call PGM d yM_row [.ref r2, .int (rA (heapOf g X N T K M dd) r0 (i3 + 1)), .int (rA (heapOf g X N T K M dd) r0 (i3 + 2))] (heapOf g X N T K M dd))
        else none
      else none
    else none := (ev_eq PGM d yA_law [18] 400 _).trans rfl
set_option maxRecDepth 100000 in
theorem eA_law_994 (d : Nat) (g : GT) (X : XS) (N T K : SS) (M : MS) (dd : AH) (r0 : Nat) (r1 : Nat) (r2 : Nat) (i3 : Int32) (k0 : Int32) : sem PGM d yA_law (994, [some (.ref r0), some (.ref r1), some (.ref r2), some (.int i3)], [.int k0], (heapOf g X N T K M dd)) =
    bif inA (heapOf g X N T K M dd) r0 0 (i3 + 1) then bif inA (heapOf g X N T K M dd) r0 0 (i3 + 2) then bif inA (heapOf g X N T K M dd) r0 0 (i3 + 3) then bif okC (heapOf g X N T K M dd) r2 7 && true then aftK (sem PGM d yA_law) 1 (1013, [some (.ref r0), some (.ref r1), some (.ref r2), some (.int i3)], [.int k0], (heapOf g X N T K M dd)) (call PGM d yM_alterRow [.ref r2, .int (rA (heapOf g X N T K M dd) r0 (i3 + 1)), .int (rA (heapOf g X N T K M dd) r0 (i3 + 2)), .int (rA (heapOf g X N T K M dd) r0 (i3 + 3))] (heapOf g X N T K M dd))
          else none
        else none
      else none
    else none := (ev_eq PGM d yA_law [18] 400 _).trans rfl
set_option maxRecDepth 100000 in
theorem eA_law_1022 (d : Nat) (g : GT) (X : XS) (N T K : SS) (M : MS) (dd : AH) (r0 : Nat) (r1 : Nat) (r2 : Nat) (i3 : Int32) (k0 : Int32) : sem PGM d yA_law (1022, [some (.ref r0), some (.ref r1), some (.ref r2), some (.int i3)], [.int k0], (heapOf g X N T K M dd)) =
    bif okC (heapOf g X N T K M dd) r2 7 && true then aftK (sem PGM d yA_law) 1 (1026, [some (.ref r0), some (.ref r1), some (.ref r2), some (.int i3)], [.int k0], (heapOf g X N T K M dd)) (call PGM d yM_judge [.ref r2] (heapOf g X N T K M dd))
    else none := (ev_eq PGM d yA_law [18] 400 _).trans rfl
set_option maxRecDepth 100000 in
theorem eA_law_1050 (d : Nat) (g : GT) (X : XS) (N T K : SS) (M : MS) (dd : AH) (r0 : Nat) (r1 : Nat) (r2 : Nat) (i3 : Int32) (k0 : Int32) : sem PGM d yA_law (1050, [some (.ref r0), some (.ref r1), some (.ref r2), some (.int i3)], [.int k0], (heapOf g X N T K M dd)) =
    bif inA (heapOf g X N T K M dd) r0 0 (i3 + 1) then bif inA (heapOf g X N T K M dd) r0 0 (i3 + 2) then bif inA (heapOf g X N T K M dd) r0 0 (i3 + 3) then bif okC (heapOf g X N T K M dd) r2 7 && true then aftK (sem PGM d yA_law) 1 (1069, [some (.ref r0), some (.ref r1), some (.ref r2), some (.int i3)], [.int k0], (heapOf g X N T K M dd)) (call PGM d yM_sheet [.ref r2, .int (rA (heapOf g X N T K M dd) r0 (i3 + 1)), .int (rA (heapOf g X N T K M dd) r0 (i3 + 2)), .int (rA (heapOf g X N T K M dd) r0 (i3 + 3))] (heapOf g X N T K M dd))
          else none
        else none
      else none
    else none := (ev_eq PGM d yA_law [18] 400 _).trans rfl
set_option maxRecDepth 100000 in
theorem eA_law_1093 (d : Nat) (g : GT) (X : XS) (N T K : SS) (M : MS) (dd : AH) (r0 : Nat) (r1 : Nat) (r2 : Nat) (i3 : Int32) (k0 : Int32) : sem PGM d yA_law (1093, [some (.ref r0), some (.ref r1), some (.ref r2), some (.int i3)], [.int k0], (heapOf g X N T K M dd)) =
    bif inA (heapOf g X N T K M dd) r0 0 (i3 + 1) then bif inA (heapOf g X N T K M dd) r0 0 (i3 + 2) then bif inA (heapOf g X N T K M dd) r0 0 (i3 + 3) then bif okC (heapOf g X N T K M dd) r2 7 && true then aftK (sem PGM d yA_law) 1 (1112, [some (.ref r0), some (.ref r1), some (.ref r2), some (.int i3)], [.int k0], (heapOf g X N T K M dd)) (call PGM d yM_put [.ref r2, .int (rA (heapOf g X N T K M dd) r0 (i3 + 1)), .int (rA (heapOf g X N T K M dd) r0 (i3 + 2)), .int (rA (heapOf g X N T K M dd) r0 (i3 + 3))] (heapOf g X N T K M dd))
          else none
        else none
      else none
    else none := (ev_eq PGM d yA_law [18] 400 _).trans rfl
set_option maxRecDepth 100000 in
theorem eA_law_1136 (d : Nat) (g : GT) (X : XS) (N T K : SS) (M : MS) (dd : AH) (r0 : Nat) (r1 : Nat) (r2 : Nat) (i3 : Int32) (k0 : Int32) : sem PGM d yA_law (1136, [some (.ref r0), some (.ref r1), some (.ref r2), some (.int i3)], [.int k0], (heapOf g X N T K M dd)) =
    bif inA (heapOf g X N T K M dd) r0 0 (i3 + 1) then bif inA (heapOf g X N T K M dd) r0 0 (i3 + 2) then bif inA (heapOf g X N T K M dd) r0 0 (i3 + 3) then bif okC (heapOf g X N T K M dd) r2 7 && true then aftK (sem PGM d yA_law) 1 (1155, [some (.ref r0), some (.ref r1), some (.ref r2), some (.int i3)], [.int k0], (heapOf g X N T K M dd)) (call PGM d yM_item [.ref r2, .int (rA (heapOf g X N T K M dd) r0 (i3 + 1)), .int (rA (heapOf g X N T K M dd) r0 (i3 + 2)), .int (rA (heapOf g X N T K M dd) r0 (i3 + 3))] (heapOf g X N T K M dd))
          else none
        else none
      else none
    else none := (ev_eq PGM d yA_law [18] 400 _).trans rfl
set_option maxRecDepth 100000 in
theorem eA_law_1179 (d : Nat) (g : GT) (X : XS) (N T K : SS) (M : MS) (dd : AH) (r0 : Nat) (r1 : Nat) (r2 : Nat) (i3 : Int32) (k0 : Int32) : sem PGM d yA_law (1179, [some (.ref r0), some (.ref r1), some (.ref r2), some (.int i3)], [.int k0], (heapOf g X N T K M dd)) =
    bif inA (heapOf g X N T K M dd) r0 0 (i3 + 1) then bif inA (heapOf g X N T K M dd) r0 0 (i3 + 2) then bif inA (heapOf g X N T K M dd) r0 0 (i3 + 3) then bif okC (heapOf g X N T K M dd) r2 7 && true then aftK (sem PGM d yA_law) 1 (1198, [some (.ref r0), some (.ref r1), some (.ref r2), some (.int i3)], [.int k0], (heapOf g X N T K M dd)) (call PGM d yM_widths [.ref r2, .int (rA (heapOf g X N T K M dd) r0 (i3 + 1)), .int (rA (heapOf g X N T K M dd) r0 (i3 + 2)), .int (rA (heapOf g X N T K M dd) r0 (i3 + 3))] (heapOf g X N T K M dd))
          else none
        else none
      else none
    else none := (ev_eq PGM d yA_law [18] 400 _).trans rfl
set_option maxRecDepth 100000 in
theorem eA_law_1222 (d : Nat) (g : GT) (X : XS) (N T K : SS) (M : MS) (dd : AH) (r0 : Nat) (r1 : Nat) (r2 : Nat) (i3 : Int32) (k0 : Int32) : sem PGM d yA_law (1222, [some (.ref r0), some (.ref r1), some (.ref r2), some (.int i3)], [.int k0], (heapOf g X N T K M dd)) =
    bif inA (heapOf g X N T K M dd) r0 0 (i3 + 1) then bif inA (heapOf g X N T K M dd) r0 0 (i3 + 2) then bif inA (heapOf g X N T K M dd) r0 0 (i3 + 3) then bif okC (heapOf g X N T K M dd) r2 7 && true then aftK (sem PGM d yA_law) 1 (1241, [some (.ref r0), some (.ref r1), some (.ref r2), some (.int i3)], [.int k0], (heapOf g X N T K M dd)) (call PGM d yM_shelf [.ref r2, .int (rA (heapOf g X N T K M dd) r0 (i3 + 1)), .int (rA (heapOf g X N T K M dd) r0 (i3 + 2)), .int (rA (heapOf g X N T K M dd) r0 (i3 + 3))] (heapOf g X N T K M dd))
          else none
        else none
      else none
    else none := (ev_eq PGM d yA_law [18] 400 _).trans rfl
set_option maxRecDepth 100000 in
theorem eA_law_1260 (d : Nat) (g : GT) (X : XS) (N T K : SS) (M : MS) (dd : AH) (r0 : Nat) (r1 : Nat) (r2 : Nat) (i3 : Int32) (k0 : Int32) : sem PGM d yA_law (1260, [some (.ref r0), some (.ref r1), some (.ref r2), some (.int i3)], [.int k0], (heapOf g X N T K M dd)) =
    bif inA (heapOf g X N T K M dd) r0 0 (i3 + 1) then bif inA (heapOf g X N T K M dd) r0 0 (i3 + 2) then bif okC (heapOf g X N T K M dd) r2 7 && true then aftK (sem PGM d yA_law) 1 (1274, [some (.ref r0), some (.ref r1), some (.ref r2), some (.int i3)], [.int k0], (heapOf g X N T K M dd)) (call PGM d yM_taken [.ref r2, .int (rA (heapOf g X N T K M dd) r0 (i3 + 1)), .int (rA (heapOf g X N T K M dd) r0 (i3 + 2))] (heapOf g X N T K M dd))
        else none
      else none
    else none := (ev_eq PGM d yA_law [18] 400 _).trans rfl
set_option maxRecDepth 100000 in
theorem eA_law_1298 (d : Nat) (g : GT) (X : XS) (N T K : SS) (M : MS) (dd : AH) (r0 : Nat) (r1 : Nat) (r2 : Nat) (i3 : Int32) (k0 : Int32) : sem PGM d yA_law (1298, [some (.ref r0), some (.ref r1), some (.ref r2), some (.int i3)], [.int k0], (heapOf g X N T K M dd)) =
    bif inA (heapOf g X N T K M dd) r0 0 (i3 + 1) then bif inA (heapOf g X N T K M dd) r0 0 (i3 + 2) then bif inA (heapOf g X N T K M dd) r0 0 (i3 + 3) then bif okC (heapOf g X N T K M dd) r2 7 && true then aftK (sem PGM d yA_law) 1 (1317, [some (.ref r0), some (.ref r1), some (.ref r2), some (.int i3)], [.int k0], (heapOf g X N T K M dd)) (call PGM d yM_act [.ref r2, .int (rA (heapOf g X N T K M dd) r0 (i3 + 1)), .int (rA (heapOf g X N T K M dd) r0 (i3 + 2)), .int (rA (heapOf g X N T K M dd) r0 (i3 + 3))] (heapOf g X N T K M dd))
          else none
        else none
      else none
    else none := (ev_eq PGM d yA_law [18] 400 _).trans rfl
set_option maxRecDepth 100000 in
theorem eA_law_1331 (d : Nat) (g : GT) (X : XS) (N T K : SS) (M : MS) (dd : AH) (r0 : Nat) (r1 : Nat) (r2 : Nat) (i3 : Int32) (k0 : Int32) : sem PGM d yA_law (1331, [some (.ref r0), some (.ref r1), some (.ref r2), some (.int i3)], [.int k0], (heapOf g X N T K M dd)) =
    bif inA (heapOf g X N T K M dd) r0 0 (i3 + 1) then bif okC (heapOf g X N T K M dd) r2 7 && true then aftK (sem PGM d yA_law) 1 (1340, [some (.ref r0), some (.ref r1), some (.ref r2), some (.int i3)], [.int k0], (heapOf g X N T K M dd)) (call PGM d yM_trace [.ref r2, .int (rA (heapOf g X N T K M dd) r0 (i3 + 1))] (heapOf g X N T K M dd))
      else none
    else none := (ev_eq PGM d yA_law [18] 400 _).trans rfl
set_option maxRecDepth 100000 in
theorem eA_law_1354 (d : Nat) (g : GT) (X : XS) (N T K : SS) (M : MS) (dd : AH) (r0 : Nat) (r1 : Nat) (r2 : Nat) (i3 : Int32) (k0 : Int32) : sem PGM d yA_law (1354, [some (.ref r0), some (.ref r1), some (.ref r2), some (.int i3)], [.int k0], (heapOf g X N T K M dd)) =
    bif inA (heapOf g X N T K M dd) r0 0 (i3 + 1) then bif okC (heapOf g X N T K M dd) r2 7 && true then aftK (sem PGM d yA_law) 1 (1363, [some (.ref r0), some (.ref r1), some (.ref r2), some (.int i3)], [.int k0], (heapOf g X N T K M dd)) (call PGM d yM_many [.ref r2, .int (rA (heapOf g X N T K M dd) r0 (i3 + 1))] (heapOf g X N T K M dd))
      else none
    else none := (ev_eq PGM d yA_law [18] 400 _).trans rfl
set_option maxRecDepth 100000 in
theorem eA_law_1372 (d : Nat) (g : GT) (X : XS) (N T K : SS) (M : MS) (dd : AH) (r0 : Nat) (r1 : Nat) (r2 : Nat) (i3 : Int32) (k0 : Int32) : sem PGM d yA_law (1372, [some (.ref r0), some (.ref r1), some (.ref r2), some (.int i3)], [.int k0], (heapOf g X N T K M dd)) =
    bif okC (heapOf g X N T K M dd) r2 7 && true then aftK (sem PGM d yA_law) 1 (1376, [some (.ref r0), some (.ref r1), some (.ref r2), some (.int i3)], [.int k0], (heapOf g X N T K M dd)) (call PGM d yM_keep [.ref r2] (heapOf g X N T K M dd))
    else none := (ev_eq PGM d yA_law [18] 400 _).trans rfl
set_option maxRecDepth 100000 in
theorem eA_law_1385 (d : Nat) (g : GT) (X : XS) (N T K : SS) (M : MS) (dd : AH) (r0 : Nat) (r1 : Nat) (r2 : Nat) (i3 : Int32) (k0 : Int32) : sem PGM d yA_law (1385, [some (.ref r0), some (.ref r1), some (.ref r2), some (.int i3)], [.int k0], (heapOf g X N T K M dd)) =
    bif okC (heapOf g X N T K M dd) r2 7 && true then aftK (sem PGM d yA_law) 1 (1389, [some (.ref r0), some (.ref r1), some (.ref r2), some (.int i3)], [.int k0], (heapOf g X N T K M dd)) (call PGM d yM_again [.ref r2] (heapOf g X N T K M dd))
    else none := (ev_eq PGM d yA_law [18] 400 _).trans rfl
set_option maxRecDepth 100000 in
theorem eA_law_218 (d : Nat) (g : GT) (X : XS) (N T K : SS) (M : MS) (dd : AH) (r0 : Nat) (r1 : Nat) (r2 : Nat) (i3 : Int32) (k0 : Int32) (k1 : Int32) : sem PGM d yA_law (218, [some (.ref r0), some (.ref r1), some (.ref r2), some (.int i3)], [.int k1, .int k0], (heapOf g X N T K M dd)) =
    bif decide (k0 = k1) then sem PGM d yA_law (18, [some (.ref r0), some (.ref r1), some (.ref r2), some (.int (i3 + 4))], [], (heapOf g X N T K M dd))
    else some (some (.int 0), (heapOf g X N T K M dd)) := (ev_eq PGM d yA_law [18] 400 _).trans rfl
set_option maxRecDepth 100000 in
theorem eA_law_261 (d : Nat) (g : GT) (X : XS) (N T K : SS) (M : MS) (dd : AH) (r0 : Nat) (r1 : Nat) (r2 : Nat) (i3 : Int32) (k0 : Int32) (k1 : Int32) : sem PGM d yA_law (261, [some (.ref r0), some (.ref r1), some (.ref r2), some (.int i3)], [.int k1, .int k0], (heapOf g X N T K M dd)) =
    bif decide (k0 = k1) then sem PGM d yA_law (18, [some (.ref r0), some (.ref r1), some (.ref r2), some (.int (i3 + 4))], [], (heapOf g X N T K M dd))
    else some (some (.int 0), (heapOf g X N T K M dd)) := (ev_eq PGM d yA_law [18] 400 _).trans rfl
set_option maxRecDepth 100000 in
theorem eA_law_294 (d : Nat) (g : GT) (X : XS) (N T K : SS) (M : MS) (dd : AH) (r0 : Nat) (r1 : Nat) (r2 : Nat) (i3 : Int32) (k0 : Int32) (k1 : Int32) : sem PGM d yA_law (294, [some (.ref r0), some (.ref r1), some (.ref r2), some (.int i3)], [.int k1, .int k0], (heapOf g X N T K M dd)) =
    bif decide (k0 = k1) then sem PGM d yA_law (18, [some (.ref r0), some (.ref r1), some (.ref r2), some (.int (i3 + 4))], [], (heapOf g X N T K M dd))
    else some (some (.int 0), (heapOf g X N T K M dd)) := (ev_eq PGM d yA_law [18] 400 _).trans rfl
set_option maxRecDepth 100000 in
theorem eA_law_327 (d : Nat) (g : GT) (X : XS) (N T K : SS) (M : MS) (dd : AH) (r0 : Nat) (r1 : Nat) (r2 : Nat) (i3 : Int32) (k0 : Int32) (k1 : Int32) : sem PGM d yA_law (327, [some (.ref r0), some (.ref r1), some (.ref r2), some (.int i3)], [.int k1, .int k0], (heapOf g X N T K M dd)) =
    bif decide (k0 = k1) then sem PGM d yA_law (18, [some (.ref r0), some (.ref r1), some (.ref r2), some (.int (i3 + 4))], [], (heapOf g X N T K M dd))
    else some (some (.int 0), (heapOf g X N T K M dd)) := (ev_eq PGM d yA_law [18] 400 _).trans rfl
set_option maxRecDepth 100000 in
theorem eA_law_350 (d : Nat) (g : GT) (X : XS) (N T K : SS) (M : MS) (dd : AH) (r0 : Nat) (r1 : Nat) (r2 : Nat) (i3 : Int32) (k0 : Int32) (k1 : Int32) : sem PGM d yA_law (350, [some (.ref r0), some (.ref r1), some (.ref r2), some (.int i3)], [.int k1, .int k0], (heapOf g X N T K M dd)) =
    bif decide (k0 = k1) then sem PGM d yA_law (18, [some (.ref r0), some (.ref r1), some (.ref r2), some (.int (i3 + 4))], [], (heapOf g X N T K M dd))
    else some (some (.int 0), (heapOf g X N T K M dd)) := (ev_eq PGM d yA_law [18] 400 _).trans rfl
set_option maxRecDepth 100000 in
theorem eA_law_393 (d : Nat) (g : GT) (X : XS) (N T K : SS) (M : MS) (dd : AH) (r0 : Nat) (r1 : Nat) (r2 : Nat) (i3 : Int32) (k0 : Int32) (k1 : Int32) : sem PGM d yA_law (393, [some (.ref r0), some (.ref r1), some (.ref r2), some (.int i3)], [.int k1, .int k0], (heapOf g X N T K M dd)) =
    bif decide (k0 = k1) then sem PGM d yA_law (18, [some (.ref r0), some (.ref r1), some (.ref r2), some (.int (i3 + 4))], [], (heapOf g X N T K M dd))
    else some (some (.int 0), (heapOf g X N T K M dd)) := (ev_eq PGM d yA_law [18] 400 _).trans rfl
set_option maxRecDepth 100000 in
theorem eA_law_426 (d : Nat) (g : GT) (X : XS) (N T K : SS) (M : MS) (dd : AH) (r0 : Nat) (r1 : Nat) (r2 : Nat) (i3 : Int32) (k0 : Int32) (k1 : Int32) : sem PGM d yA_law (426, [some (.ref r0), some (.ref r1), some (.ref r2), some (.int i3)], [.int k1, .int k0], (heapOf g X N T K M dd)) =
    bif decide (k0 = k1) then sem PGM d yA_law (18, [some (.ref r0), some (.ref r1), some (.ref r2), some (.int (i3 + 4))], [], (heapOf g X N T K M dd))
    else some (some (.int 0), (heapOf g X N T K M dd)) := (ev_eq PGM d yA_law [18] 400 _).trans rfl
set_option maxRecDepth 100000 in
theorem eA_law_459 (d : Nat) (g : GT) (X : XS) (N T K : SS) (M : MS) (dd : AH) (r0 : Nat) (r1 : Nat) (r2 : Nat) (i3 : Int32) (k0 : Int32) (k1 : Int32) : sem PGM d yA_law (459, [some (.ref r0), some (.ref r1), some (.ref r2), some (.int i3)], [.int k1, .int k0], (heapOf g X N T K M dd)) =
    bif decide (k0 = k1) then sem PGM d yA_law (18, [some (.ref r0), some (.ref r1), some (.ref r2), some (.int (i3 + 4))], [], (heapOf g X N T K M dd))
    else some (some (.int 0), (heapOf g X N T K M dd)) := (ev_eq PGM d yA_law [18] 400 _).trans rfl
set_option maxRecDepth 100000 in
theorem eA_law_492 (d : Nat) (g : GT) (X : XS) (N T K : SS) (M : MS) (dd : AH) (r0 : Nat) (r1 : Nat) (r2 : Nat) (i3 : Int32) (k0 : Int32) (k1 : Int32) : sem PGM d yA_law (492, [some (.ref r0), some (.ref r1), some (.ref r2), some (.int i3)], [.int k1, .int k0], (heapOf g X N T K M dd)) =
    bif decide (k0 = k1) then sem PGM d yA_law (18, [some (.ref r0), some (.ref r1), some (.ref r2), some (.int (i3 + 4))], [], (heapOf g X N T K M dd))
    else some (some (.int 0), (heapOf g X N T K M dd)) := (ev_eq PGM d yA_law [18] 400 _).trans rfl
set_option maxRecDepth 100000 in
theorem eA_law_535 (d : Nat) (g : GT) (X : XS) (N T K : SS) (M : MS) (dd : AH) (r0 : Nat) (r1 : Nat) (r2 : Nat) (i3 : Int32) (k0 : Int32) (k1 : Int32) : sem PGM d yA_law (535, [some (.ref r0), some (.ref r1), some (.ref r2), some (.int i3)], [.int k1, .int k0], (heapOf g X N T K M dd)) =
    bif decide (k0 = k1) then sem PGM d yA_law (18, [some (.ref r0), some (.ref r1), some (.ref r2), some (.int (i3 + 4))], [], (heapOf g X N T K M dd))
    else some (some (.int 0), (heapOf g X N T K M dd)) := (ev_eq PGM d yA_law [18] 400 _).trans rfl
set_option maxRecDepth 100000 in
theorem eA_law_598 (d : Nat) (g : GT) (X : XS) (N T K : SS) (M : MS) (dd : AH) (r0 : Nat) (r1 : Nat) (r2 : Nat) (i3 : Int32) (k0 : Int32) (k1 : Int32) : sem PGM d yA_law (598, [some (.ref r0), some (.ref r1), some (.ref r2), some (.int i3)], [.int k1, .int k0], (heapOf g X N T K M dd)) =
    bif decide (k0 = k1) then sem PGM d yA_law (18, [some (.ref r0), some (.ref r1), some (.ref r2), some (.int (i3 + 4))], [], (heapOf g X N T K M dd))
    else some (some (.int 0), (heapOf g X N T K M dd)) := (ev_eq PGM d yA_law [18] 400 _).trans rfl
set_option maxRecDepth 100000 in
theorem eA_law_611 (d : Nat) (g : GT) (X : XS) (N T K : SS) (M : MS) (dd : AH) (r0 : Nat) (r1 : Nat) (r2 : Nat) (i3 : Int32) (k0 : Int32) (k1 : Int32) : sem PGM d yA_law (611, [some (.ref r0), some (.ref r1), some (.ref r2), some (.int i3)], [.int k1, .int k0], (heapOf g X N T K M dd)) =
    bif decide (k0 = k1) then sem PGM d yA_law (18, [some (.ref r0), some (.ref r1), some (.ref r2), some (.int (i3 + 4))], [], (heapOf g X N T K M dd))
    else some (some (.int 0), (heapOf g X N T K M dd)) := (ev_eq PGM d yA_law [18] 400 _).trans rfl
set_option maxRecDepth 100000 in
theorem eA_law_634 (d : Nat) (g : GT) (X : XS) (N T K : SS) (M : MS) (dd : AH) (r0 : Nat) (r1 : Nat) (r2 : Nat) (i3 : Int32) (k0 : Int32) (k1 : Int32) : sem PGM d yA_law (634, [some (.ref r0), some (.ref r1), some (.ref r2), some (.int i3)], [.int k1, .int k0], (heapOf g X N T K M dd)) =
    bif decide (k0 = k1) then sem PGM d yA_law (18, [some (.ref r0), some (.ref r1), some (.ref r2), some (.int (i3 + 4))], [], (heapOf g X N T K M dd))
    else some (some (.int 0), (heapOf g X N T K M dd)) := (ev_eq PGM d yA_law [18] 400 _).trans rfl
set_option maxRecDepth 100000 in
theorem eA_law_667 (d : Nat) (g : GT) (X : XS) (N T K : SS) (M : MS) (dd : AH) (r0 : Nat) (r1 : Nat) (r2 : Nat) (i3 : Int32) (k0 : Int32) (k1 : Int32) : sem PGM d yA_law (667, [some (.ref r0), some (.ref r1), some (.ref r2), some (.int i3)], [.int k1, .int k0], (heapOf g X N T K M dd)) =
    bif decide (k0 = k1) then sem PGM d yA_law (18, [some (.ref r0), some (.ref r1), some (.ref r2), some (.int (i3 + 4))], [], (heapOf g X N T K M dd))
    else some (some (.int 0), (heapOf g X N T K M dd)) := (ev_eq PGM d yA_law [18] 400 _).trans rfl
set_option maxRecDepth 100000 in
theorem eA_law_690 (d : Nat) (g : GT) (X : XS) (N T K : SS) (M : MS) (dd : AH) (r0 : Nat) (r1 : Nat) (r2 : Nat) (i3 : Int32) (k0 : Int32) (k1 : Int32) : sem PGM d yA_law (690, [some (.ref r0), some (.ref r1), some (.ref r2), some (.int i3)], [.int k1, .int k0], (heapOf g X N T K M dd)) =
    bif decide (k0 = k1) then sem PGM d yA_law (18, [some (.ref r0), some (.ref r1), some (.ref r2), some (.int (i3 + 4))], [], (heapOf g X N T K M dd))
    else some (some (.int 0), (heapOf g X N T K M dd)) := (ev_eq PGM d yA_law [18] 400 _).trans rfl
set_option maxRecDepth 100000 in
theorem eA_law_713 (d : Nat) (g : GT) (X : XS) (N T K : SS) (M : MS) (dd : AH) (r0 : Nat) (r1 : Nat) (r2 : Nat) (i3 : Int32) (k0 : Int32) (k1 : Int32) : sem PGM d yA_law (713, [some (.ref r0), some (.ref r1), some (.ref r2), some (.int i3)], [.int k1, .int k0], (heapOf g X N T K M dd)) =
    bif decide (k0 = k1) then sem PGM d yA_law (18, [some (.ref r0), some (.ref r1), some (.ref r2), some (.int (i3 + 4))], [], (heapOf g X N T K M dd))
    else some (some (.int 0), (heapOf g X N T K M dd)) := (ev_eq PGM d yA_law [18] 400 _).trans rfl
set_option maxRecDepth 100000 in
theorem eA_law_756 (d : Nat) (g : GT) (X : XS) (N T K : SS) (M : MS) (dd : AH) (r0 : Nat) (r1 : Nat) (r2 : Nat) (i3 : Int32) (k0 : Int32) (k1 : Int32) : sem PGM d yA_law (756, [some (.ref r0), some (.ref r1), some (.ref r2), some (.int i3)], [.int k1, .int k0], (heapOf g X N T K M dd)) =
    bif decide (k0 = k1) then sem PGM d yA_law (18, [some (.ref r0), some (.ref r1), some (.ref r2), some (.int (i3 + 4))], [], (heapOf g X N T K M dd))
    else some (some (.int 0), (heapOf g X N T K M dd)) := (ev_eq PGM d yA_law [18] 400 _).trans rfl
set_option maxRecDepth 100000 in
theorem eA_law_789 (d : Nat) (g : GT) (X : XS) (N T K : SS) (M : MS) (dd : AH) (r0 : Nat) (r1 : Nat) (r2 : Nat) (i3 : Int32) (k0 : Int32) (k1 : Int32) : sem PGM d yA_law (789, [some (.ref r0), some (.ref r1), some (.ref r2), some (.int i3)], [.int k1, .int k0], (heapOf g X N T K M dd)) =
    bif decide (k0 = k1) then sem PGM d yA_law (18, [some (.ref r0), some (.ref r1), some (.ref r2), some (.int (i3 + 4))], [], (heapOf g X N T K M dd))
    else some (some (.int 0), (heapOf g X N T K M dd)) := (ev_eq PGM d yA_law [18] 400 _).trans rfl
set_option maxRecDepth 100000 in
theorem eA_law_812 (d : Nat) (g : GT) (X : XS) (N T K : SS) (M : MS) (dd : AH) (r0 : Nat) (r1 : Nat) (r2 : Nat) (i3 : Int32) (k0 : Int32) (k1 : Int32) : sem PGM d yA_law (812, [some (.ref r0), some (.ref r1), some (.ref r2), some (.int i3)], [.int k1, .int k0], (heapOf g X N T K M dd)) =
    bif decide (k0 = k1) then sem PGM d yA_law (18, [some (.ref r0), some (.ref r1), some (.ref r2), some (.int (i3 + 4))], [], (heapOf g X N T K M dd))
    else some (some (.int 0), (heapOf g X N T K M dd)) := (ev_eq PGM d yA_law [18] 400 _).trans rfl
set_option maxRecDepth 100000 in
theorem eA_law_835 (d : Nat) (g : GT) (X : XS) (N T K : SS) (M : MS) (dd : AH) (r0 : Nat) (r1 : Nat) (r2 : Nat) (i3 : Int32) (k0 : Int32) (k1 : Int32) : sem PGM d yA_law (835, [some (.ref r0), some (.ref r1), some (.ref r2), some (.int i3)], [.int k1, .int k0], (heapOf g X N T K M dd)) =
    bif decide (k0 = k1) then sem PGM d yA_law (18, [some (.ref r0), some (.ref r1), some (.ref r2), some (.int (i3 + 4))], [], (heapOf g X N T K M dd))
    else some (some (.int 0), (heapOf g X N T K M dd)) := (ev_eq PGM d yA_law [18] 400 _).trans rfl
set_option maxRecDepth 100000 in
theorem eA_law_868 (d : Nat) (g : GT) (X : XS) (N T K : SS) (M : MS) (dd : AH) (r0 : Nat) (r1 : Nat) (r2 : Nat) (i3 : Int32) (k0 : Int32) (k1 : Int32) : sem PGM d yA_law (868, [some (.ref r0), some (.ref r1), some (.ref r2), some (.int i3)], [.int k1, .int k0], (heapOf g X N T K M dd)) =
    bif decide (k0 = k1) then sem PGM d yA_law (18, [some (.ref r0), some (.ref r1), some (.ref r2), some (.int (i3 + 4))], [], (heapOf g X N T K M dd))
    else some (some (.int 0), (heapOf g X N T K M dd)) := (ev_eq PGM d yA_law [18] 400 _).trans rfl
set_option maxRecDepth 100000 in
theorem eA_law_891 (d : Nat) (g : GT) (X : XS) (N T K : SS) (M : MS) (dd : AH) (r0 : Nat) (r1 : Nat) (r2 : Nat) (i3 : Int32) (k0 : Int32) (k1 : Int32) : sem PGM d yA_law (891, [some (.ref r0), some (.ref r1), some (.ref r2), some (.int i3)], [.int k1, .int k0], (heapOf g X N T K M dd)) =
    bif decide (k0 = k1) then sem PGM d yA_law (18, [some (.ref r0), some (.ref r1), some (.ref r2), some (.int (i3 + 4))], [], (heapOf g X N T K M dd))
    else some (some (.int 0), (heapOf g X N T K M dd)) := (ev_eq PGM d yA_law [18] 400 _).trans rfl
set_option maxRecDepth 100000 in
theorem eA_law_914 (d : Nat) (g : GT) (X : XS) (N T K : SS) (M : MS) (dd : AH) (r0 : Nat) (r1 : Nat) (r2 : Nat) (i3 : Int32) (k0 : Int32) (k1 : Int32) : sem PGM d yA_law (914, [some (.ref r0), some (.ref r1), some (.ref r2), some (.int i3)], [.int k1, .int k0], (heapOf g X N T K M dd)) =
    bif decide (k0 = k1) then sem PGM d yA_law (18, [some (.ref r0), some (.ref r1), some (.ref r2), some (.int (i3 + 4))], [], (heapOf g X N T K M dd))
    else some (some (.int 0), (heapOf g X N T K M dd)) := (ev_eq PGM d yA_law [18] 400 _).trans rfl
set_option maxRecDepth 100000 in
theorem eA_law_937 (d : Nat) (g : GT) (X : XS) (N T K : SS) (M : MS) (dd : AH) (r0 : Nat) (r1 : Nat) (r2 : Nat) (i3 : Int32) (k0 : Int32) (k1 : Int32) : sem PGM d yA_law (937, [some (.ref r0), some (.ref r1), some (.ref r2), some (.int i3)], [.int k1, .int k0], (heapOf g X N T K M dd)) =
    bif decide (k0 = k1) then sem PGM d yA_law (18, [some (.ref r0), some (.ref r1), some (.ref r2), some (.int (i3 + 4))], [], (heapOf g X N T K M dd))
    else some (some (.int 0), (heapOf g X N T K M dd)) := (ev_eq PGM d yA_law [18] 400 _).trans rfl
set_option maxRecDepth 100000 in
theorem eA_law_970 (d : Nat) (g : GT) (X : XS) (N T K : SS) (M : MS) (dd : AH) (r0 : Nat) (r1 : Nat) (r2 : Nat) (i3 : Int32) (k0 : Int32) (k1 : Int32) : sem PGM d yA_law (970, [some (.ref r0), some (.ref r1), some (.ref r2), some (.int i3)], [.int k1, .int k0], (heapOf g X N T K M dd)) =
    bif decide (k0 = k1) then sem PGM d yA_law (18, [some (.ref r0), some (.ref r1), some (.ref r2), some (.int (i3 + 4))], [], (heapOf g X N T K M dd))
    else some (some (.int 0), (heapOf g X N T K M dd)) := (ev_eq PGM d yA_law [18] 400 _).trans rfl
set_option maxRecDepth 100000 in
theorem eA_law_1013 (d : Nat) (g : GT) (X : XS) (N T K : SS) (M : MS) (dd : AH) (r0 : Nat) (r1 : Nat) (r2 : Nat) (i3 : Int32) (k0 : Int32) (k1 : Int32) : sem PGM d yA_law (1013, [some (.ref r0), some (.ref r1), some (.ref r2), some (.int i3)], [.int k1, .int k0], (heapOf g X N T K M dd)) =
    bif decide (k0 = k1) then sem PGM d yA_law (18, [some (.ref r0), some (.ref r1), some (.ref r2), some (.int (i3 + 4))], [], (heapOf g X N T K M dd))
    else some (some (.int 0), (heapOf g X N T K M dd)) := (ev_eq PGM d yA_law [18] 400 _).trans rfl
set_option maxRecDepth 100000 in
theorem eA_law_1026 (d : Nat) (g : GT) (X : XS) (N T K : SS) (M : MS) (dd : AH) (r0 : Nat) (r1 : Nat) (r2 : Nat) (i3 : Int32) (k0 : Int32) (k1 : Int32) : sem PGM d yA_law (1026, [some (.ref r0), some (.ref r1), some (.ref r2), some (.int i3)], [.int k1, .int k0], (heapOf g X N T K M dd)) =
    bif decide (k0 = k1) then sem PGM d yA_law (18, [some (.ref r0), some (.ref r1), some (.ref r2), some (.int (i3 + 4))], [], (heapOf g X N T K M dd))
    else some (some (.int 0), (heapOf g X N T K M dd)) := (ev_eq PGM d yA_law [18] 400 _).trans rfl
set_option maxRecDepth 100000 in
theorem eA_law_1069 (d : Nat) (g : GT) (X : XS) (N T K : SS) (M : MS) (dd : AH) (r0 : Nat) (r1 : Nat) (r2 : Nat) (i3 : Int32) (k0 : Int32) (k1 : Int32) : sem PGM d yA_law (1069, [some (.ref r0), some (.ref r1), some (.ref r2), some (.int i3)], [.int k1, .int k0], (heapOf g X N T K M dd)) =
    bif decide (k0 = k1) then sem PGM d yA_law (18, [some (.ref r0), some (.ref r1), some (.ref r2), some (.int (i3 + 4))], [], (heapOf g X N T K M dd))
    else some (some (.int 0), (heapOf g X N T K M dd)) := (ev_eq PGM d yA_law [18] 400 _).trans rfl
set_option maxRecDepth 100000 in
theorem eA_law_1112 (d : Nat) (g : GT) (X : XS) (N T K : SS) (M : MS) (dd : AH) (r0 : Nat) (r1 : Nat) (r2 : Nat) (i3 : Int32) (k0 : Int32) (k1 : Int32) : sem PGM d yA_law (1112, [some (.ref r0), some (.ref r1), some (.ref r2), some (.int i3)], [.int k1, .int k0], (heapOf g X N T K M dd)) =
    bif decide (k0 = k1) then sem PGM d yA_law (18, [some (.ref r0), some (.ref r1), some (.ref r2), some (.int (i3 + 4))], [], (heapOf g X N T K M dd))
    else some (some (.int 0), (heapOf g X N T K M dd)) := (ev_eq PGM d yA_law [18] 400 _).trans rfl
set_option maxRecDepth 100000 in
theorem eA_law_1155 (d : Nat) (g : GT) (X : XS) (N T K : SS) (M : MS) (dd : AH) (r0 : Nat) (r1 : Nat) (r2 : Nat) (i3 : Int32) (k0 : Int32) (k1 : Int32) : sem PGM d yA_law (1155, [some (.ref r0), some (.ref r1), some (.ref r2), some (.int i3)], [.int k1, .int k0], (heapOf g X N T K M dd)) =
    bif decide (k0 = k1) then sem PGM d yA_law (18, [some (.ref r0), some (.ref r1), some (.ref r2), some (.int (i3 + 4))], [], (heapOf g X N T K M dd))
    else some (some (.int 0), (heapOf g X N T K M dd)) := (ev_eq PGM d yA_law [18] 400 _).trans rfl
set_option maxRecDepth 100000 in
theorem eA_law_1198 (d : Nat) (g : GT) (X : XS) (N T K : SS) (M : MS) (dd : AH) (r0 : Nat) (r1 : Nat) (r2 : Nat) (i3 : Int32) (k0 : Int32) (k1 : Int32) : sem PGM d yA_law (1198, [some (.ref r0), some (.ref r1), some (.ref r2), some (.int i3)], [.int k1, .int k0], (heapOf g X N T K M dd)) =
    bif decide (k0 = k1) then sem PGM d yA_law (18, [some (.ref r0), some (.ref r1), some (.ref r2), some (.int (i3 + 4))], [], (heapOf g X N T K M dd))
    else some (some (.int 0), (heapOf g X N T K M dd)) := (ev_eq PGM d yA_law [18] 400 _).trans rfl
set_option maxRecDepth 100000 in
theorem eA_law_1241 (d : Nat) (g : GT) (X : XS) (N T K : SS) (M : MS) (dd : AH) (r0 : Nat) (r1 : Nat) (r2 : Nat) (i3 : Int32) (k0 : Int32) (k1 : Int32) : sem PGM d yA_law (1241, [some (.ref r0), some (.ref r1), some (.ref r2), some (.int i3)], [.int k1, .int k0], (heapOf g X N T K M dd)) =
    bif decide (k0 = k1) then sem PGM d yA_law (18, [some (.ref r0), some (.ref r1), some (.ref r2), some (.int (i3 + 4))], [], (heapOf g X N T K M dd))
    else some (some (.int 0), (heapOf g X N T K M dd)) := (ev_eq PGM d yA_law [18] 400 _).trans rfl
set_option maxRecDepth 100000 in
theorem eA_law_1274 (d : Nat) (g : GT) (X : XS) (N T K : SS) (M : MS) (dd : AH) (r0 : Nat) (r1 : Nat) (r2 : Nat) (i3 : Int32) (k0 : Int32) (k1 : Int32) : sem PGM d yA_law (1274, [some (.ref r0), some (.ref r1), some (.ref r2), some (.int i3)], [.int k1, .int k0], (heapOf g X N T K M dd)) =
    bif decide (k0 = k1) then sem PGM d yA_law (18, [some (.ref r0), some (.ref r1), some (.ref r2), some (.int (i3 + 4))], [], (heapOf g X N T K M dd))
    else some (some (.int 0), (heapOf g X N T K M dd)) := (ev_eq PGM d yA_law [18] 400 _).trans rfl
set_option maxRecDepth 100000 in
theorem eA_law_1317 (d : Nat) (g : GT) (X : XS) (N T K : SS) (M : MS) (dd : AH) (r0 : Nat) (r1 : Nat) (r2 : Nat) (i3 : Int32) (k0 : Int32) (k1 : Int32) : sem PGM d yA_law (1317, [some (.ref r0), some (.ref r1), some (.ref r2), some (.int i3)], [.int k1, .int k0], (heapOf g X N T K M dd)) =
    bif decide (k0 = k1) then sem PGM d yA_law (18, [some (.ref r0), some (.ref r1), some (.ref r2), some (.int (i3 + 4))], [], (heapOf g X N T K M dd))
    else some (some (.int 0), (heapOf g X N T K M dd)) := (ev_eq PGM d yA_law [18] 400 _).trans rfl
set_option maxRecDepth 100000 in
theorem eA_law_1340 (d : Nat) (g : GT) (X : XS) (N T K : SS) (M : MS) (dd : AH) (r0 : Nat) (r1 : Nat) (r2 : Nat) (i3 : Int32) (k0 : Int32) (k1 : Int32) : sem PGM d yA_law (1340, [some (.ref r0), some (.ref r1), some (.ref r2), some (.int i3)], [.int k1, .int k0], (heapOf g X N T K M dd)) =
    bif decide (k0 = k1) then sem PGM d yA_law (18, [some (.ref r0), some (.ref r1), some (.ref r2), some (.int (i3 + 4))], [], (heapOf g X N T K M dd))
    else some (some (.int 0), (heapOf g X N T K M dd)) := (ev_eq PGM d yA_law [18] 400 _).trans rfl
set_option maxRecDepth 100000 in
theorem eA_law_1363 (d : Nat) (g : GT) (X : XS) (N T K : SS) (M : MS) (dd : AH) (r0 : Nat) (r1 : Nat) (r2 : Nat) (i3 : Int32) (k0 : Int32) (k1 : Int32) : sem PGM d yA_law (1363, [some (.ref r0), some (.ref r1), some (.ref r2), some (.int i3)], [.int k1, .int k0], (heapOf g X N T K M dd)) =
    bif decide (k0 = k1) then sem PGM d yA_law (18, [some (.ref r0), some (.ref r1), some (.ref r2), some (.int (i3 + 4))], [], (heapOf g X N T K M dd))
    else some (some (.int 0), (heapOf g X N T K M dd)) := (ev_eq PGM d yA_law [18] 400 _).trans rfl
set_option maxRecDepth 100000 in
theorem eA_law_1376 (d : Nat) (g : GT) (X : XS) (N T K : SS) (M : MS) (dd : AH) (r0 : Nat) (r1 : Nat) (r2 : Nat) (i3 : Int32) (k0 : Int32) (k1 : Int32) : sem PGM d yA_law (1376, [some (.ref r0), some (.ref r1), some (.ref r2), some (.int i3)], [.int k1, .int k0], (heapOf g X N T K M dd)) =
    bif decide (k0 = k1) then sem PGM d yA_law (18, [some (.ref r0), some (.ref r1), some (.ref r2), some (.int (i3 + 4))], [], (heapOf g X N T K M dd))
    else some (some (.int 0), (heapOf g X N T K M dd)) := (ev_eq PGM d yA_law [18] 400 _).trans rfl
set_option maxRecDepth 100000 in
theorem eA_law_1389 (d : Nat) (g : GT) (X : XS) (N T K : SS) (M : MS) (dd : AH) (r0 : Nat) (r1 : Nat) (r2 : Nat) (i3 : Int32) (k0 : Int32) (k1 : Int32) : sem PGM d yA_law (1389, [some (.ref r0), some (.ref r1), some (.ref r2), some (.int i3)], [.int k1, .int k0], (heapOf g X N T K M dd)) =
    bif decide (k0 = k1) then sem PGM d yA_law (18, [some (.ref r0), some (.ref r1), some (.ref r2), some (.int (i3 + 4))], [], (heapOf g X N T K M dd))
    else some (some (.int 0), (heapOf g X N T K M dd)) := (ev_eq PGM d yA_law [18] 400 _).trans rfl
