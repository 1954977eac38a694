/-! Equations of blocks, by wip/whole/gen/alleq.py. -/
set_option maxRecDepth 100000 in
theorem eS_copyRow_0 (d : Nat) (h : AH) (r0 : Nat) (r1 : Nat) : sem PGM d yS_copyRow (0, [some (.ref r0), some (.ref r1)], [], h) =
    bif okL h r0 then bif okL h r1 then bif okCop h r0 r1 0 0 (if (nI (lenA h r1)) < (nI (lenA h r0)) then (nI (lenA h r1)) else (nI (lenA h r0))) && true then some (none, (copA h r0 r1 0 0 (if (nI (lenA h r1)) < (nI (lenA h r0)) then (nI (lenA h r1)) else (nI (lenA h r0)))))
        else none
      else none
    else none := (ev_eq PGM d yS_copyRow [] 400 _).trans rfl
