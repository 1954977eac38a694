/-! Calls as runs from the entry, by wip/whole/gen/alleq.py. -/
set_option maxRecDepth 100000 in
theorem kS_lay (d : Nat) (o : Nat) (S : SS) (Z : RT) (i1 : Int32) : call PGM (d + 1) yS_lay [.ref o, .int i1] (hS o S Z) = sem PGM d yS_lay (0, [some (.ref o), some (.int i1), none, none], [], (hS o S Z)) := rfl
set_option maxRecDepth 100000 in
theorem kS_seat (d : Nat) (o : Nat) (S : SS) (Z : RT) (i1 : Int32) (i2 : Int32) : call PGM (d + 1) yS_seat [.ref o, .int i1, .int i2] (hS o S Z) = sem PGM d yS_seat (0, [some (.ref o), some (.int i1), some (.int i2)], [], (hS o S Z)) := rfl
set_option maxRecDepth 100000 in
theorem kS_tally (d : Nat) (o : Nat) (S : SS) (Z : RT) (i1 : Int32) (i2 : Int32) : call PGM (d + 1) yS_tally [.ref o, .int i1, .int i2] (hS o S Z) = sem PGM d yS_tally (0, [some (.ref o), some (.int i1), some (.int i2), none], [], (hS o S Z)) := rfl
set_option maxRecDepth 100000 in
theorem kB_street (d : Nat) (g : GT) (X : XS) (N T K : SS) (M : MS) (dd : AH) (i1 : Int32) : call PGM (d + 1) yB_street [.ref 12, .int i1] (heapOf g X N T K M dd) = sem PGM d yB_street (0, [some (.ref 12), some (.int i1)], [], (heapOf g X N T K M dd)) := rfl
set_option maxRecDepth 100000 in
theorem kB_cell (d : Nat) (g : GT) (X : XS) (N T K : SS) (M : MS) (dd : AH) (i1 : Int32) (i2 : Int32) (i3 : Int32) : call PGM (d + 1) yB_cell [.ref 12, .int i1, .int i2, .int i3] (heapOf g X N T K M dd) = sem PGM d yB_cell (0, [some (.ref 12), some (.int i1), some (.int i2), some (.int i3), none], [], (heapOf g X N T K M dd)) := rfl
set_option maxRecDepth 100000 in
theorem kS_hasCell (d : Nat) (o : Nat) (S : SS) (Z : RT) (i1 : Int32) : call PGM (d + 1) yS_hasCell [.ref o, .int i1] (hS o S Z) = sem PGM d yS_hasCell (0, [some (.ref o), some (.int i1)], [], (hS o S Z)) := rfl
set_option maxRecDepth 100000 in
theorem kB_cellOf (d : Nat) (g : GT) (X : XS) (N T K : SS) (M : MS) (dd : AH) (i1 : Int32) (i2 : Int32) : call PGM (d + 1) yB_cellOf [.ref 12, .int i1, .int i2] (heapOf g X N T K M dd) = sem PGM d yB_cellOf (0, [some (.ref 12), some (.int i1), some (.int i2)], [], (heapOf g X N T K M dd)) := rfl
set_option maxRecDepth 100000 in
theorem kS_beastsIn (d : Nat) (o : Nat) (S : SS) (Z : RT) (i1 : Int32) : call PGM (d + 1) yS_beastsIn [.ref o, .int i1] (hS o S Z) = sem PGM d yS_beastsIn (0, [some (.ref o), some (.int i1), none, none], [], (hS o S Z)) := rfl
set_option maxRecDepth 100000 in
theorem kB_rule (d : Nat) (g : GT) (X : XS) (N T K : SS) (M : MS) (dd : AH) (i1 : Int32) (i2 : Int32) : call PGM (d + 1) yB_rule [.ref 12, .int i1, .int i2] (heapOf g X N T K M dd) = sem PGM d yB_rule (0, [some (.ref 12), some (.int i1), some (.int i2), none], [], (heapOf g X N T K M dd)) := rfl
set_option maxRecDepth 100000 in
theorem kB_seed (d : Nat) (g : GT) (X : XS) (N T K : SS) (M : MS) (dd : AH) (i1 : Int32) : call PGM (d + 1) yB_seed [.ref 12, .int i1] (heapOf g X N T K M dd) = sem PGM d yB_seed (0, [some (.ref 12), some (.int i1), none], [], (heapOf g X N T K M dd)) := rfl
set_option maxRecDepth 100000 in
theorem kB_person (d : Nat) (g : GT) (X : XS) (N T K : SS) (M : MS) (dd : AH) (i1 : Int32) (i2 : Int32) (i3 : Int32) : call PGM (d + 1) yB_person [.ref 12, .int i1, .int i2, .int i3] (heapOf g X N T K M dd) = sem PGM d yB_person (0, [some (.ref 12), some (.int i1), some (.int i2), some (.int i3)], [], (heapOf g X N T K M dd)) := rfl
set_option maxRecDepth 100000 in
theorem kB_isPersonKind (d : Nat) (h : AH) (i0 : Int32) : call PGM (d + 1) yB_isPersonKind [.int i0] h = sem PGM d yB_isPersonKind (0, [some (.int i0)], [], h) := rfl
set_option maxRecDepth 100000 in
theorem kS_addPerson (d : Nat) (o : Nat) (S : SS) (Z : RT) (i1 : Int32) (i2 : Int32) (i3 : Int32) : call PGM (d + 1) yS_addPerson [.ref o, .int i1, .int i2, .int i3] (hS o S Z) = sem PGM d yS_addPerson (0, [some (.ref o), some (.int i1), some (.int i2), some (.int i3), none], [], (hS o S Z)) := rfl
set_option maxRecDepth 100000 in
theorem kB_personOf (d : Nat) (g : GT) (X : XS) (N T K : SS) (M : MS) (dd : AH) (i1 : Int32) (i2 : Int32) : call PGM (d + 1) yB_personOf [.ref 12, .int i1, .int i2] (heapOf g X N T K M dd) = sem PGM d yB_personOf (0, [some (.ref 12), some (.int i1), some (.int i2)], [], (heapOf g X N T K M dd)) := rfl
set_option maxRecDepth 100000 in
theorem kS_hasPerson (d : Nat) (o : Nat) (S : SS) (Z : RT) (i1 : Int32) : call PGM (d + 1) yS_hasPerson [.ref o, .int i1] (hS o S Z) = sem PGM d yS_hasPerson (0, [some (.ref o), some (.int i1)], [], (hS o S Z)) := rfl
set_option maxRecDepth 100000 in
theorem kS_isOut (d : Nat) (o : Nat) (S : SS) (Z : RT) (i1 : Int32) : call PGM (d + 1) yS_isOut [.ref o, .int i1] (hS o S Z) = sem PGM d yS_isOut (0, [some (.ref o), some (.int i1)], [], (hS o S Z)) := rfl
set_option maxRecDepth 100000 in
theorem kS_nearOf (d : Nat) (o : Nat) (S : SS) (Z : RT) (i1 : Int32) : call PGM (d + 1) yS_nearOf [.ref o, .int i1] (hS o S Z) = sem PGM d yS_nearOf (0, [some (.ref o), some (.int i1), none, none], [], (hS o S Z)) := rfl
set_option maxRecDepth 100000 in
theorem kJ_Math_min (d : Nat) (h : AH) (i0 : Int32) (i1 : Int32) : call PGM (d + 1) yJ_Math_min [.int i0, .int i1] h = sem PGM d yJ_Math_min (0, [some (.int i0), some (.int i1)], [], h) := rfl
set_option maxRecDepth 100000 in
theorem kB_beast (d : Nat) (g : GT) (X : XS) (N T K : SS) (M : MS) (dd : AH) (i1 : Int32) (i2 : Int32) : call PGM (d + 1) yB_beast [.ref 12, .int i1, .int i2] (heapOf g X N T K M dd) = sem PGM d yB_beast (0, [some (.ref 12), some (.int i1), some (.int i2)], [], (heapOf g X N T K M dd)) := rfl
set_option maxRecDepth 100000 in
theorem kS_addBeast (d : Nat) (o : Nat) (S : SS) (Z : RT) (i1 : Int32) (i2 : Int32) : call PGM (d + 1) yS_addBeast [.ref o, .int i1, .int i2] (hS o S Z) = sem PGM d yS_addBeast (0, [some (.ref o), some (.int i1), some (.int i2), none], [], (hS o S Z)) := rfl
set_option maxRecDepth 100000 in
theorem kB_beastOf (d : Nat) (g : GT) (X : XS) (N T K : SS) (M : MS) (dd : AH) (i1 : Int32) (i2 : Int32) : call PGM (d + 1) yB_beastOf [.ref 12, .int i1, .int i2] (heapOf g X N T K M dd) = sem PGM d yB_beastOf (0, [some (.ref 12), some (.int i1), some (.int i2)], [], (heapOf g X N T K M dd)) := rfl
set_option maxRecDepth 100000 in
theorem kS_hasBeast (d : Nat) (o : Nat) (S : SS) (Z : RT) (i1 : Int32) : call PGM (d + 1) yS_hasBeast [.ref o, .int i1] (hS o S Z) = sem PGM d yS_hasBeast (0, [some (.ref o), some (.int i1)], [], (hS o S Z)) := rfl
set_option maxRecDepth 100000 in
theorem kB_moves (d : Nat) (g : GT) (X : XS) (N T K : SS) (M : MS) (dd : AH) (i1 : Int32) (i2 : Int32) (i3 : Int32) : call PGM (d + 1) yB_moves [.ref 12, .int i1, .int i2, .int i3] (heapOf g X N T K M dd) = sem PGM d yB_moves (0, [some (.ref 12), some (.int i1), some (.int i2), some (.int i3), none], [], (heapOf g X N T K M dd)) := rfl
set_option maxRecDepth 100000 in
theorem kS_become (d : Nat) (o : Nat) (S : SS) (Z : RT) (i1 : Int32) (i2 : Int32) : call PGM (d + 1) yS_become [.ref o, .int i1, .int i2] (hS o S Z) = sem PGM d yS_become (0, [some (.ref o), some (.int i1), some (.int i2)], [], (hS o S Z)) := rfl
set_option maxRecDepth 100000 in
theorem kB_feed (d : Nat) (g : GT) (X : XS) (N T K : SS) (M : MS) (dd : AH) (l1 : Int64) (i3 : Int32) : call PGM (d + 1) yB_feed [.ref 12, .long l1, .int i3] (heapOf g X N T K M dd) = sem PGM d yB_feed (0, [some (.ref 12), some (.long l1), none, some (.int i3), none], [], (heapOf g X N T K M dd)) := rfl
set_option maxRecDepth 100000 in
theorem kB_read (d : Nat) (g : GT) (X : XS) (N T K : SS) (M : MS) (dd : AH)  : call PGM (d + 1) yB_read [.ref 12] (heapOf g X N T K M dd) = sem PGM d yB_read (0, [some (.ref 12), none], [], (heapOf g X N T K M dd)) := rfl
set_option maxRecDepth 100000 in
theorem kR_reads (d : Nat) (Z : WT) (X : XS) (i2 : Int32) : call PGM (d + 1) yR_reads [.ref 14, .ref 13, .int i2] (hR Z X) = sem PGM d yR_reads (0, [some (.ref 14), some (.ref 13), some (.int i2)], [], (hR Z X)) := rfl
set_option maxRecDepth 100000 in
theorem kR_part (d : Nat) (Z : WT) (X : XS) (i2 : Int32) : call PGM (d + 1) yR_part [.ref 14, .ref 13, .int i2] (hR Z X) = sem PGM d yR_part (0, [some (.ref 14), some (.ref 13), some (.int i2), none, none, none], [], (hR Z X)) := rfl
set_option maxRecDepth 100000 in
theorem kR_sortOf (d : Nat) (Z : WT) (X : XS) (i0 : Int32) : call PGM (d + 1) yR_sortOf [.int i0] (hR Z X) = sem PGM d yR_sortOf (0, [some (.int i0)], [], (hR Z X)) := rfl
set_option maxRecDepth 100000 in
theorem kR_tokenAt (d : Nat) (Z : WT) (X : XS) (i1 : Int32) (i2 : Int32) : call PGM (d + 1) yR_tokenAt [.ref 13, .int i1, .int i2] (hR Z X) = sem PGM d yR_tokenAt (0, [some (.ref 13), some (.int i1), some (.int i2), none, none, none], [], (hR Z X)) := rfl
set_option maxRecDepth 100000 in
theorem kR_wordAt (d : Nat) (Z : WT) (X : XS) (i1 : Int32) (i2 : Int32) : call PGM (d + 1) yR_wordAt [.ref 13, .int i1, .int i2] (hR Z X) = sem PGM d yR_wordAt (0, [some (.ref 13), some (.int i1), some (.int i2), none, none, none, none], [], (hR Z X)) := rfl
set_option maxRecDepth 100000 in
theorem kJ_String_length (d : Nat) (Z : WT) (X : XS)  : call PGM (d + 1) yJ_String_length [.ref 10] (hR Z X) = sem PGM d yJ_String_length (0, [some (.ref 10)], [], (hR Z X)) := rfl
set_option maxRecDepth 100000 in
theorem kJ_String_coder (d : Nat) (Z : WT) (X : XS)  : call PGM (d + 1) yJ_String_coder [.ref 10] (hR Z X) = sem PGM d yJ_String_coder (0, [some (.ref 10)], [], (hR Z X)) := rfl
set_option maxRecDepth 100000 in
theorem kJ_String_charAt (d : Nat) (Z : WT) (X : XS) (i1 : Int32) : call PGM (d + 1) yJ_String_charAt [.ref 10, .int i1] (hR Z X) = sem PGM d yJ_String_charAt (0, [some (.ref 10), some (.int i1)], [], (hR Z X)) := rfl
set_option maxRecDepth 100000 in
theorem kJ_String_isLatin1 (d : Nat) (Z : WT) (X : XS)  : call PGM (d + 1) yJ_String_isLatin1 [.ref 10] (hR Z X) = sem PGM d yJ_String_isLatin1 (0, [some (.ref 10)], [], (hR Z X)) := rfl
set_option maxRecDepth 100000 in
theorem kJ_StringLatin1_charAt (d : Nat) (Z : WT) (X : XS) (i1 : Int32) : call PGM (d + 1) yJ_StringLatin1_charAt [.ref 11, .int i1] (hR Z X) = sem PGM d yJ_StringLatin1_charAt (0, [some (.ref 11), some (.int i1)], [], (hR Z X)) := rfl
set_option maxRecDepth 100000 in
theorem kJ_String_checkIndex (d : Nat) (Z : WT) (X : XS) (i0 : Int32) (i1 : Int32) : call PGM (d + 1) yJ_String_checkIndex [.int i0, .int i1] (hR Z X) = sem PGM d yJ_String_checkIndex (0, [some (.int i0), some (.int i1)], [], (hR Z X)) := rfl
set_option maxRecDepth 100000 in
theorem kJ_Preconditions_checkIndex (d : Nat) (Z : WT) (X : XS) (i0 : Int32) (i1 : Int32) : call PGM (d + 1) yJ_Preconditions_checkIndex [.int i0, .int i1, .ref 11] (hR Z X) = sem PGM d yJ_Preconditions_checkIndex (0, [some (.int i0), some (.int i1), some (.ref 11)], [], (hR Z X)) := rfl
set_option maxRecDepth 100000 in
theorem kR_token (d : Nat) (Z : WT) (X : XS)  : call PGM (d + 1) yR_token [.ref 14] (hR Z X) = sem PGM d yR_token (0, [some (.ref 14)], [], (hR Z X)) := rfl
set_option maxRecDepth 100000 in
theorem kR_clause (d : Nat) (Z : WT) (X : XS)  : call PGM (d + 1) yR_clause [.ref 14] (hR Z X) = sem PGM d yR_clause (0, [some (.ref 14)], [], (hR Z X)) := rfl
set_option maxRecDepth 100000 in
theorem kR_pass (d : Nat) (Z : WT) (X : XS)  : call PGM (d + 1) yR_pass [.ref 14] (hR Z X) = sem PGM d yR_pass (0, [some (.ref 14)], [], (hR Z X)) := rfl
set_option maxRecDepth 100000 in
theorem kR_passes (d : Nat) (Z : WT) (X : XS) (i1 : Int32) : call PGM (d + 1) yR_passes [.ref 14, .int i1] (hR Z X) = sem PGM d yR_passes (0, [some (.ref 14), some (.int i1)], [], (hR Z X)) := rfl
set_option maxRecDepth 100000 in
theorem kR_condition (d : Nat) (Z : WT) (X : XS) (i1 : Int32) : call PGM (d + 1) yR_condition [.ref 14, .int i1] (hR Z X) = sem PGM d yR_condition (0, [some (.ref 14), some (.int i1), none], [], (hR Z X)) := rfl
set_option maxRecDepth 100000 in
theorem kR_allOf (d : Nat) (Z : WT) (X : XS) (i1 : Int32) : call PGM (d + 1) yR_allOf [.ref 14, .int i1] (hR Z X) = sem PGM d yR_allOf (0, [some (.ref 14), some (.int i1), none], [], (hR Z X)) := rfl
set_option maxRecDepth 100000 in
theorem kR_oneOf (d : Nat) (Z : WT) (X : XS) (i1 : Int32) : call PGM (d + 1) yR_oneOf [.ref 14, .int i1] (hR Z X) = sem PGM d yR_oneOf (0, [some (.ref 14), some (.int i1), none, none], [], (hR Z X)) := rfl
set_option maxRecDepth 100000 in
theorem kR_comparison (d : Nat) (Z : WT) (X : XS)  : call PGM (d + 1) yR_comparison [.ref 14] (hR Z X) = sem PGM d yR_comparison (0, [some (.ref 14), none, none, none], [], (hR Z X)) := rfl
set_option maxRecDepth 100000 in
theorem kR_isValue (d : Nat) (Z : WT) (X : XS) (i0 : Int32) : call PGM (d + 1) yR_isValue [.int i0] (hR Z X) = sem PGM d yR_isValue (0, [some (.int i0)], [], (hR Z X)) := rfl
set_option maxRecDepth 100000 in
theorem kR_addStep (d : Nat) (Z : WT) (X : XS) (i1 : Int32) (i2 : Int32) (i3 : Int32) : call PGM (d + 1) yR_addStep [.ref 14, .int i1, .int i2, .int i3] (hR Z X) = sem PGM d yR_addStep (0, [some (.ref 14), some (.int i1), some (.int i2), some (.int i3)], [], (hR Z X)) := rfl
set_option maxRecDepth 100000 in
theorem kR_fault (d : Nat) (Z : WT) (X : XS)  : call PGM (d + 1) yR_fault [.ref 14] (hR Z X) = sem PGM d yR_fault (0, [some (.ref 14)], [], (hR Z X)) := rfl
set_option maxRecDepth 100000 in
theorem kR_lawsRead (d : Nat) (Z : WT) (X : XS)  : call PGM (d + 1) yR_lawsRead [.ref 14] (hR Z X) = sem PGM d yR_lawsRead (0, [some (.ref 14)], [], (hR Z X)) := rfl
set_option maxRecDepth 100000 in
theorem kJ_Arrays_copyOf (d : Nat) (Z : WT) (X : XS) (i1 : Int32) : call PGM (d + 1) yJ_Arrays_copyOf [.ref 21, .int i1] (hR Z X) = sem PGM d yJ_Arrays_copyOf (0, [some (.ref 21), some (.int i1), none], [], (hR Z X)) := rfl
set_option maxRecDepth 100000 in
theorem kB_says (d : Nat) (g : GT) (X : XS) (N T K : SS) (M : MS) (dd : AH) (i1 : Int32) : call PGM (d + 1) yB_says [.ref 12, .int i1] (heapOf g X N T K M dd) = sem PGM d yB_says (0, [some (.ref 12), some (.int i1)], [], (heapOf g X N T K M dd)) := rfl
set_option maxRecDepth 100000 in
theorem kS_clauseFor (d : Nat) (o : Nat) (S : SS) (Z : RT) (i1 : Int32) : call PGM (d + 1) yS_clauseFor [.ref o, .int i1] (hS o S Z) = sem PGM d yS_clauseFor (0, [some (.ref o), some (.int i1), none], [], (hS o S Z)) := rfl
set_option maxRecDepth 100000 in
theorem kS_lookAround (d : Nat) (o : Nat) (S : SS) (Z : RT) (i1 : Int32) : call PGM (d + 1) yS_lookAround [.ref o, .int i1] (hS o S Z) = sem PGM d yS_lookAround (0, [some (.ref o), some (.int i1), none], [], (hS o S Z)) := rfl
set_option maxRecDepth 100000 in
theorem kS_crowdIn (d : Nat) (o : Nat) (S : SS) (Z : RT) (i1 : Int32) : call PGM (d + 1) yS_crowdIn [.ref o, .int i1] (hS o S Z) = sem PGM d yS_crowdIn (0, [some (.ref o), some (.int i1)], [], (hS o S Z)) := rfl
set_option maxRecDepth 100000 in
theorem kS_lone (d : Nat) (o : Nat) (S : SS) (Z : RT)  : call PGM (d + 1) yS_lone [.ref o] (hS o S Z) = sem PGM d yS_lone (0, [some (.ref o), none, none], [], (hS o S Z)) := rfl
set_option maxRecDepth 100000 in
theorem kB_isA (d : Nat) (h : AH) (i0 : Int32) (i1 : Int32) : call PGM (d + 1) yB_isA [.int i0, .int i1] h = sem PGM d yB_isA (0, [some (.int i0), some (.int i1)], [], h) := rfl
set_option maxRecDepth 100000 in
theorem kL_holds (d : Nat) (o : Nat) (S : SS) (Z : RT) (r0 : Nat) (i1 : Int32) : call PGM (d + 1) yL_holds [.ref r0, .int i1, .ref (o + 15)] (hS o S Z) = sem PGM d yL_holds (0, [some (.ref r0), some (.int i1), some (.ref (o + 15)), none, none, none], [], (hS o S Z)) := rfl
set_option maxRecDepth 100000 in
theorem kL_after (d : Nat) (o : Nat) (S : SS) (Z : RT) (i0 : Int32) (i1 : Int32) : call PGM (d + 1) yL_after [.int i0, .int i1, .ref (o + 15)] (hS o S Z) = sem PGM d yL_after (0, [some (.int i0), some (.int i1), some (.ref (o + 15)), none, none, none, none], [], (hS o S Z)) := rfl
set_option maxRecDepth 100000 in
theorem kL_valueOf (d : Nat) (o : Nat) (S : SS) (Z : RT) (i0 : Int32) : call PGM (d + 1) yL_valueOf [.int i0, .ref (o + 15)] (hS o S Z) = sem PGM d yL_valueOf (0, [some (.int i0), some (.ref (o + 15)), none], [], (hS o S Z)) := rfl
set_option maxRecDepth 100000 in
theorem kB_fact (d : Nat) (g : GT) (X : XS) (N T K : SS) (M : MS) (dd : AH) (i1 : Int32) (i2 : Int32) : call PGM (d + 1) yB_fact [.ref 12, .int i1, .int i2] (heapOf g X N T K M dd) = sem PGM d yB_fact (0, [some (.ref 12), some (.int i1), some (.int i2)], [], (heapOf g X N T K M dd)) := rfl
set_option maxRecDepth 100000 in
theorem kB_run (d : Nat) (g : GT) (X : XS) (N T K : SS) (M : MS) (dd : AH) (i1 : Int32) : call PGM (d + 1) yB_run [.ref 12, .int i1] (heapOf g X N T K M dd) = sem PGM d yB_run (0, [some (.ref 12), some (.int i1)], [], (heapOf g X N T K M dd)) := rfl
set_option maxRecDepth 100000 in
theorem kB_isTenths (d : Nat) (h : AH) (i0 : Int32) : call PGM (d + 1) yB_isTenths [.int i0] h = sem PGM d yB_isTenths (0, [some (.int i0)], [], h) := rfl
set_option maxRecDepth 100000 in
theorem kS_goOnn (d : Nat) (o : Nat) (S : SS) (Z : RT) (i1 : Int32) : call PGM (d + 1) yS_goOn [.ref o, .int i1, .null] (hS o S Z) = sem PGM d yS_goOn (0, [some (.ref o), some (.int i1), some (.null), none, none], [], (hS o S Z)) := rfl
set_option maxRecDepth 100000 in
theorem kS_goOnl (d : Nat) (o : Nat) (S : SS) (Z : RT) (i1 : Int32) (r2 : Nat) : call PGM (d + 1) yS_goOn [.ref o, .int i1, .ref r2] (hS o S Z) = sem PGM d yS_goOn (0, [some (.ref o), some (.int i1), some (.ref r2), none, none], [], (hS o S Z)) := rfl
set_option maxRecDepth 100000 in
theorem kS_tenthn (d : Nat) (o : Nat) (S : SS) (Z : RT) (i1 : Int32) : call PGM (d + 1) yS_tenth [.ref o, .int i1, .null] (hS o S Z) = sem PGM d yS_tenth (0, [some (.ref o), some (.int i1), some (.null), none, none, none], [], (hS o S Z)) := rfl
set_option maxRecDepth 100000 in
theorem kS_tenthl (d : Nat) (o : Nat) (S : SS) (Z : RT) (i1 : Int32) (r2 : Nat) : call PGM (d + 1) yS_tenth [.ref o, .int i1, .ref r2] (hS o S Z) = sem PGM d yS_tenth (0, [some (.ref o), some (.int i1), some (.ref r2), none, none, none], [], (hS o S Z)) := rfl
set_option maxRecDepth 100000 in
theorem kS_hunt (d : Nat) (o : Nat) (S : SS) (Z : RT) (i1 : Int32) : call PGM (d + 1) yS_hunt [.ref o, .int i1] (hS o S Z) = sem PGM d yS_hunt (0, [some (.ref o), some (.int i1), none, none], [], (hS o S Z)) := rfl
set_option maxRecDepth 100000 in
theorem kS_gallop (d : Nat) (o : Nat) (S : SS) (Z : RT) (i1 : Int32) : call PGM (d + 1) yS_gallop [.ref o, .int i1] (hS o S Z) = sem PGM d yS_gallop (0, [some (.ref o), some (.int i1), none, none], [], (hS o S Z)) := rfl
set_option maxRecDepth 100000 in
theorem kS_slips (d : Nat) (o : Nat) (S : SS) (Z : RT) (i1 : Int32) : call PGM (d + 1) yS_slips [.ref o, .int i1] (hS o S Z) = sem PGM d yS_slips (0, [some (.ref o), some (.int i1)], [], (hS o S Z)) := rfl
set_option maxRecDepth 100000 in
theorem kS_takeTurn (d : Nat) (o : Nat) (S : SS) (Z : RT) (i1 : Int32) (i2 : Int32) : call PGM (d + 1) yS_takeTurn [.ref o, .int i1, .int i2] (hS o S Z) = sem PGM d yS_takeTurn (0, [some (.ref o), some (.int i1), some (.int i2), none, none], [], (hS o S Z)) := rfl
set_option maxRecDepth 100000 in
theorem kS_rise (d : Nat) (o : Nat) (S : SS) (Z : RT) (i1 : Int32) : call PGM (d + 1) yS_rise [.ref o, .int i1] (hS o S Z) = sem PGM d yS_rise (0, [some (.ref o), some (.int i1), none], [], (hS o S Z)) := rfl
set_option maxRecDepth 100000 in
theorem kS_goAhead (d : Nat) (o : Nat) (S : SS) (Z : RT) (i1 : Int32) : call PGM (d + 1) yS_goAhead [.ref o, .int i1] (hS o S Z) = sem PGM d yS_goAhead (0, [some (.ref o), some (.int i1), none, none, none], [], (hS o S Z)) := rfl
set_option maxRecDepth 100000 in
theorem kJ_Math_max (d : Nat) (h : AH) (i0 : Int32) (i1 : Int32) : call PGM (d + 1) yJ_Math_max [.int i0, .int i1] h = sem PGM d yJ_Math_max (0, [some (.int i0), some (.int i1)], [], h) := rfl
set_option maxRecDepth 100000 in
theorem kS_sufferedBy (d : Nat) (o : Nat) (S : SS) (Z : RT) (i1 : Int32) : call PGM (d + 1) yS_sufferedBy [.ref o, .int i1] (hS o S Z) = sem PGM d yS_sufferedBy (0, [some (.ref o), some (.int i1), none, none, none], [], (hS o S Z)) := rfl
set_option maxRecDepth 100000 in
theorem kW_add_22 (d : Nat) (Z : WT) (X : XS) (i1 : Int32) (i2 : Int32) (i3 : Int32) : call PGM (d + 1) yW_add [.ref 22, .int i1, .int i2, .int i3] (hR Z X) = sem PGM d yW_add (0, [some (.ref 22), some (.int i1), some (.int i2), some (.int i3)], [], (hR Z X)) := rfl
set_option maxRecDepth 100000 in
theorem kW_add_27 (d : Nat) (Z : WT) (X : XS) (i1 : Int32) (i2 : Int32) (i3 : Int32) : call PGM (d + 1) yW_add [.ref 27, .int i1, .int i2, .int i3] (hR Z X) = sem PGM d yW_add (0, [some (.ref 27), some (.int i1), some (.int i2), some (.int i3)], [], (hR Z X)) := rfl
set_option maxRecDepth 100000 in
theorem kS_heapUp (d : Nat) (o : Nat) (S : SS) (Z : RT)  : call PGM (d + 1) yS_heapUp [.ref o] (hS o S Z) = sem PGM d yS_heapUp (0, [some (.ref o), none], [], (hS o S Z)) := rfl
set_option maxRecDepth 100000 in
theorem kB_morning (d : Nat) (g : GT) (X : XS) (N T K : SS) (M : MS) (dd : AH) (i1 : Int32) : call PGM (d + 1) yB_morning [.ref 12, .int i1] (heapOf g X N T K M dd) = sem PGM d yB_morning (0, [some (.ref 12), some (.int i1)], [], (heapOf g X N T K M dd)) := rfl
set_option maxRecDepth 100000 in
theorem kS_allHurts (d : Nat) (o : Nat) (S : SS) (Z : RT)  : call PGM (d + 1) yS_allHurts [.ref o] (hS o S Z) = sem PGM d yS_allHurts (0, [some (.ref o), none, none], [], (hS o S Z)) := rfl
set_option maxRecDepth 100000 in
theorem kS_peopleOut (d : Nat) (o : Nat) (S : SS) (Z : RT)  : call PGM (d + 1) yS_peopleOut [.ref o] (hS o S Z) = sem PGM d yS_peopleOut (0, [some (.ref o), none, none], [], (hS o S Z)) := rfl
set_option maxRecDepth 100000 in
theorem kS_heaps (d : Nat) (o : Nat) (S : SS) (Z : RT)  : call PGM (d + 1) yS_heaps [.ref o] (hS o S Z) = sem PGM d yS_heaps (0, [some (.ref o), none, none], [], (hS o S Z)) := rfl
set_option maxRecDepth 100000 in
theorem kJ_Integer_bitCount (d : Nat) (h : AH) (i0 : Int32) : call PGM (d + 1) yJ_Integer_bitCount [.int i0] h = sem PGM d yJ_Integer_bitCount (0, [some (.int i0)], [], h) := rfl
set_option maxRecDepth 100000 in
theorem kB_odds (d : Nat) (g : GT) (X : XS) (N T K : SS) (M : MS) (dd : AH) (i1 : Int32) (i2 : Int32) (i3 : Int32) : call PGM (d + 1) yB_odds [.ref 12, .int i1, .int i2, .int i3] (heapOf g X N T K M dd) = sem PGM d yB_odds (0, [some (.ref 12), some (.int i1), some (.int i2), some (.int i3), none, none], [], (heapOf g X N T K M dd)) := rfl
set_option maxRecDepth 100000 in
theorem kS_copy_59_43 (d : Nat) (g : GT) (X : XS) (N T K : SS) (M : MS) (dd : AH)  : call PGM (d + 1) yS_copy [.ref 59, .ref 43] (heapOf g X N T K M dd) = sem PGM d yS_copy (0, [some (.ref 59), some (.ref 43), none], [], (heapOf g X N T K M dd)) := rfl
set_option maxRecDepth 100000 in
theorem kS_copy_75_43 (d : Nat) (g : GT) (X : XS) (N T K : SS) (M : MS) (dd : AH)  : call PGM (d + 1) yS_copy [.ref 75, .ref 43] (heapOf g X N T K M dd) = sem PGM d yS_copy (0, [some (.ref 75), some (.ref 43), none], [], (heapOf g X N T K M dd)) := rfl
set_option maxRecDepth 100000 in
theorem kS_copy_43_75 (d : Nat) (g : GT) (X : XS) (N T K : SS) (M : MS) (dd : AH)  : call PGM (d + 1) yS_copy [.ref 43, .ref 75] (heapOf g X N T K M dd) = sem PGM d yS_copy (0, [some (.ref 43), some (.ref 75), none], [], (heapOf g X N T K M dd)) := rfl
set_option maxRecDepth 100000 in
theorem kS_copyRow (d : Nat) (h : AH) (r0 : Nat) (r1 : Nat) : call PGM (d + 1) yS_copyRow [.ref r0, .ref r1] h = sem PGM d yS_copyRow (0, [some (.ref r0), some (.ref r1)], [], h) := rfl
set_option maxRecDepth 100000 in
theorem kB_begin (d : Nat) (g : GT) (X : XS) (N T K : SS) (M : MS) (dd : AH) (i1 : Int32) (i2 : Int32) : call PGM (d + 1) yB_begin [.ref 12, .int i1, .int i2] (heapOf g X N T K M dd) = sem PGM d yB_begin (0, [some (.ref 12), some (.int i1), some (.int i2), none, none, none], [], (heapOf g X N T K M dd)) := rfl
set_option maxRecDepth 100000 in
theorem kB_door (d : Nat) (g : GT) (X : XS) (N T K : SS) (M : MS) (dd : AH) (i1 : Int32) : call PGM (d + 1) yB_door [.ref 12, .int i1] (heapOf g X N T K M dd) = sem PGM d yB_door (0, [some (.ref 12), some (.int i1), none, none, none, none], [], (heapOf g X N T K M dd)) := rfl
set_option maxRecDepth 100000 in
theorem kB_limit (d : Nat) (g : GT) (X : XS) (N T K : SS) (M : MS) (dd : AH) (i1 : Int32) : call PGM (d + 1) yB_limit [.ref 12, .int i1] (heapOf g X N T K M dd) = sem PGM d yB_limit (0, [some (.ref 12), some (.int i1), none, none], [], (heapOf g X N T K M dd)) := rfl
set_option maxRecDepth 100000 in
theorem kB_law (d : Nat) (g : GT) (X : XS) (N T K : SS) (M : MS) (dd : AH) (i1 : Int32) (i2 : Int32) : call PGM (d + 1) yB_law [.ref 12, .int i1, .int i2] (heapOf g X N T K M dd) = sem PGM d yB_law (0, [some (.ref 12), some (.int i1), some (.int i2), none], [], (heapOf g X N T K M dd)) := rfl
set_option maxRecDepth 100000 in
theorem kB_together (d : Nat) (g : GT) (X : XS) (N T K : SS) (M : MS) (dd : AH) (i1 : Int32) : call PGM (d + 1) yB_together [.ref 12, .int i1] (heapOf g X N T K M dd) = sem PGM d yB_together (0, [some (.ref 12), some (.int i1), none, none], [], (heapOf g X N T K M dd)) := rfl
set_option maxRecDepth 100000 in
theorem kB_harm (d : Nat) (g : GT) (X : XS) (N T K : SS) (M : MS) (dd : AH) (i1 : Int32) : call PGM (d + 1) yB_harm [.ref 12, .int i1] (heapOf g X N T K M dd) = sem PGM d yB_harm (0, [some (.ref 12), some (.int i1)], [], (heapOf g X N T K M dd)) := rfl
set_option maxRecDepth 100000 in
theorem kB_prove (d : Nat) (g : GT) (X : XS) (N T K : SS) (M : MS) (dd : AH) (i1 : Int32) : call PGM (d + 1) yB_prove [.ref 12, .int i1] (heapOf g X N T K M dd) = sem PGM d yB_prove (0, [some (.ref 12), some (.int i1)], [], (heapOf g X N T K M dd)) := rfl
set_option maxRecDepth 100000 in
theorem kB_row (d : Nat) (g : GT) (X : XS) (N T K : SS) (M : MS) (dd : AH) (i1 : Int32) (i2 : Int32) : call PGM (d + 1) yB_row [.ref 12, .int i1, .int i2] (heapOf g X N T K M dd) = sem PGM d yB_row (0, [some (.ref 12), some (.int i1), some (.int i2)], [], (heapOf g X N T K M dd)) := rfl
set_option maxRecDepth 100000 in
theorem kW_has_22 (d : Nat) (Z : WT) (X : XS) (i1 : Int32) (i2 : Int32) : call PGM (d + 1) yW_has [.ref 22, .int i1, .int i2] (hR Z X) = sem PGM d yW_has (0, [some (.ref 22), some (.int i1), some (.int i2)], [], (hR Z X)) := rfl
set_option maxRecDepth 100000 in
theorem kW_has_27 (d : Nat) (Z : WT) (X : XS) (i1 : Int32) (i2 : Int32) : call PGM (d + 1) yW_has [.ref 27, .int i1, .int i2] (hR Z X) = sem PGM d yW_has (0, [some (.ref 27), some (.int i1), some (.int i2)], [], (hR Z X)) := rfl
set_option maxRecDepth 100000 in
theorem kB_alterRow (d : Nat) (g : GT) (X : XS) (N T K : SS) (M : MS) (dd : AH) (i1 : Int32) (i2 : Int32) (i3 : Int32) : call PGM (d + 1) yB_alterRow [.ref 12, .int i1, .int i2, .int i3] (heapOf g X N T K M dd) = sem PGM d yB_alterRow (0, [some (.ref 12), some (.int i1), some (.int i2), some (.int i3), none], [], (heapOf g X N T K M dd)) := rfl
set_option maxRecDepth 100000 in
theorem kB_judge (d : Nat) (g : GT) (X : XS) (N T K : SS) (M : MS) (dd : AH)  : call PGM (d + 1) yB_judge [.ref 12] (heapOf g X N T K M dd) = sem PGM d yB_judge (0, [some (.ref 12), none], [], (heapOf g X N T K M dd)) := rfl
set_option maxRecDepth 100000 in
theorem kW_sameAt_22 (d : Nat) (Z : WT) (X : XS) (i1 : Int32) : call PGM (d + 1) yW_sameAt [.ref 22, .int i1, .ref 27] (hR Z X) = sem PGM d yW_sameAt (0, [some (.ref 22), some (.int i1), some (.ref 27), none], [], (hR Z X)) := rfl
set_option maxRecDepth 100000 in
theorem kW_sameAt_27 (d : Nat) (Z : WT) (X : XS) (i1 : Int32) : call PGM (d + 1) yW_sameAt [.ref 27, .int i1, .ref 27] (hR Z X) = sem PGM d yW_sameAt (0, [some (.ref 27), some (.int i1), some (.ref 27), none], [], (hR Z X)) := rfl
set_option maxRecDepth 100000 in
theorem kB_sheet (d : Nat) (g : GT) (X : XS) (N T K : SS) (M : MS) (dd : AH) (i1 : Int32) (i2 : Int32) (i3 : Int32) : call PGM (d + 1) yB_sheet [.ref 12, .int i1, .int i2, .int i3] (heapOf g X N T K M dd) = sem PGM d yB_sheet (0, [some (.ref 12), some (.int i1), some (.int i2), some (.int i3)], [], (heapOf g X N T K M dd)) := rfl
set_option maxRecDepth 100000 in
theorem kB_isHolder (d : Nat) (h : AH) (i0 : Int32) : call PGM (d + 1) yB_isHolder [.int i0] h = sem PGM d yB_isHolder (0, [some (.int i0)], [], h) := rfl
set_option maxRecDepth 100000 in
theorem kB_put (d : Nat) (g : GT) (X : XS) (N T K : SS) (M : MS) (dd : AH) (i1 : Int32) (i2 : Int32) (i3 : Int32) : call PGM (d + 1) yB_put [.ref 12, .int i1, .int i2, .int i3] (heapOf g X N T K M dd) = sem PGM d yB_put (0, [some (.ref 12), some (.int i1), some (.int i2), some (.int i3), none], [], (heapOf g X N T K M dd)) := rfl
set_option maxRecDepth 100000 in
theorem kH_has (d : Nat) (h : AH) (r0 : Nat) (i1 : Int32) : call PGM (d + 1) yH_has [.ref r0, .int i1] h = sem PGM d yH_has (0, [some (.ref r0), some (.int i1)], [], h) := rfl
set_option maxRecDepth 100000 in
theorem kH_narrowed (d : Nat) (h : AH) (r0 : Nat) (i1 : Int32) : call PGM (d + 1) yH_narrowed [.ref r0, .int i1] h = sem PGM d yH_narrowed (0, [some (.ref r0), some (.int i1)], [], h) := rfl
set_option maxRecDepth 100000 in
theorem kB_item (d : Nat) (g : GT) (X : XS) (N T K : SS) (M : MS) (dd : AH) (i1 : Int32) (i2 : Int32) (i3 : Int32) : call PGM (d + 1) yB_item [.ref 12, .int i1, .int i2, .int i3] (heapOf g X N T K M dd) = sem PGM d yB_item (0, [some (.ref 12), some (.int i1), some (.int i2), some (.int i3), none], [], (heapOf g X N T K M dd)) := rfl
set_option maxRecDepth 100000 in
theorem kB_widths (d : Nat) (g : GT) (X : XS) (N T K : SS) (M : MS) (dd : AH) (i1 : Int32) (i2 : Int32) (i3 : Int32) : call PGM (d + 1) yB_widths [.ref 12, .int i1, .int i2, .int i3] (heapOf g X N T K M dd) = sem PGM d yB_widths (0, [some (.ref 12), some (.int i1), some (.int i2), some (.int i3), none, none, none], [], (heapOf g X N T K M dd)) := rfl
set_option maxRecDepth 100000 in
theorem kB_shelf (d : Nat) (g : GT) (X : XS) (N T K : SS) (M : MS) (dd : AH) (i1 : Int32) (i2 : Int32) (i3 : Int32) : call PGM (d + 1) yB_shelf [.ref 12, .int i1, .int i2, .int i3] (heapOf g X N T K M dd) = sem PGM d yB_shelf (0, [some (.ref 12), some (.int i1), some (.int i2), some (.int i3)], [], (heapOf g X N T K M dd)) := rfl
set_option maxRecDepth 100000 in
theorem kB_isThing (d : Nat) (g : GT) (X : XS) (N T K : SS) (M : MS) (dd : AH) (i1 : Int32) (i2 : Int32) : call PGM (d + 1) yB_isThing [.ref 12, .int i1, .int i2] (heapOf g X N T K M dd) = sem PGM d yB_isThing (0, [some (.ref 12), some (.int i1), some (.int i2)], [], (heapOf g X N T K M dd)) := rfl
set_option maxRecDepth 100000 in
theorem kB_taken (d : Nat) (g : GT) (X : XS) (N T K : SS) (M : MS) (dd : AH) (i1 : Int32) (i2 : Int32) : call PGM (d + 1) yB_taken [.ref 12, .int i1, .int i2] (heapOf g X N T K M dd) = sem PGM d yB_taken (0, [some (.ref 12), some (.int i1), some (.int i2), none, none, none, none], [], (heapOf g X N T K M dd)) := rfl
set_option maxRecDepth 100000 in
theorem kB_kindOnShelf (d : Nat) (g : GT) (X : XS) (N T K : SS) (M : MS) (dd : AH) (i1 : Int32) : call PGM (d + 1) yB_kindOnShelf [.ref 12, .int i1] (heapOf g X N T K M dd) = sem PGM d yB_kindOnShelf (0, [some (.ref 12), some (.int i1), none], [], (heapOf g X N T K M dd)) := rfl
set_option maxRecDepth 100000 in
theorem kB_act (d : Nat) (g : GT) (X : XS) (N T K : SS) (M : MS) (dd : AH) (i1 : Int32) (i2 : Int32) (i3 : Int32) : call PGM (d + 1) yB_act [.ref 12, .int i1, .int i2, .int i3] (heapOf g X N T K M dd) = sem PGM d yB_act (0, [some (.ref 12), some (.int i1), some (.int i2), some (.int i3), none, none, none], [], (heapOf g X N T K M dd)) := rfl
set_option maxRecDepth 100000 in
theorem kD_answer (d : Nat) (Z : WT) (X : XS) (i1 : Int32) (i2 : Int32) (i3 : Int32) (i4 : Int32) (i5 : Int32) : call PGM (d + 1) yD_answer [.ref 36, .int i1, .int i2, .int i3, .int i4, .int i5] (hR Z X) = sem PGM d yD_answer (0, [some (.ref 36), some (.int i1), some (.int i2), some (.int i3), some (.int i4), some (.int i5), none], [], (hR Z X)) := rfl
set_option maxRecDepth 100000 in
theorem kD_runs (d : Nat) (Z : WT) (X : XS) (i1 : Int32) (i2 : Int32) : call PGM (d + 1) yD_runs [.ref 36, .int i1, .int i2] (hR Z X) = sem PGM d yD_runs (0, [some (.ref 36), some (.int i1), some (.int i2)], [], (hR Z X)) := rfl
set_option maxRecDepth 100000 in
theorem kD_began (d : Nat) (Z : WT) (X : XS) (i1 : Int32) : call PGM (d + 1) yD_began [.ref 36, .int i1] (hR Z X) = sem PGM d yD_began (0, [some (.ref 36), some (.int i1)], [], (hR Z X)) := rfl
set_option maxRecDepth 100000 in
theorem kD_sees (d : Nat) (Z : WT) (X : XS) (i1 : Int32) (i2 : Int32) : call PGM (d + 1) yD_sees [.ref 36, .int i1, .int i2] (hR Z X) = sem PGM d yD_sees (0, [some (.ref 36), some (.int i1), some (.int i2)], [], (hR Z X)) := rfl
set_option maxRecDepth 100000 in
theorem kD_falls (d : Nat) (Z : WT) (X : XS) (i1 : Int32) (i2 : Int32) : call PGM (d + 1) yD_falls [.ref 36, .int i1, .int i2] (hR Z X) = sem PGM d yD_falls (0, [some (.ref 36), some (.int i1), some (.int i2)], [], (hR Z X)) := rfl
set_option maxRecDepth 100000 in
theorem kD_partedBy (d : Nat) (Z : WT) (X : XS) (i1 : Int32) (i2 : Int32) : call PGM (d + 1) yD_partedBy [.ref 36, .int i1, .int i2] (hR Z X) = sem PGM d yD_partedBy (0, [some (.ref 36), some (.int i1), some (.int i2)], [], (hR Z X)) := rfl
set_option maxRecDepth 100000 in
theorem kD_harms (d : Nat) (Z : WT) (X : XS) (i1 : Int32) (i2 : Int32) : call PGM (d + 1) yD_harms [.ref 36, .int i1, .int i2] (hR Z X) = sem PGM d yD_harms (0, [some (.ref 36), some (.int i1), some (.int i2)], [], (hR Z X)) := rfl
set_option maxRecDepth 100000 in
theorem kB_trace (d : Nat) (g : GT) (X : XS) (N T K : SS) (M : MS) (dd : AH) (i1 : Int32) : call PGM (d + 1) yB_trace [.ref 12, .int i1] (heapOf g X N T K M dd) = sem PGM d yB_trace (0, [some (.ref 12), some (.int i1)], [], (heapOf g X N T K M dd)) := rfl
set_option maxRecDepth 100000 in
theorem kB_many (d : Nat) (g : GT) (X : XS) (N T K : SS) (M : MS) (dd : AH) (i1 : Int32) : call PGM (d + 1) yB_many [.ref 12, .int i1] (heapOf g X N T K M dd) = sem PGM d yB_many (0, [some (.ref 12), some (.int i1)], [], (heapOf g X N T K M dd)) := rfl
set_option maxRecDepth 100000 in
theorem kB_keep (d : Nat) (g : GT) (X : XS) (N T K : SS) (M : MS) (dd : AH)  : call PGM (d + 1) yB_keep [.ref 12] (heapOf g X N T K M dd) = sem PGM d yB_keep (0, [some (.ref 12)], [], (heapOf g X N T K M dd)) := rfl
set_option maxRecDepth 100000 in
theorem kB_again (d : Nat) (g : GT) (X : XS) (N T K : SS) (M : MS) (dd : AH)  : call PGM (d + 1) yB_again [.ref 12] (heapOf g X N T K M dd) = sem PGM d yB_again (0, [some (.ref 12)], [], (heapOf g X N T K M dd)) := rfl
set_option maxRecDepth 100000 in
theorem kM_paves (d : Nat) (Z : ZT) (M : MS) (i1 : Int32) : call PGM (d + 1) yM_paves [.ref 91, .int i1] (hM Z M) = sem PGM d yM_paves (0, [some (.ref 91), some (.int i1), none], [], (hM Z M)) := rfl
set_option maxRecDepth 100000 in
theorem kM_street (d : Nat) (Z : ZT) (M : MS) (i1 : Int32) : call PGM (d + 1) yM_street [.ref 91, .int i1] (hM Z M) = sem PGM d yM_street (0, [some (.ref 91), some (.int i1), none], [], (hM Z M)) := rfl
set_option maxRecDepth 100000 in
theorem kM_in (d : Nat) (h : AH) (l0 : Int64) (l2 : Int64) (l4 : Int64) : call PGM (d + 1) yM_in [.long l0, .long l2, .long l4] h = sem PGM d yM_in (0, [some (.long l0), none, some (.long l2), none, some (.long l4), none], [], h) := rfl
set_option maxRecDepth 100000 in
theorem kM_whereIs (d : Nat) (Z : ZT) (M : MS) (i1 : Int32) : call PGM (d + 1) yM_whereIs [.ref 91, .int i1] (hM Z M) = sem PGM d yM_whereIs (0, [some (.ref 91), some (.int i1)], [], (hM Z M)) := rfl
set_option maxRecDepth 100000 in
theorem kM_whereBeast (d : Nat) (Z : ZT) (M : MS) (i1 : Int32) : call PGM (d + 1) yM_whereBeast [.ref 91, .int i1] (hM Z M) = sem PGM d yM_whereBeast (0, [some (.ref 91), some (.int i1)], [], (hM Z M)) := rfl
set_option maxRecDepth 100000 in
theorem kM_cell (d : Nat) (Z : ZT) (M : MS) (i1 : Int32) (i2 : Int32) (i3 : Int32) : call PGM (d + 1) yM_cell [.ref 91, .int i1, .int i2, .int i3] (hM Z M) = sem PGM d yM_cell (0, [some (.ref 91), some (.int i1), some (.int i2), some (.int i3), none], [], (hM Z M)) := rfl
set_option maxRecDepth 100000 in
theorem kM_isCell (d : Nat) (Z : ZT) (M : MS) (i1 : Int32) : call PGM (d + 1) yM_isCell [.ref 91, .int i1] (hM Z M) = sem PGM d yM_isCell (0, [some (.ref 91), some (.int i1)], [], (hM Z M)) := rfl
set_option maxRecDepth 100000 in
theorem kM_cellOf (d : Nat) (Z : ZT) (M : MS) (i1 : Int32) (i2 : Int32) : call PGM (d + 1) yM_cellOf [.ref 91, .int i1, .int i2] (hM Z M) = sem PGM d yM_cellOf (0, [some (.ref 91), some (.int i1), some (.int i2)], [], (hM Z M)) := rfl
set_option maxRecDepth 100000 in
theorem kM_crowd (d : Nat) (Z : ZT) (M : MS) (i1 : Int32) : call PGM (d + 1) yM_crowd [.ref 91, .int i1] (hM Z M) = sem PGM d yM_crowd (0, [some (.ref 91), some (.int i1), none, none], [], (hM Z M)) := rfl
set_option maxRecDepth 100000 in
theorem kM_fallenIn (d : Nat) (Z : ZT) (M : MS) (i1 : Int32) : call PGM (d + 1) yM_fallenIn [.ref 91, .int i1] (hM Z M) = sem PGM d yM_fallenIn (0, [some (.ref 91), some (.int i1), none, none], [], (hM Z M)) := rfl
set_option maxRecDepth 100000 in
theorem kM_kindOf (d : Nat) (Z : ZT) (M : MS) (i1 : Int32) : call PGM (d + 1) yM_kindOf [.ref 91, .int i1] (hM Z M) = sem PGM d yM_kindOf (0, [some (.ref 91), some (.int i1)], [], (hM Z M)) := rfl
set_option maxRecDepth 100000 in
theorem kM_isUnder (d : Nat) (h : AH) (i0 : Int32) (i1 : Int32) : call PGM (d + 1) yM_isUnder [.int i0, .int i1] h = sem PGM d yM_isUnder (0, [some (.int i0), some (.int i1)], [], h) := rfl
set_option maxRecDepth 100000 in
theorem kM_beastsIn (d : Nat) (Z : ZT) (M : MS) (i1 : Int32) : call PGM (d + 1) yM_beastsIn [.ref 91, .int i1] (hM Z M) = sem PGM d yM_beastsIn (0, [some (.ref 91), some (.int i1), none, none], [], (hM Z M)) := rfl
set_option maxRecDepth 100000 in
theorem kM_rule (d : Nat) (Z : ZT) (M : MS) (i1 : Int32) (i2 : Int32) : call PGM (d + 1) yM_rule [.ref 91, .int i1, .int i2] (hM Z M) = sem PGM d yM_rule (0, [some (.ref 91), some (.int i1), some (.int i2), none], [], (hM Z M)) := rfl
set_option maxRecDepth 100000 in
theorem kM_seed (d : Nat) (Z : ZT) (M : MS) (i1 : Int32) : call PGM (d + 1) yM_seed [.ref 91, .int i1] (hM Z M) = sem PGM d yM_seed (0, [some (.ref 91), some (.int i1), none], [], (hM Z M)) := rfl
set_option maxRecDepth 100000 in
theorem kM_person (d : Nat) (Z : ZT) (M : MS) (i1 : Int32) (i2 : Int32) (i3 : Int32) : call PGM (d + 1) yM_person [.ref 91, .int i1, .int i2, .int i3] (hM Z M) = sem PGM d yM_person (0, [some (.ref 91), some (.int i1), some (.int i2), some (.int i3), none], [], (hM Z M)) := rfl
set_option maxRecDepth 100000 in
theorem kM_personOf (d : Nat) (Z : ZT) (M : MS) (i1 : Int32) (i2 : Int32) : call PGM (d + 1) yM_personOf [.ref 91, .int i1, .int i2] (hM Z M) = sem PGM d yM_personOf (0, [some (.ref 91), some (.int i1), some (.int i2)], [], (hM Z M)) := rfl
set_option maxRecDepth 100000 in
theorem kM_isPerson (d : Nat) (Z : ZT) (M : MS) (i1 : Int32) : call PGM (d + 1) yM_isPerson [.ref 91, .int i1] (hM Z M) = sem PGM d yM_isPerson (0, [some (.ref 91), some (.int i1)], [], (hM Z M)) := rfl
set_option maxRecDepth 100000 in
theorem kM_nearTo (d : Nat) (Z : ZT) (M : MS) (i1 : Int32) : call PGM (d + 1) yM_nearTo [.ref 91, .int i1] (hM Z M) = sem PGM d yM_nearTo (0, [some (.ref 91), some (.int i1), none, none, none], [], (hM Z M)) := rfl
set_option maxRecDepth 100000 in
theorem kM_beast (d : Nat) (Z : ZT) (M : MS) (i1 : Int32) (i2 : Int32) : call PGM (d + 1) yM_beast [.ref 91, .int i1, .int i2] (hM Z M) = sem PGM d yM_beast (0, [some (.ref 91), some (.int i1), some (.int i2), none], [], (hM Z M)) := rfl
set_option maxRecDepth 100000 in
theorem kM_beastOf (d : Nat) (Z : ZT) (M : MS) (i1 : Int32) (i2 : Int32) : call PGM (d + 1) yM_beastOf [.ref 91, .int i1, .int i2] (hM Z M) = sem PGM d yM_beastOf (0, [some (.ref 91), some (.int i1), some (.int i2)], [], (hM Z M)) := rfl
set_option maxRecDepth 100000 in
theorem kM_isBeast (d : Nat) (Z : ZT) (M : MS) (i1 : Int32) : call PGM (d + 1) yM_isBeast [.ref 91, .int i1] (hM Z M) = sem PGM d yM_isBeast (0, [some (.ref 91), some (.int i1)], [], (hM Z M)) := rfl
set_option maxRecDepth 100000 in
theorem kM_moves (d : Nat) (Z : ZT) (M : MS) (i1 : Int32) (i2 : Int32) (i3 : Int32) : call PGM (d + 1) yM_moves [.ref 91, .int i1, .int i2, .int i3] (hM Z M) = sem PGM d yM_moves (0, [some (.ref 91), some (.int i1), some (.int i2), some (.int i3), none], [], (hM Z M)) := rfl
set_option maxRecDepth 100000 in
theorem kM_feed (d : Nat) (Z : ZT) (M : MS) (l1 : Int64) (i3 : Int32) : call PGM (d + 1) yM_feed [.ref 91, .long l1, .int i3] (hM Z M) = sem PGM d yM_feed (0, [some (.ref 91), some (.long l1), none, some (.int i3), none], [], (hM Z M)) := rfl
set_option maxRecDepth 100000 in
theorem kM_read (d : Nat) (Z : ZT) (M : MS)  : call PGM (d + 1) yM_read [.ref 91] (hM Z M) = sem PGM d yM_read (0, [some (.ref 91), none], [], (hM Z M)) := rfl
set_option maxRecDepth 100000 in
theorem kM_next (d : Nat) (Z : ZT) (M : MS)  : call PGM (d + 1) yM_next [.ref 91] (hM Z M) = sem PGM d yM_next (0, [some (.ref 91), none, none], [], (hM Z M)) := rfl
set_option maxRecDepth 100000 in
theorem kM_byteAt (d : Nat) (Z : ZT) (M : MS) (i1 : Int32) : call PGM (d + 1) yM_byteAt [.ref 91, .int i1] (hM Z M) = sem PGM d yM_byteAt (0, [some (.ref 91), some (.int i1)], [], (hM Z M)) := rfl
set_option maxRecDepth 100000 in
theorem kM_isLetter (d : Nat) (h : AH) (i0 : Int32) : call PGM (d + 1) yM_isLetter [.int i0] h = sem PGM d yM_isLetter (0, [some (.int i0)], [], h) := rfl
set_option maxRecDepth 100000 in
theorem kM_isDigit (d : Nat) (h : AH) (i0 : Int32) : call PGM (d + 1) yM_isDigit [.int i0] h = sem PGM d yM_isDigit (0, [some (.int i0)], [], h) := rfl
set_option maxRecDepth 100000 in
theorem kM_oneClause (d : Nat) (Z : ZT) (M : MS)  : call PGM (d + 1) yM_oneClause [.ref 91] (hM Z M) = sem PGM d yM_oneClause (0, [some (.ref 91), none, none, none, none, none], [], (hM Z M)) := rfl
set_option maxRecDepth 100000 in
theorem kM_whoHere (d : Nat) (Z : ZT) (M : MS)  : call PGM (d + 1) yM_whoHere [.ref 91] (hM Z M) = sem PGM d yM_whoHere (0, [some (.ref 91)], [], (hM Z M)) := rfl
set_option maxRecDepth 100000 in
theorem kM_isName (d : Nat) (Z : ZT) (M : MS) (i1 : Int32) (i2 : Int32) (i3 : Int32) (i4 : Int32) (i5 : Int32) (i6 : Int32) (i7 : Int32) (i8 : Int32) : call PGM (d + 1) yM_isName [.ref 91, .int i1, .int i2, .int i3, .int i4, .int i5, .int i6, .int i7, .int i8] (hM Z M) = sem PGM d yM_isName (0, [some (.ref 91), some (.int i1), some (.int i2), some (.int i3), some (.int i4), some (.int i5), some (.int i6), some (.int i7), some (.int i8), none], [], (hM Z M)) := rfl
set_option maxRecDepth 100000 in
theorem kM_isAt (d : Nat) (Z : ZT) (M : MS) (i1 : Int32) (i2 : Int32) : call PGM (d + 1) yM_isAt [.ref 91, .int i1, .int i2] (hM Z M) = sem PGM d yM_isAt (0, [some (.ref 91), some (.int i1), some (.int i2)], [], (hM Z M)) := rfl
set_option maxRecDepth 100000 in
theorem kM_needs (d : Nat) (Z : ZT) (M : MS) (i1 : Int32) : call PGM (d + 1) yM_needs [.ref 91, .int i1] (hM Z M) = sem PGM d yM_needs (0, [some (.ref 91), some (.int i1)], [], (hM Z M)) := rfl
set_option maxRecDepth 100000 in
theorem kM_actHere (d : Nat) (Z : ZT) (M : MS)  : call PGM (d + 1) yM_actHere [.ref 91] (hM Z M) = sem PGM d yM_actHere (0, [some (.ref 91)], [], (hM Z M)) := rfl
set_option maxRecDepth 100000 in
theorem kM_condition (d : Nat) (Z : ZT) (M : MS)  : call PGM (d + 1) yM_condition [.ref 91] (hM Z M) = sem PGM d yM_condition (0, [some (.ref 91)], [], (hM Z M)) := rfl
set_option maxRecDepth 100000 in
theorem kM_every (d : Nat) (Z : ZT) (M : MS)  : call PGM (d + 1) yM_every [.ref 91] (hM Z M) = sem PGM d yM_every (0, [some (.ref 91)], [], (hM Z M)) := rfl
set_option maxRecDepth 100000 in
theorem kM_single (d : Nat) (Z : ZT) (M : MS)  : call PGM (d + 1) yM_single [.ref 91] (hM Z M) = sem PGM d yM_single (0, [some (.ref 91), none, none], [], (hM Z M)) := rfl
set_option maxRecDepth 100000 in
theorem kM_value (d : Nat) (Z : ZT) (M : MS)  : call PGM (d + 1) yM_value [.ref 91] (hM Z M) = sem PGM d yM_value (0, [some (.ref 91), none, none], [], (hM Z M)) := rfl
set_option maxRecDepth 100000 in
theorem kM_emits (d : Nat) (Z : ZT) (M : MS) (i1 : Int32) : call PGM (d + 1) yM_emits [.ref 91, .int i1] (hM Z M) = sem PGM d yM_emits (0, [some (.ref 91), some (.int i1)], [], (hM Z M)) := rfl
set_option maxRecDepth 100000 in
theorem kM_factHere (d : Nat) (Z : ZT) (M : MS)  : call PGM (d + 1) yM_factHere [.ref 91] (hM Z M) = sem PGM d yM_factHere (0, [some (.ref 91)], [], (hM Z M)) := rfl
set_option maxRecDepth 100000 in
theorem kM_says (d : Nat) (Z : ZT) (M : MS) (i1 : Int32) : call PGM (d + 1) yM_says [.ref 91, .int i1] (hM Z M) = sem PGM d yM_says (0, [some (.ref 91), some (.int i1)], [], (hM Z M)) := rfl
set_option maxRecDepth 100000 in
theorem kM_clauseOf (d : Nat) (Z : ZT) (M : MS) (i1 : Int32) : call PGM (d + 1) yM_clauseOf [.ref 91, .int i1] (hM Z M) = sem PGM d yM_clauseOf (0, [some (.ref 91), some (.int i1), none], [], (hM Z M)) := rfl
set_option maxRecDepth 100000 in
theorem kM_holds (d : Nat) (Z : ZT) (M : MS) (i1 : Int32) (i2 : Int32) : call PGM (d + 1) yM_holds [.ref 91, .int i1, .int i2] (hM Z M) = sem PGM d yM_holds (0, [some (.ref 91), some (.int i1), some (.int i2), none, none, none, none], [], (hM Z M)) := rfl
set_option maxRecDepth 100000 in
theorem kM_factOf (d : Nat) (Z : ZT) (M : MS) (i1 : Int32) (i2 : Int32) : call PGM (d + 1) yM_factOf [.ref 91, .int i1, .int i2] (hM Z M) = sem PGM d yM_factOf (0, [some (.ref 91), some (.int i1), some (.int i2), none], [], (hM Z M)) := rfl
set_option maxRecDepth 100000 in
theorem kM_aheadOf (d : Nat) (Z : ZT) (M : MS) (i1 : Int32) : call PGM (d + 1) yM_aheadOf [.ref 91, .int i1] (hM Z M) = sem PGM d yM_aheadOf (0, [some (.ref 91), some (.int i1)], [], (hM Z M)) := rfl
set_option maxRecDepth 100000 in
theorem kM_lone (d : Nat) (Z : ZT) (M : MS)  : call PGM (d + 1) yM_lone [.ref 91] (hM Z M) = sem PGM d yM_lone (0, [some (.ref 91), none, none], [], (hM Z M)) := rfl
set_option maxRecDepth 100000 in
theorem kM_isAlone (d : Nat) (Z : ZT) (M : MS) (i1 : Int32) : call PGM (d + 1) yM_isAlone [.ref 91, .int i1] (hM Z M) = sem PGM d yM_isAlone (0, [some (.ref 91), some (.int i1)], [], (hM Z M)) := rfl
set_option maxRecDepth 100000 in
theorem kM_both (d : Nat) (h : AH) (i0 : Int32) (i1 : Int32) (i2 : Int32) : call PGM (d + 1) yM_both [.int i0, .int i1, .int i2] h = sem PGM d yM_both (0, [some (.int i0), some (.int i1), some (.int i2)], [], h) := rfl
set_option maxRecDepth 100000 in
theorem kM_fact (d : Nat) (Z : ZT) (M : MS) (i1 : Int32) (i2 : Int32) : call PGM (d + 1) yM_fact [.ref 91, .int i1, .int i2] (hM Z M) = sem PGM d yM_fact (0, [some (.ref 91), some (.int i1), some (.int i2)], [], (hM Z M)) := rfl
set_option maxRecDepth 100000 in
theorem kM_run (d : Nat) (Z : ZT) (M : MS) (i1 : Int32) : call PGM (d + 1) yM_run [.ref 91, .int i1] (hM Z M) = sem PGM d yM_run (0, [some (.ref 91), some (.int i1)], [], (hM Z M)) := rfl
set_option maxRecDepth 100000 in
theorem kM_isLong (d : Nat) (h : AH) (i0 : Int32) : call PGM (d + 1) yM_isLong [.int i0] h = sem PGM d yM_isLong (0, [some (.int i0)], [], h) := rfl
set_option maxRecDepth 100000 in
theorem kM_trial (d : Nat) (Z : ZT) (M : MS) (i1 : Int32) : call PGM (d + 1) yM_trial [.ref 91, .int i1] (hM Z M) = sem PGM d yM_trial (0, [some (.ref 91), some (.int i1), none, none], [], (hM Z M)) := rfl
set_option maxRecDepth 100000 in
theorem kM_goes (d : Nat) (Z : ZT) (M : MS)  : call PGM (d + 1) yM_goes [.ref 91] (hM Z M) = sem PGM d yM_goes (0, [some (.ref 91), none], [], (hM Z M)) := rfl
set_option maxRecDepth 100000 in
theorem kM_stalks (d : Nat) (Z : ZT) (M : MS) (i1 : Int32) : call PGM (d + 1) yM_stalks [.ref 91, .int i1] (hM Z M) = sem PGM d yM_stalks (0, [some (.ref 91), some (.int i1), none, none, none, none, none, none], [], (hM Z M)) := rfl
set_option maxRecDepth 100000 in
theorem kM_herds (d : Nat) (Z : ZT) (M : MS) (i1 : Int32) : call PGM (d + 1) yM_herds [.ref 91, .int i1] (hM Z M) = sem PGM d yM_herds (0, [some (.ref 91), some (.int i1), none, none], [], (hM Z M)) := rfl
set_option maxRecDepth 100000 in
theorem kM_does (d : Nat) (Z : ZT) (M : MS) (i1 : Int32) : call PGM (d + 1) yM_does [.ref 91, .int i1] (hM Z M) = sem PGM d yM_does (0, [some (.ref 91), some (.int i1), none, none, none], [], (hM Z M)) := rfl
set_option maxRecDepth 100000 in
theorem kM_runs (d : Nat) (Z : ZT) (M : MS) (i1 : Int32) : call PGM (d + 1) yM_runs [.ref 91, .int i1] (hM Z M) = sem PGM d yM_runs (0, [some (.ref 91), some (.int i1), none, none, none, none, none], [], (hM Z M)) := rfl
set_option maxRecDepth 100000 in
theorem kM_isFree (d : Nat) (Z : ZT) (M : MS) (i1 : Int32) : call PGM (d + 1) yM_isFree [.ref 91, .int i1] (hM Z M) = sem PGM d yM_isFree (0, [some (.ref 91), some (.int i1)], [], (hM Z M)) := rfl
set_option maxRecDepth 100000 in
theorem kM_harms (d : Nat) (Z : ZT) (M : MS)  : call PGM (d + 1) yM_harms [.ref 91] (hM Z M) = sem PGM d yM_harms (0, [some (.ref 91), none, none, none], [], (hM Z M)) := rfl
set_option maxRecDepth 100000 in
theorem kM_harmTo (d : Nat) (Z : ZT) (M : MS) (i1 : Int32) : call PGM (d + 1) yM_harmTo [.ref 91, .int i1] (hM Z M) = sem PGM d yM_harmTo (0, [some (.ref 91), some (.int i1), none, none, none, none], [], (hM Z M)) := rfl
set_option maxRecDepth 100000 in
theorem kM_sees (d : Nat) (Z : ZT) (M : MS) (i1 : Int32) : call PGM (d + 1) yM_sees [.ref 91, .int i1] (hM Z M) = sem PGM d yM_sees (0, [some (.ref 91), some (.int i1), none], [], (hM Z M)) := rfl
set_option maxRecDepth 100000 in
theorem kM_heaps (d : Nat) (Z : ZT) (M : MS)  : call PGM (d + 1) yM_heaps [.ref 91] (hM Z M) = sem PGM d yM_heaps (0, [some (.ref 91), none, none, none], [], (hM Z M)) := rfl
set_option maxRecDepth 100000 in
theorem kM_morning (d : Nat) (Z : ZT) (M : MS) (i1 : Int32) : call PGM (d + 1) yM_morning [.ref 91, .int i1] (hM Z M) = sem PGM d yM_morning (0, [some (.ref 91), some (.int i1), none, none, none, none, none], [], (hM Z M)) := rfl
set_option maxRecDepth 100000 in
theorem kM_odds (d : Nat) (Z : ZT) (M : MS) (i1 : Int32) (i2 : Int32) (i3 : Int32) : call PGM (d + 1) yM_odds [.ref 91, .int i1, .int i2, .int i3] (hM Z M) = sem PGM d yM_odds (0, [some (.ref 91), some (.int i1), some (.int i2), some (.int i3), none, none], [], (hM Z M)) := rfl
set_option maxRecDepth 100000 in
theorem kM_hurtsIn (d : Nat) (Z : ZT) (M : MS) (i1 : Int32) (i2 : Int32) (i3 : Int32) (i4 : Int32) : call PGM (d + 1) yM_hurtsIn [.ref 91, .int i1, .int i2, .int i3, .int i4] (hM Z M) = sem PGM d yM_hurtsIn (0, [some (.ref 91), some (.int i1), some (.int i2), some (.int i3), some (.int i4), none, none, none], [], (hM Z M)) := rfl
set_option maxRecDepth 100000 in
theorem kM_puts (d : Nat) (Z : ZT) (M : MS)  : call PGM (d + 1) yM_puts [.ref 91] (hM Z M) = sem PGM d yM_puts (0, [some (.ref 91), none], [], (hM Z M)) := rfl
set_option maxRecDepth 100000 in
theorem kM_putsBack (d : Nat) (Z : ZT) (M : MS)  : call PGM (d + 1) yM_putsBack [.ref 91] (hM Z M) = sem PGM d yM_putsBack (0, [some (.ref 91), none], [], (hM Z M)) := rfl
set_option maxRecDepth 100000 in
theorem kM_begin (d : Nat) (Z : ZT) (M : MS) (i1 : Int32) (i2 : Int32) : call PGM (d + 1) yM_begin [.ref 91, .int i1, .int i2] (hM Z M) = sem PGM d yM_begin (0, [some (.ref 91), some (.int i1), some (.int i2), none, none, none, none], [], (hM Z M)) := rfl
set_option maxRecDepth 100000 in
theorem kM_door (d : Nat) (Z : ZT) (M : MS) (i1 : Int32) : call PGM (d + 1) yM_door [.ref 91, .int i1] (hM Z M) = sem PGM d yM_door (0, [some (.ref 91), some (.int i1), none, none, none, none, none], [], (hM Z M)) := rfl
set_option maxRecDepth 100000 in
theorem kM_harmIn (d : Nat) (Z : ZT) (M : MS) (i1 : Int32) : call PGM (d + 1) yM_harmIn [.ref 91, .int i1] (hM Z M) = sem PGM d yM_harmIn (0, [some (.ref 91), some (.int i1), none], [], (hM Z M)) := rfl
set_option maxRecDepth 100000 in
theorem kM_limit (d : Nat) (Z : ZT) (M : MS) (i1 : Int32) : call PGM (d + 1) yM_limit [.ref 91, .int i1] (hM Z M) = sem PGM d yM_limit (0, [some (.ref 91), some (.int i1), none], [], (hM Z M)) := rfl
set_option maxRecDepth 100000 in
theorem kM_isHeapedBy (d : Nat) (Z : ZT) (M : MS) (i1 : Int32) (i2 : Int32) : call PGM (d + 1) yM_isHeapedBy [.ref 91, .int i1, .int i2] (hM Z M) = sem PGM d yM_isHeapedBy (0, [some (.ref 91), some (.int i1), some (.int i2), none, none, none], [], (hM Z M)) := rfl
set_option maxRecDepth 100000 in
theorem kM_law (d : Nat) (Z : ZT) (M : MS) (i1 : Int32) (i2 : Int32) : call PGM (d + 1) yM_law [.ref 91, .int i1, .int i2] (hM Z M) = sem PGM d yM_law (0, [some (.ref 91), some (.int i1), some (.int i2), none, none], [], (hM Z M)) := rfl
set_option maxRecDepth 100000 in
theorem kM_together (d : Nat) (Z : ZT) (M : MS) (i1 : Int32) : call PGM (d + 1) yM_together [.ref 91, .int i1] (hM Z M) = sem PGM d yM_together (0, [some (.ref 91), some (.int i1), none, none, none], [], (hM Z M)) := rfl
set_option maxRecDepth 100000 in
theorem kM_harm (d : Nat) (Z : ZT) (M : MS) (i1 : Int32) : call PGM (d + 1) yM_harm [.ref 91, .int i1] (hM Z M) = sem PGM d yM_harm (0, [some (.ref 91), some (.int i1)], [], (hM Z M)) := rfl
set_option maxRecDepth 100000 in
theorem kM_prove (d : Nat) (Z : ZT) (M : MS) (i1 : Int32) : call PGM (d + 1) yM_prove [.ref 91, .int i1] (hM Z M) = sem PGM d yM_prove (0, [some (.ref 91), some (.int i1), none, none], [], (hM Z M)) := rfl
set_option maxRecDepth 100000 in
theorem kM_row (d : Nat) (Z : ZT) (M : MS) (i1 : Int32) (i2 : Int32) : call PGM (d + 1) yM_row [.ref 91, .int i1, .int i2] (hM Z M) = sem PGM d yM_row (0, [some (.ref 91), some (.int i1), some (.int i2)], [], (hM Z M)) := rfl
set_option maxRecDepth 100000 in
theorem kM_alterRow (d : Nat) (Z : ZT) (M : MS) (i1 : Int32) (i2 : Int32) (i3 : Int32) : call PGM (d + 1) yM_alterRow [.ref 91, .int i1, .int i2, .int i3] (hM Z M) = sem PGM d yM_alterRow (0, [some (.ref 91), some (.int i1), some (.int i2), some (.int i3), none], [], (hM Z M)) := rfl
set_option maxRecDepth 100000 in
theorem kM_judge (d : Nat) (Z : ZT) (M : MS)  : call PGM (d + 1) yM_judge [.ref 91] (hM Z M) = sem PGM d yM_judge (0, [some (.ref 91), none], [], (hM Z M)) := rfl
set_option maxRecDepth 100000 in
theorem kM_sheet (d : Nat) (Z : ZT) (M : MS) (i1 : Int32) (i2 : Int32) (i3 : Int32) : call PGM (d + 1) yM_sheet [.ref 91, .int i1, .int i2, .int i3] (hM Z M) = sem PGM d yM_sheet (0, [some (.ref 91), some (.int i1), some (.int i2), some (.int i3), none], [], (hM Z M)) := rfl
set_option maxRecDepth 100000 in
theorem kM_isOne (d : Nat) (h : AH) (i0 : Int32) : call PGM (d + 1) yM_isOne [.int i0] h = sem PGM d yM_isOne (0, [some (.int i0)], [], h) := rfl
set_option maxRecDepth 100000 in
theorem kM_put (d : Nat) (Z : ZT) (M : MS) (i1 : Int32) (i2 : Int32) (i3 : Int32) : call PGM (d + 1) yM_put [.ref 91, .int i1, .int i2, .int i3] (hM Z M) = sem PGM d yM_put (0, [some (.ref 91), some (.int i1), some (.int i2), some (.int i3)], [], (hM Z M)) := rfl
set_option maxRecDepth 100000 in
theorem kM_narrowed (d : Nat) (h : AH) (i0 : Int32) (i1 : Int32) : call PGM (d + 1) yM_narrowed [.int i0, .int i1] h = sem PGM d yM_narrowed (0, [some (.int i0), some (.int i1)], [], h) := rfl
set_option maxRecDepth 100000 in
theorem kM_item (d : Nat) (Z : ZT) (M : MS) (i1 : Int32) (i2 : Int32) (i3 : Int32) : call PGM (d + 1) yM_item [.ref 91, .int i1, .int i2, .int i3] (hM Z M) = sem PGM d yM_item (0, [some (.ref 91), some (.int i1), some (.int i2), some (.int i3), none], [], (hM Z M)) := rfl
set_option maxRecDepth 100000 in
theorem kM_taking (d : Nat) (Z : ZT) (M : MS) (i1 : Int32) (i2 : Int32) : call PGM (d + 1) yM_taking [.ref 91, .int i1, .int i2] (hM Z M) = sem PGM d yM_taking (0, [some (.ref 91), some (.int i1), some (.int i2)], [], (hM Z M)) := rfl
set_option maxRecDepth 100000 in
theorem kM_widths (d : Nat) (Z : ZT) (M : MS) (i1 : Int32) (i2 : Int32) (i3 : Int32) : call PGM (d + 1) yM_widths [.ref 91, .int i1, .int i2, .int i3] (hM Z M) = sem PGM d yM_widths (0, [some (.ref 91), some (.int i1), some (.int i2), some (.int i3), none, none, none, none, none, none], [], (hM Z M)) := rfl
set_option maxRecDepth 100000 in
theorem kM_shelf (d : Nat) (Z : ZT) (M : MS) (i1 : Int32) (i2 : Int32) (i3 : Int32) : call PGM (d + 1) yM_shelf [.ref 91, .int i1, .int i2, .int i3] (hM Z M) = sem PGM d yM_shelf (0, [some (.ref 91), some (.int i1), some (.int i2), some (.int i3), none], [], (hM Z M)) := rfl
set_option maxRecDepth 100000 in
theorem kM_taken (d : Nat) (Z : ZT) (M : MS) (i1 : Int32) (i2 : Int32) : call PGM (d + 1) yM_taken [.ref 91, .int i1, .int i2] (hM Z M) = sem PGM d yM_taken (0, [some (.ref 91), some (.int i1), some (.int i2), none], [], (hM Z M)) := rfl
set_option maxRecDepth 100000 in
theorem kM_takes (d : Nat) (Z : ZT) (M : MS) (i1 : Int32) : call PGM (d + 1) yM_takes [.ref 91, .int i1] (hM Z M) = sem PGM d yM_takes (0, [some (.ref 91), some (.int i1), none], [], (hM Z M)) := rfl
set_option maxRecDepth 100000 in
theorem kM_act (d : Nat) (Z : ZT) (M : MS) (i1 : Int32) (i2 : Int32) (i3 : Int32) : call PGM (d + 1) yM_act [.ref 91, .int i1, .int i2, .int i3] (hM Z M) = sem PGM d yM_act (0, [some (.ref 91), some (.int i1), some (.int i2), some (.int i3), none], [], (hM Z M)) := rfl
set_option maxRecDepth 100000 in
theorem kM_runsOf (d : Nat) (Z : ZT) (M : MS) (i1 : Int32) : call PGM (d + 1) yM_runsOf [.ref 91, .int i1] (hM Z M) = sem PGM d yM_runsOf (0, [some (.ref 91), some (.int i1)], [], (hM Z M)) := rfl
set_option maxRecDepth 100000 in
theorem kM_runningRuns (d : Nat) (Z : ZT) (M : MS) (i1 : Int32) : call PGM (d + 1) yM_runningRuns [.ref 91, .int i1] (hM Z M) = sem PGM d yM_runningRuns (0, [some (.ref 91), some (.int i1)], [], (hM Z M)) := rfl
set_option maxRecDepth 100000 in
theorem kM_ran (d : Nat) (Z : ZT) (M : MS) (i1 : Int32) : call PGM (d + 1) yM_ran [.ref 91, .int i1] (hM Z M) = sem PGM d yM_ran (0, [some (.ref 91), some (.int i1)], [], (hM Z M)) := rfl
set_option maxRecDepth 100000 in
theorem kM_anyRuns (d : Nat) (Z : ZT) (M : MS) (i1 : Int32) : call PGM (d + 1) yM_anyRuns [.ref 91, .int i1] (hM Z M) = sem PGM d yM_anyRuns (0, [some (.ref 91), some (.int i1)], [], (hM Z M)) := rfl
set_option maxRecDepth 100000 in
theorem kM_seesOf (d : Nat) (Z : ZT) (M : MS) (i1 : Int32) : call PGM (d + 1) yM_seesOf [.ref 91, .int i1] (hM Z M) = sem PGM d yM_seesOf (0, [some (.ref 91), some (.int i1), none], [], (hM Z M)) := rfl
set_option maxRecDepth 100000 in
theorem kM_standingSees (d : Nat) (Z : ZT) (M : MS) (i1 : Int32) : call PGM (d + 1) yM_standingSees [.ref 91, .int i1] (hM Z M) = sem PGM d yM_standingSees (0, [some (.ref 91), some (.int i1)], [], (hM Z M)) := rfl
set_option maxRecDepth 100000 in
theorem kM_anySees (d : Nat) (Z : ZT) (M : MS) (i1 : Int32) : call PGM (d + 1) yM_anySees [.ref 91, .int i1] (hM Z M) = sem PGM d yM_anySees (0, [some (.ref 91), some (.int i1)], [], (hM Z M)) := rfl
set_option maxRecDepth 100000 in
theorem kM_fallsOf (d : Nat) (Z : ZT) (M : MS) (i1 : Int32) : call PGM (d + 1) yM_fallsOf [.ref 91, .int i1] (hM Z M) = sem PGM d yM_fallsOf (0, [some (.ref 91), some (.int i1)], [], (hM Z M)) := rfl
set_option maxRecDepth 100000 in
theorem kM_fallenFalls (d : Nat) (Z : ZT) (M : MS) (i1 : Int32) : call PGM (d + 1) yM_fallenFalls [.ref 91, .int i1] (hM Z M) = sem PGM d yM_fallenFalls (0, [some (.ref 91), some (.int i1)], [], (hM Z M)) := rfl
set_option maxRecDepth 100000 in
theorem kM_anyFalls (d : Nat) (Z : ZT) (M : MS) (i1 : Int32) : call PGM (d + 1) yM_anyFalls [.ref 91, .int i1] (hM Z M) = sem PGM d yM_anyFalls (0, [some (.ref 91), some (.int i1)], [], (hM Z M)) := rfl
set_option maxRecDepth 100000 in
theorem kM_harmsOf (d : Nat) (Z : ZT) (M : MS) (i1 : Int32) : call PGM (d + 1) yM_harmsOf [.ref 91, .int i1] (hM Z M) = sem PGM d yM_harmsOf (0, [some (.ref 91), some (.int i1), none], [], (hM Z M)) := rfl
set_option maxRecDepth 100000 in
theorem kM_anyHarms (d : Nat) (Z : ZT) (M : MS) (i1 : Int32) : call PGM (d + 1) yM_anyHarms [.ref 91, .int i1] (hM Z M) = sem PGM d yM_anyHarms (0, [some (.ref 91), some (.int i1)], [], (hM Z M)) := rfl
set_option maxRecDepth 100000 in
theorem kM_trace (d : Nat) (Z : ZT) (M : MS) (i1 : Int32) : call PGM (d + 1) yM_trace [.ref 91, .int i1] (hM Z M) = sem PGM d yM_trace (0, [some (.ref 91), some (.int i1)], [], (hM Z M)) := rfl
set_option maxRecDepth 100000 in
theorem kM_many (d : Nat) (Z : ZT) (M : MS) (i1 : Int32) : call PGM (d + 1) yM_many [.ref 91, .int i1] (hM Z M) = sem PGM d yM_many (0, [some (.ref 91), some (.int i1)], [], (hM Z M)) := rfl
set_option maxRecDepth 100000 in
theorem kM_keep (d : Nat) (Z : ZT) (M : MS)  : call PGM (d + 1) yM_keep [.ref 91] (hM Z M) = sem PGM d yM_keep (0, [some (.ref 91), none], [], (hM Z M)) := rfl
set_option maxRecDepth 100000 in
theorem kM_again (d : Nat) (Z : ZT) (M : MS)  : call PGM (d + 1) yM_again [.ref 91] (hM Z M) = sem PGM d yM_again (0, [some (.ref 91), none], [], (hM Z M)) := rfl
