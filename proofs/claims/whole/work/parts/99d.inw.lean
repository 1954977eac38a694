/-! Constructor of Rows, over any heap. -/
set_option maxRecDepth 100000 in
theorem eW_init_0 (d : Nat) (h : AH) (r0 : Nat) : sem PGM d yW_init (0, [some (.ref r0)], [], h) =
    bif Nat.ble 12 r0 && true then sem PGM d yW_init (8, [some (.ref r0)], [.int 24, .int 3, .ref r0], h) else none := (ev_eq PGM d yW_init [8] 400 _).trans rfl
