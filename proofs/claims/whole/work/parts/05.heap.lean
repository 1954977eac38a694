/-! The static cells: given ones (0 to 11), the class's (12 to 42), its three streets (43, 59, 75), the model's (91 to 107); what is made later lies behind. Written by wip/whole/gen/heap.py. -/
abbrev GT : Type := Nat × (Nat → Int32)
abbrev SS : Type := (Nat → Nat → Int32) × (Nat → Int32) × Nat
abbrev XS : Type := (Nat → Nat → Int32) × (Nat → Int32) × (Nat → Nat → Option Nat)
abbrev MS : Type := (Nat → Nat → Int32) × (Nat → Int32)
def up {α : Type} (f : Nat → α) (k : Nat) (v : α) : Nat → α := fun j => bif Nat.beq j k then v else f j
def sA (S : SS) (k : Nat) (f : Nat → Int32) : SS := (up S.1 k f, S.2)
def sV (S : SS) (k : Nat) (v : Int32) : SS := (S.1, up S.2.1 k v, S.2.2)
def sL (S : SS) (l : Nat) : SS := (S.1, S.2.1, l)
def xA (X : XS) (k : Nat) (f : Nat → Int32) : XS := (up X.1 k f, X.2)
def xV (X : XS) (k : Nat) (v : Int32) : XS := (X.1, up X.2.1 k v, X.2.2)
def xO (X : XS) (k : Nat) (f : Nat → Option Nat) : XS := (X.1, X.2.1, up X.2.2 k f)
def mA (M : MS) (k : Nat) (f : Nat → Int32) : MS := (up M.1 k f, M.2)
def mV (M : MS) (k : Nat) (v : Int32) : MS := (M.1, up M.2 k v)
def gvL1 : List Int32 := [255, 50, 132, 72, 16, 32, 64, 128, 256]
def gvL2 : List Int32 := [0, 1, 0, 0, 2, 2, 1, 0, 0]
def gvL3 : List Int32 := [3, 0, 0]
def gvL4 : List Int32 := [1, 0, 0]
def gvL5 : List Int32 := [9, 4, 1]
def gvL6 : List Int32 := [3, 2, 3]
def gvL7 : List Int32 := [1, 0, 2]
def gvL8 : List Int32 := [9, 9, 9]
def gvA (k : Nat) : Nat → Int32 := fun j => (bif Nat.blt k 5 then (bif Nat.blt k 3 then (bif Nat.beq k 1 then gvL1 else (bif Nat.beq k 2 then gvL2 else [])) else (bif Nat.beq k 3 then gvL3 else (bif Nat.beq k 4 then gvL4 else []))) else (bif Nat.blt k 7 then (bif Nat.beq k 5 then gvL5 else (bif Nat.beq k 6 then gvL6 else [])) else (bif Nat.beq k 7 then gvL7 else (bif Nat.beq k 8 then gvL8 else [])))).getD j 0
def strB : List Int32 := [110, 101, 97, 114, 32, 99, 114, 111, 119, 100, 32, 97, 104, 101, 97, 100, 32, 112, 108, 97, 99, 101, 32, 116, 105, 99, 107, 32, 108, 111, 110, 101, 32, 97, 108, 108, 32, 114, 117, 110, 110, 105, 110, 103, 32, 115, 116, 97, 110, 100, 105, 110, 103, 32, 102, 97, 108, 108, 101, 110, 32, 116, 111, 117, 99, 104, 105, 110, 103, 32, 110, 101, 119, 32, 104, 101, 97, 112, 101, 100, 32, 108, 101, 97, 118, 105, 110, 103, 32, 114, 117, 110, 32, 115, 116, 97, 110, 100, 32, 108, 101, 97, 118, 101, 32, 100, 111, 119, 110, 32, 105, 102, 32, 111, 114, 32, 97, 110, 100, 32, 110, 111, 116]
def gv (g : GT) : AH := [.inl (.int, g.1, .inl g.2), .inl (.int, 9, .inl (gvA 1)), .inl (.int, 9, .inl (gvA 2)), .inl (.int, 3, .inl (gvA 3)), .inl (.int, 3, .inl (gvA 4)), .inl (.int, 3, .inl (gvA 5)), .inl (.int, 3, .inl (gvA 6)), .inl (.int, 3, .inl (gvA 7)), .inl (.int, 3, .inl (gvA 8)), .inr (98, []), .inr (99, [.ref 11, .int 0]), .inl (.byte, 123, .inl (fun j => strB.getD j 0))]
def blkX (X : XS) : AH := [.inr (6, [.ref 43, .ref 59, .ref 75, .int (X.2.1 0), .ref 13, .int (X.2.1 1), .ref 14, .ref 22, .ref 27, .ref 32, .ref 33, .ref 34, .ref 35, .ref 36]),
  .inl (.byte, 200, .inl (X.1 0)),
  .inr (2, [.ref 15, .ref 16, .ref 17, .int (X.2.1 2), .int (X.2.1 3), .ref 18, .ref 19, .ref 20, .ref 21, .int (X.2.1 4), .int (X.2.1 5)]),
  .inl (.int, 201, .inl (X.1 1)),
  .inl (.int, 201, .inl (X.1 2)),
  .inl (.int, 201, .inl (X.1 3)),
  .inl (.int, 8, .inl (X.1 4)),
  .inl (.int, 8, .inl (X.1 5)),
  .inl (.int, 8, .inl (X.1 6)),
  .inl (.int, 200, .inl (X.1 7)),
  .inr (3, [.int (X.2.1 6), .ref 23]),
  .inl (.array .int, refs 3 (fun i => if i < 3 then some (24 + i) else none)),
  .inl (.int, 24, .inl (X.1 8)),
  .inl (.int, 24, .inl (X.1 9)),
  .inl (.int, 24, .inl (X.1 10)),
  .inr (3, [.int (X.2.1 7), .ref 28]),
  .inl (.array .int, refs 3 (fun i => if i < 3 then some (29 + i) else none)),
  .inl (.int, 24, .inl (X.1 11)),
  .inl (.int, 24, .inl (X.1 12)),
  .inl (.int, 24, .inl (X.1 13)),
  .inl (.char, refs 4 (X.2.2 0)),
  .inl (.char, refs 4 (X.2.2 1)),
  .inl (.int, 4, .inl (X.1 14)),
  .inl (.int, 4, .inl (X.1 15)),
  .inr (0, [.int (X.2.1 8), .ref 37, .int (X.2.1 9), .int (X.2.1 10), .int (X.2.1 11), .int (X.2.1 12)]),
  .inl (.int, 30, .inl (X.1 16)),
  .inr (1, [.int 0, .ref 39, .ref 40, .ref 41, .ref 42]),
  .inl (.int, 0, .inl (fun _ => 0)),
  .inl (.int, 0, .inl (fun _ => 0)),
  .inl (.int, 0, .inl (fun _ => 0)),
  .inl (.int, 0, .inl (fun _ => 0))]
def blkS (o : Nat) (S : SS) : AH := [.inr (5, [.int (S.2.1 0), .ref (o + 1), .ref (o + 5), .ref (o + 6), .int (S.2.1 1), .ref (o + 7), .ref (o + 8), .ref (o + 9), .ref (o + 10), .int (S.2.1 2), .ref (o + 11), .ref (o + 12), .ref (o + 13), .ref (o + 14), .int (S.2.1 3), .int (S.2.1 4), .ref S.2.2, .int (S.2.1 5), .ref (o + 15)]),
  .inl (.array .int, refs 3 (fun i => if i < 3 then some (o + 2 + i) else none)),
  .inl (.int, 30, .inl (S.1 0)),
  .inl (.int, 30, .inl (S.1 1)),
  .inl (.int, 30, .inl (S.1 2)),
  .inl (.int, 30, .inl (S.1 3)),
  .inl (.int, 30, .inl (S.1 4)),
  .inl (.int, 20, .inl (S.1 5)),
  .inl (.int, 20, .inl (S.1 6)),
  .inl (.int, 20, .inl (S.1 7)),
  .inl (.int, 20, .inl (S.1 8)),
  .inl (.int, 6, .inl (S.1 9)),
  .inl (.int, 6, .inl (S.1 10)),
  .inl (.int, 6, .inl (S.1 11)),
  .inl (.int, 3, .inl (S.1 12)),
  .inl (.int, 6, .inl (S.1 13))]
def blkM (M : MS) : AH := [.inr (7, [.ref 92, .ref 93, .ref 94, .int (M.2 0), .ref 95, .ref 96, .ref 97, .int (M.2 1), .int (M.2 2), .int (M.2 3), .int (M.2 4), .int (M.2 5), .int (M.2 6), .int (M.2 7), .ref 98, .int (M.2 8), .ref 99, .int (M.2 9), .int (M.2 10), .int (M.2 11), .int (M.2 12), .int (M.2 13), .ref 100, .int (M.2 14), .ref 101, .ref 102, .ref 103, .ref 104, .ref 105, .ref 106, .int (M.2 15), .int (M.2 16), .int (M.2 17), .ref 107, .int (M.2 18), .int (M.2 19)]),
  .inl (.int, 437, .inl (M.1 0)),
  .inl (.int, 437, .inl (M.1 1)),
  .inl (.int, 437, .inl (M.1 2)),
  .inl (.int, 200, .inl (M.1 3)),
  .inl (.int, 200, .inl (M.1 4)),
  .inl (.int, 40, .inl (M.1 5)),
  .inl (.int, 200, .inl (M.1 6)),
  .inl (.int, 72, .inl (M.1 7)),
  .inl (.int, 72, .inl (M.1 8)),
  .inl (.int, 4, .inl (M.1 9)),
  .inl (.int, 4, .inl (M.1 10)),
  .inl (.int, 160, .inl (M.1 11)),
  .inl (.int, 4, .inl (M.1 12)),
  .inl (.int, 4, .inl (M.1 13)),
  .inl (.int, 4, .inl (M.1 14)),
  .inl (.int, 30, .inl (M.1 15))]
def heapOf (g : GT) (X : XS) (N T K : SS) (M : MS) (dd : AH) : AH := gv g ++ (blkX X ++ (blkS 43 N ++ (blkS 59 T ++ (blkS 75 K ++ (blkM M ++ dd)))))
/-- what lies beside the street in focus: the other of now and trial, the kept one -/
abbrev RT : Type := GT × XS × SS × SS × MS × AH
def hS (o : Nat) (S : SS) (Z : RT) : AH := bif Nat.beq o 43 then heapOf Z.1 Z.2.1 S Z.2.2.1 Z.2.2.2.1 Z.2.2.2.2.1 Z.2.2.2.2.2 else heapOf Z.1 Z.2.1 Z.2.2.1 S Z.2.2.2.1 Z.2.2.2.2.1 Z.2.2.2.2.2
