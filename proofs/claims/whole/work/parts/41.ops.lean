/-! CONDS as lists of operations, what is joined ahead of what joins it: (0 less, 1 same, 2 more, 3 and, 4 or, 5 not; VALUE; VALUE). -/
abbrev Op : Type := Nat × Nat × Nat
def opM (x : Op) : List Int32 := if x.1 < 3 then [nI x.2.1, nI x.2.2, nI (10080 + x.1)] else if x.1 = 3 then [nI 10011] else if x.1 = 4 then [nI 10012] else [nI 10010]
def opsM : List Op → List Int32
  | [] => []
  | x :: l => opM x ++ opsM l
def opC (x : Op) : Int32 := nI (x.1 * 268435456 + x.2.1 * 16384 + x.2.2)
def okOp (x : Op) : Prop := x.1 < 6 ∧ x.2.1 < 10006 ∧ x.2.2 < 10006
def valO (f : Nat → Int32) (v : Nat) : Int32 := if v < 10000 then nI v else f (v - 10000)
def cmpO (t : Nat) (a b : Int32) : Bool := if t = 0 then decide (a < b) else if t = 1 then decide (a = b) else decide (b < a)
def stO (f : Nat → Int32) (x : Op) (st : List Bool) : List Bool :=
  if x.1 < 3 then cmpO x.1 (valO f x.2.1) (valO f x.2.2) :: st else
    match st with
    | [] => []
    | a :: r => if x.1 = 5 then (!a) :: r else
      match r with
      | [] => []
      | b :: q => (if x.1 = 3 then b && a else b || a) :: q
def evO (f : Nat → Int32) : List Op → List Bool → List Bool
  | [], st => st
  | x :: l, st => evO f l (stO f x st)
/-- never below nothing, never above 30, one in the end -/
def okS : List Op → Nat → Prop
  | [], d => d = 1
  | x :: l, d => okOp x ∧ (if x.1 < 3 then d < 30 ∧ okS l (d + 1) else if x.1 = 5 then 1 ≤ d ∧ okS l d else 2 ≤ d ∧ okS l (d - 1))
def pileR (q : Nat → Int32) : List Bool → Prop
  | [] => True
  | b :: st => q st.length = bI b ∧ pileR q st
theorem pileR_upd {q : Nat → Int32} {v : Int32} : ∀ {st : List Bool} {n : Nat}, st.length ≤ n → pileR q st → pileR (upd q n v) st
  | [], _, _, _ => trivial
  | b :: st, n, hl, h => by
    have hl' : st.length < n := by simp at hl; omega
    refine ⟨?_, pileR_upd (by omega) h.2⟩
    rw [upd_ne (by omega)]
    exact h.1
theorem pileR_push {q : Nat → Int32} {st : List Bool} {b : Bool} (h : pileR q st) : pileR (upd q st.length (bI b)) (b :: st) :=
  ⟨upd_eq _ _ _, pileR_upd (Nat.le_refl _) h⟩
