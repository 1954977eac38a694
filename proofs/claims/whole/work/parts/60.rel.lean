/-! The class's street against the model's row. -/
theorem up_s {α : Type} (f : Nat → α) (k : Nat) (v : α) : up f k v k = v := by simp [up]
theorem up_n {α : Type} {f : Nat → α} {k j : Nat} {v : α} (h : j ≠ k) : up f k v j = f j := by
  have : Nat.beq j k = false := by
    cases e : Nat.beq j k with
    | true => exact absurd (Nat.eq_of_beq_eq_true e) h
    | false => rfl
  simp [up, this]
theorem sA_s (S : SS) (k : Nat) (f : Nat → Int32) : (sA S k f).1 k = f := up_s _ _ _
theorem sA_n {S : SS} {k j : Nat} {f : Nat → Int32} (h : j ≠ k) : (sA S k f).1 j = S.1 j := up_n h
theorem sA_2 (S : SS) (k : Nat) (f : Nat → Int32) : (sA S k f).2 = S.2 := id rfl
theorem sV_1 (S : SS) (k : Nat) (v : Int32) : (sV S k v).1 = S.1 := id rfl
theorem sV_s (S : SS) (k : Nat) (v : Int32) : (sV S k v).2.1 k = v := up_s _ _ _
theorem sV_n {S : SS} {k j : Nat} {v : Int32} (h : j ≠ k) : (sV S k v).2.1 j = S.2.1 j := up_n h
theorem sV_L (S : SS) (k : Nat) (v : Int32) : (sV S k v).2.2 = S.2.2 := id rfl
def rsV (S : SS) (s : Nat → Int32) : Prop := ∀ k, k < 5 → S.2.1 k = s k
def rsC (S : SS) (s : Nat → Int32) : Prop := ∀ c, c < 30 → S.1 0 c = s (9 + 3 * c) ∧ S.1 1 c = s (9 + 3 * c + 1) ∧ S.1 2 c = s (9 + 3 * c + 2)
def rsP (S : SS) (s : Nat → Int32) (np : Nat) : Prop := ∀ p, p < np → S.1 5 p = s (99 + 4 * p) ∧ S.1 6 p = s (99 + 4 * p + 1) ∧ S.1 7 p = s (99 + 4 * p + 2) ∧ S.1 8 p = s (99 + 4 * p + 3)
def rsB (S : SS) (s : Nat → Int32) (nb : Nat) : Prop := ∀ b, b < nb → S.1 9 b = s (179 + 3 * b) ∧ S.1 10 b = s (179 + 3 * b + 1) ∧ S.1 11 b = s (179 + 3 * b + 2)
def rsR (S : SS) (s : Nat → Int32) : Prop := ∀ k, k < 3 → S.1 12 k = s (5 + k)
def rsN (S : SS) (s : Nat → Int32) (np : Nat) : Prop := ∀ c, c < 30 → S.1 3 c = nI (crN s (nI c) np) ∧ S.1 4 c = nI (faN s (nI c) np)
def RS (S : SS) (s : Nat → Int32) (np nb : Nat) : Prop := rsV S s ∧ rsC S s ∧ rsP S s np ∧ rsB S s nb ∧ rsR S s ∧ rsN S s np
/-- what a walk leaves: the CLAUSE left out, LAWS -/
def sF (S S' : SS) : Prop := S'.2.1 5 = S.2.1 5 ∧ S'.2.2 = S.2.2
