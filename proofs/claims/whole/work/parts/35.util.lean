/-! Numbers: what the walks of the methods use again and again. -/
theorem inb_nI {j n : Nat} (h : j < 2147483648) : inb (nI j) n = decide (j < n) := by
  unfold inb
  rw [nI_clamp (by omega)]
  have h0 : ¬ nI j < 0 := nI_pos (by omega)
  by_cases e : j < n
  · simp [h0, e, Nat.not_le.mpr e]
  · simp [e, Nat.not_lt.mp e]
theorem inb_neg {x : Int32} {n : Nat} (h : x < 0) : inb x n = false := by
  unfold inb
  simp [h]
theorem in_lt {x : Int32} {n : Nat} (hn : n < 2147483648) (h : inb x n = true) : ∃ j : Nat, j < n ∧ x = nI j := by
  have h1 := inb_in h
  exact vp_in_of h1 (by omega)
theorem dlt {a b : Nat} (ha : a < 2147483648) (hb : b < 2147483648) : decide (nI a < nI b) = decide (a < b) := by
  rw [decide_eq_decide]
  exact nI_ltI (by omega) (by omega)
theorem dle {a b : Nat} (ha : a < 2147483648) (hb : b < 2147483648) : decide (nI a ≤ nI b) = decide (a ≤ b) := by
  rw [decide_eq_decide]
  exact nI_leI (by omega) (by omega)
theorem deq {a b : Nat} (ha : a < 2147483648) (hb : b < 2147483648) : decide (nI a = nI b) = decide (a = b) := by
  rw [decide_eq_decide]
  exact nI_eq (by omega) (by omega)
theorem nclamp {n : Nat} (h : n < 2147483648) : (nI n).toNatClampNeg = n := nI_clamp (by omega)
theorem bif_t {α : Type} {c : Prop} [Decidable c] (h : c) (a b : α) : (bif decide c then a else b) = a := by simp [h]
theorem bif_f {α : Type} {c : Prop} [Decidable c] (h : ¬ c) (a b : α) : (bif decide c then a else b) = b := by simp [h]
theorem call_s (d y : Nat) (as : List Value) (h : AH) (hb : Nat.ble (argL as).length (mloc y) = true) : call PGM (d + 1) y as h = sem PGM d y (0, mkL (mloc y) as, [], h) := by
  show (bif Nat.ble (argL as).length (mloc y) then sem PGM d y (0, mkL (mloc y) as, [], h) else none) = _
  rw [hb]
  rfl
